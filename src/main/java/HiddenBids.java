/**
 * Auctions among two to four players with hidden bids.
 *
 * Every change is tried on a draft of the state, which takes the state's place only if no error came of it: so a call
 * that returns an error changes nothing. All rows are made with the object, and no call makes another one.
 */
public final class HiddenBids {
    public static final int INVALID_ARGUMENT = -1000001;
    public static final int NOT_POSSIBLE = -1000002;
    public static final int LIMIT_REACHED = -1000003;
    public static final int NOT_FOUND = -1000004;

    private static final int FEWEST_PLAYERS = 2;
    private static final int MOST_PLAYERS = 4;
    private static final int MOST_COINS = 30;
    private static final int FIRST_COINS = 20;
    private static final int LEAST_VALUE = -9;
    private static final int GREATEST_VALUE = 20;
    private static final int LOT_LIMIT = 20;
    private static final int STATE_LIMIT = 4;
    private static final int TEXT_LIMIT = 60;
    private static final int LEAST_CHARACTER = 32;
    private static final int GREATEST_CHARACTER = 126;
    private static final int NOBODY = -1;
    private static final int NO_BID = -1;

    private static final int TIE_FEE = 0;
    private static final int OTHERS_FEE = 1;
    private static final int SHARED = 2;
    private static final int SETTING_COUNT = 3;
    private static final int[] FIRST_SETTINGS = {1, 0, 1};
    private static final int[] GREATEST_SETTINGS = {5, 5, 1};

    private static final int WRONG_FORM = 1;
    private static final int WRONG_CALL = 2;

    private final History history = new History();
    private final State snapshot = new State();
    private final Text text = new Text();
    private final Outcome outcome = new Outcome();
    private final Adviser adviser = new Adviser();
    private State state = new State();
    private State draft = new State();
    private boolean hasSnapshot;

    public HiddenBids() {
        hasSnapshot = false;
    }

    // ---- a game

    public int begin(int players, int coins) {
        return adopt(freshDraft().startGame(players, coins));
    }

    public int lot(int value) {
        return adopt(freshDraft().addLot(value));
    }

    public int bid(int player, int coins) {
        return adopt(freshDraft().makeBid(player, coins));
    }

    public int resolve() {
        return adopt(freshDraft().settle(outcome));
    }

    public int set(int what, int value) {
        return adopt(freshDraft().changeSetting(what, value));
    }

    // ---- what there is

    public int playerOf(int player, int what) {
        return state.numberOfPlayer(player, what);
    }

    public int lotOf(int where, int index) {
        return state.valueAt(where, index);
    }

    public int roundOf(int back, int what) {
        return state.log.numberOfRound(back, what, state.players);
    }

    public int record(int index, int what) {
        return state.pairs.numberOfPair(index, what);
    }

    public int count(int what) {
        switch (what) {
            case 10: return history.size;
            case 11: return text.length;
            case 12: return hasSnapshot ? 1 : 0;
            default: return state.number(what);
        }
    }

    public int winner() {
        return state.leader();
    }

    // ---- what should be done

    public int sure(int player) {
        if (!state.hasPlayer(player)) return INVALID_ARGUMENT;
        if (state.isOver()) return NOT_POSSIBLE;
        int safe = state.mostCoinsOfOthers(player) + 1;
        return safe <= state.coins[player] ? safe : NOT_FOUND;
    }

    public int reply(int player) {
        if (!state.hasPlayer(player)) return INVALID_ARGUMENT;
        if (state.isOver() || !state.othersHaveBids(player)) return NOT_POSSIBLE;
        return adviser.bestReply(state, player);
    }

    public int holds(int player, int depth) {
        if (!state.hasPlayer(player) || depth < 0 || depth > 2) return INVALID_ARGUMENT;
        if (state.players != 2) return NOT_POSSIBLE;
        int held = state.points[player] - state.points[1 - player];
        if (depth == 0 || state.isOver()) return held;
        int bid = adviser.bestOpenBid(state, player, depth);
        return held + adviser.gainByOpenBid(state, player, bid, depth);
    }

    public int holding(int player, int depth) {
        if (!state.hasPlayer(player) || depth < 1 || depth > 2) return INVALID_ARGUMENT;
        if (state.players != 2 || state.isOver()) return NOT_POSSIBLE;
        return adviser.bestOpenBid(state, player, depth);
    }

    public int chance(int player) {
        if (!state.hasPlayer(player)) return INVALID_ARGUMENT;
        return state.canLead(player) ? 1 : 0;
    }

    // ---- snapshot, undo

    public int keep() {
        snapshot.copyFrom(state);
        hasSnapshot = true;
        return state.rounds;
    }

    public int restore() {
        if (!hasSnapshot) return NOT_POSSIBLE;
        draft.copyFrom(snapshot);
        return adopt(draft.rounds);
    }

    public int undo() {
        if (history.size == 0) return NOT_POSSIBLE;
        state = history.takeLatest(state);
        return history.size;
    }

    // ---- texts

    public int type(int character) {
        if (character < LEAST_CHARACTER || character > GREATEST_CHARACTER) return INVALID_ARGUMENT;
        return text.append(character);
    }

    public int clearText() {
        int length = text.length;
        text.length = 0;
        return length;
    }

    public int fault(int what) {
        if (what < 0 || what > 2) return INVALID_ARGUMENT;
        text.perform(freshDraft(), outcome);
        return text.numberOfFault(what);
    }

    public int play() {
        text.perform(freshDraft(), outcome);
        return text.reason == 0 ? adopt(text.commands) : NOT_POSSIBLE;
    }

    private State freshDraft() {
        draft.copyFrom(state);
        return draft;
    }

    /** Lets the draft be the state, and the state a part of the history, unless the answer is an error. */
    private int adopt(int answer) {
        if (isError(answer)) return answer;
        State spare = history.add(state);
        state = draft;
        draft = spare;
        return answer;
    }

    /** No call has an answer as low as the error codes but these themselves. */
    private static boolean isError(int answer) {
        return answer <= INVALID_ARGUMENT;
    }

    /** All that a change can change: the game, its rounds, and the settings. */
    private static final class State {
        int players;
        int pot;
        int rounds;
        int openRounds;
        int tableSize;
        int tableSum;
        int rowSize;
        final int[] coins = new int[MOST_PLAYERS];
        final int[] points = new int[MOST_PLAYERS];
        final int[] bids = new int[MOST_PLAYERS];
        final int[] won = new int[MOST_PLAYERS];
        final int[] paid = new int[MOST_PLAYERS];
        final int[] got = new int[MOST_PLAYERS];
        final int[] settings = new int[SETTING_COUNT];
        // The table's lots and behind them the row's: a lot comes on the table without moving here.
        final int[] lots = new int[LOT_LIMIT];
        final RoundLog log = new RoundLog();
        final PairList pairs = new PairList();

        State() {
            System.arraycopy(FIRST_SETTINGS, 0, settings, 0, SETTING_COUNT);
            startGame(FEWEST_PLAYERS, FIRST_COINS);
        }

        void copyFrom(State from) {
            players = from.players;
            pot = from.pot;
            rounds = from.rounds;
            openRounds = from.openRounds;
            tableSize = from.tableSize;
            tableSum = from.tableSum;
            rowSize = from.rowSize;
            System.arraycopy(from.coins, 0, coins, 0, MOST_PLAYERS);
            System.arraycopy(from.points, 0, points, 0, MOST_PLAYERS);
            System.arraycopy(from.bids, 0, bids, 0, MOST_PLAYERS);
            System.arraycopy(from.won, 0, won, 0, MOST_PLAYERS);
            System.arraycopy(from.paid, 0, paid, 0, MOST_PLAYERS);
            System.arraycopy(from.got, 0, got, 0, MOST_PLAYERS);
            System.arraycopy(from.settings, 0, settings, 0, SETTING_COUNT);
            System.arraycopy(from.lots, 0, lots, 0, LOT_LIMIT);
            log.copyFrom(from.log);
            pairs.copyFrom(from.pairs);
        }

        int startGame(int playerCount, int coinCount) {
            if (playerCount < FEWEST_PLAYERS || playerCount > MOST_PLAYERS) return INVALID_ARGUMENT;
            if (coinCount < 0 || coinCount > MOST_COINS) return INVALID_ARGUMENT;
            players = playerCount;
            pot = 0;
            rounds = 0;
            openRounds = 0;
            tableSize = 0;
            tableSum = 0;
            rowSize = 0;
            for (int player = 0; player < MOST_PLAYERS; player++) {
                coins[player] = player < players ? coinCount : 0;
                points[player] = 0;
                bids[player] = NO_BID;
                won[player] = 0;
                paid[player] = 0;
                got[player] = 0;
            }
            log.empty();
            pairs.empty();
            return allCoins();
        }

        int addLot(int value) {
            if (value < LEAST_VALUE || value > GREATEST_VALUE) return INVALID_ARGUMENT;
            if (tableSize + rowSize >= LOT_LIMIT) return LIMIT_REACHED;
            lots[tableSize + rowSize] = value;
            rowSize++;
            return rowSize;
        }

        int makeBid(int player, int amount) {
            if (!hasPlayer(player) || amount < 0) return INVALID_ARGUMENT;
            if (isOver() || amount > coins[player]) return NOT_POSSIBLE;
            bids[player] = amount;
            return bidCount();
        }

        int changeSetting(int what, int value) {
            if (what < 0 || what >= SETTING_COUNT) return INVALID_ARGUMENT;
            if (value < 0 || value > GREATEST_SETTINGS[what]) return INVALID_ARGUMENT;
            int before = settings[what];
            settings[what] = value;
            return before;
        }

        int settle(Outcome outcome) {
            if (isOver() || bidCount() < players) return NOT_POSSIBLE;
            outcome.work(this, bids);
            int stake = nextStake();
            log.add(outcome, stake, bids);
            for (int player = 0; player < players; player++) {
                pairs.note(player, bids[player], player == outcome.winner);
                coins[player] = outcome.coinsBehind(this, player);
                paid[player] += outcome.paid[player];
                got[player] += outcome.got[player];
                bids[player] = NO_BID;
            }
            pot = outcome.pot;
            rounds++;
            tableSize++;
            rowSize--;
            if (outcome.winner == NOBODY) {
                openRounds++;
                tableSum = stake;
            } else {
                won[outcome.winner]++;
                points[outcome.winner] += stake;
                emptyTable();
            }
            return outcome.winner;
        }

        void emptyTable() {
            for (int index = 0; index < rowSize; index++) {
                lots[index] = lots[tableSize + index];
            }
            tableSize = 0;
            tableSum = 0;
        }

        boolean hasPlayer(int player) {
            return player >= 0 && player < players;
        }

        boolean isOver() {
            return rowSize == 0;
        }

        /** The values that are on the table together when the next lot has come there. */
        int nextStake() {
            return isOver() ? tableSum : tableSum + lots[tableSize];
        }

        int bidCount() {
            int made = 0;
            for (int player = 0; player < players; player++) {
                if (bids[player] != NO_BID) made++;
            }
            return made;
        }

        boolean othersHaveBids(int player) {
            for (int other = 0; other < players; other++) {
                if (other != player && bids[other] == NO_BID) return false;
            }
            return true;
        }

        int mostCoinsOfOthers(int player) {
            int most = 0;
            for (int other = 0; other < players; other++) {
                if (other != player) most = Math.max(most, coins[other]);
            }
            return most;
        }

        int allCoins() {
            int sum = pot;
            for (int player = 0; player < players; player++) {
                sum += coins[player];
            }
            return sum;
        }

        int leader() {
            int best = 0;
            for (int player = 1; player < players; player++) {
                boolean morePoints = points[player] > points[best];
                boolean moreCoins = points[player] == points[best] && coins[player] > coins[best];
                if (morePoints || moreCoins) best = player;
            }
            return best;
        }

        boolean canLead(int player) {
            int reachable = points[player];
            for (int index = 0; index < tableSize + rowSize; index++) {
                reachable += Math.max(lots[index], 0);
            }
            for (int other = 0; other < players; other++) {
                if (other != player && points[other] >= reachable) return false;
            }
            return true;
        }

        int numberOfPlayer(int player, int what) {
            if (!hasPlayer(player)) return INVALID_ARGUMENT;
            switch (what) {
                case 0: return coins[player];
                case 1: return points[player];
                case 2: return bids[player] == NO_BID ? 0 : 1;
                case 3: return won[player];
                case 4: return paid[player];
                case 5: return got[player];
                default: return INVALID_ARGUMENT;
            }
        }

        int valueAt(int where, int index) {
            if (where < 0 || where > 1 || index < 0) return INVALID_ARGUMENT;
            if (where == 0) return index < rowSize ? lots[tableSize + index] : NOT_FOUND;
            return index < tableSize ? lots[index] : NOT_FOUND;
        }

        int number(int what) {
            switch (what) {
                case 0: return players;
                case 1: return rowSize;
                case 2: return tableSize;
                case 3: return tableSum;
                case 4: return pot;
                case 5: return rounds;
                case 6: return openRounds;
                case 7: return bidCount();
                case 8: return allCoins();
                case 9: return pairs.size;
                case 20: return settings[TIE_FEE];
                case 21: return settings[OTHERS_FEE];
                case 22: return settings[SHARED];
                default: return INVALID_ARGUMENT;
            }
        }
    }

    /** The latest rounds of a game, each a stretch of columns in one row of numbers. */
    private static final class RoundLog {
        static final int LIMIT = 12;
        static final int WINNER = 0;
        static final int GREATEST = 1;
        static final int STAKE = 2;
        static final int LEADERS = 3;
        static final int FIRST_BID = 4;
        static final int WIDTH = FIRST_BID + MOST_PLAYERS;
        // Questions about the bid of a player are numbered from here on.
        static final int BID_QUESTION = 10;

        final int[] numbers = new int[LIMIT * WIDTH];
        int size;
        int latest;

        void empty() {
            size = 0;
            latest = 0;
        }

        void copyFrom(RoundLog from) {
            size = from.size;
            latest = from.latest;
            System.arraycopy(from.numbers, 0, numbers, 0, LIMIT * WIDTH);
        }

        void add(Outcome outcome, int stake, int[] bids) {
            latest = (latest + 1) % LIMIT;
            size = Math.min(size + 1, LIMIT);
            int start = latest * WIDTH;
            numbers[start + WINNER] = outcome.winner;
            numbers[start + GREATEST] = outcome.greatest;
            numbers[start + STAKE] = stake;
            numbers[start + LEADERS] = outcome.leaders;
            System.arraycopy(bids, 0, numbers, start + FIRST_BID, MOST_PLAYERS);
        }

        int numberOfRound(int back, int what, int players) {
            int column = columnOf(what, players);
            if (back < 0 || column < 0) return INVALID_ARGUMENT;
            if (back >= size) return NOT_FOUND;
            int round = (latest + LIMIT - back) % LIMIT;
            return numbers[round * WIDTH + column];
        }

        static int columnOf(int what, int players) {
            if (what >= WINNER && what <= LEADERS) return what;
            if (what >= BID_QUESTION && what < BID_QUESTION + players) return FIRST_BID + what - BID_QUESTION;
            return -1;
        }
    }

    /** How often which player made which bid, and won with it. */
    private static final class PairList {
        // A player can come to have the coins of all, so that bids from 0 to all of them are possible.
        static final int LIMIT = MOST_PLAYERS * (MOST_PLAYERS * MOST_COINS + 1);

        final int[] players = new int[LIMIT];
        final int[] bids = new int[LIMIT];
        final int[] times = new int[LIMIT];
        final int[] wins = new int[LIMIT];
        int size;

        void empty() {
            size = 0;
        }

        void copyFrom(PairList from) {
            size = from.size;
            System.arraycopy(from.players, 0, players, 0, size);
            System.arraycopy(from.bids, 0, bids, 0, size);
            System.arraycopy(from.times, 0, times, 0, size);
            System.arraycopy(from.wins, 0, wins, 0, size);
        }

        void note(int player, int bid, boolean hasWon) {
            int index = indexOf(player, bid);
            if (index >= LIMIT) return;
            if (index == size) {
                players[index] = player;
                bids[index] = bid;
                times[index] = 0;
                wins[index] = 0;
                size++;
            }
            times[index]++;
            if (hasWon) wins[index]++;
        }

        /** The size, where a new pair goes, if there is no such pair. */
        int indexOf(int player, int bid) {
            for (int index = 0; index < size; index++) {
                if (players[index] == player && bids[index] == bid) return index;
            }
            return size;
        }

        int numberOfPair(int index, int what) {
            if (index < 0 || what < 0 || what > 3) return INVALID_ARGUMENT;
            if (index >= size) return NOT_FOUND;
            switch (what) {
                case 0: return players[index];
                case 1: return bids[index];
                case 2: return times[index];
                default: return wins[index];
            }
        }
    }

    /** What comes of a round by certain bids: who wins, and how the coins go. */
    private static final class Outcome {
        int winner;
        int greatest;
        int leaders;
        int pot;
        final int[] paid = new int[MOST_PLAYERS];
        final int[] got = new int[MOST_PLAYERS];

        void work(State state, int[] bids) {
            findWinner(state.players, bids);
            pot = state.pot;
            for (int player = 0; player < state.players; player++) {
                paid[player] = payment(state.settings, player, bids[player]);
                got[player] = 0;
                pot += paid[player];
            }
            if (winner != NOBODY && state.settings[SHARED] == 1) sharePot(state.players);
        }

        void findWinner(int players, int[] bids) {
            greatest = NO_BID;
            leaders = 0;
            winner = NOBODY;
            for (int player = 0; player < players; player++) {
                if (bids[player] > greatest) {
                    greatest = bids[player];
                    leaders = 1;
                    winner = player;
                } else if (bids[player] == greatest) {
                    leaders++;
                    winner = NOBODY;
                }
            }
        }

        int payment(int[] settings, int player, int bid) {
            if (player == winner) return bid;
            if (winner != NOBODY) return Math.min(settings[OTHERS_FEE], bid);
            return bid == greatest ? Math.min(settings[TIE_FEE], bid) : 0;
        }

        void sharePot(int players) {
            int others = players - 1;
            if (others < 1) return;
            int part = pot / others;
            for (int player = 0; player < players; player++) {
                if (player != winner) got[player] = part;
            }
            pot -= part * others;
        }

        int coinsBehind(State state, int player) {
            return state.coins[player] - paid[player] + got[player];
        }
    }

    /** Finds the bids that should be made, by trying all of them. */
    private static final class Adviser {
        // Far below and above all that can be gained in the rounds that are looked at.
        static final int LESS_THAN_ALL = -1000000;
        static final int MORE_THAN_ALL = 1000000;

        final Outcome outcome = new Outcome();
        final int[] trial = new int[MOST_PLAYERS];

        int bestReply(State state, int player) {
            System.arraycopy(state.bids, 0, trial, 0, MOST_PLAYERS);
            int best = 0;
            int mostPoints = LESS_THAN_ALL;
            int mostCoins = LESS_THAN_ALL;
            for (int bid = 0; bid <= state.coins[player]; bid++) {
                trial[player] = bid;
                outcome.work(state, trial);
                int points = outcome.winner == player ? state.nextStake() : 0;
                int coins = outcome.coinsBehind(state, player);
                if (points > mostPoints || points == mostPoints && coins > mostCoins) {
                    best = bid;
                    mostPoints = points;
                    mostCoins = coins;
                }
            }
            return best;
        }

        /** The bid that still gains the most when the other of two players answers it in the worst way. */
        int bestOpenBid(State state, int player, int depth) {
            int best = 0;
            int most = LESS_THAN_ALL;
            for (int bid = 0; bid <= state.coins[player]; bid++) {
                int least = leastGain(state, player, bid, depth, most);
                if (least > most) {
                    best = bid;
                    most = least;
                }
            }
            return best;
        }

        int gainByOpenBid(State state, int player, int bid, int depth) {
            return leastGain(state, player, bid, depth, LESS_THAN_ALL);
        }

        /** Looks no further where the gain is no more than the floor: the bid is no better than another then. */
        int leastGain(State state, int player, int bid, int depth, int floor) {
            int rival = 1 - player;
            int least = MORE_THAN_ALL;
            trial[player] = bid;
            for (int answer = 0; answer <= state.coins[rival] && least > floor; answer++) {
                trial[rival] = answer;
                least = Math.min(least, gainOfTrial(state, player, rival, depth));
            }
            return least;
        }

        int gainOfTrial(State state, int player, int rival, int depth) {
            outcome.work(state, trial);
            int stake = state.nextStake();
            int carried = outcome.winner == NOBODY ? stake : 0;
            int gain = 0;
            if (outcome.winner == player) gain = stake;
            if (outcome.winner == rival) gain = -stake;
            if (depth < 2 || state.rowSize < 2) return gain;
            int nextStake = carried + state.lots[state.tableSize + 1];
            int own = outcome.coinsBehind(state, player);
            int others = outcome.coinsBehind(state, rival);
            return gain + gainInLastRound(own, others, nextStake);
        }

        /**
         * Nobody can be made to win what costs points: who bids 0 can be answered by 0. What brings points goes to the
         * one with more coins, who can bid more than the other one has; equal coins can always be answered by a tie.
         */
        static int gainInLastRound(int own, int others, int stake) {
            if (stake <= 0 || own == others) return 0;
            return own > others ? stake : -stake;
        }
    }

    /** The latest states, the oldest one first. All places always hold a state, to be used again and again. */
    private static final class History {
        final State[] states = new State[STATE_LIMIT];
        int size;

        History() {
            for (int index = 0; index < STATE_LIMIT; index++) {
                states[index] = new State();
            }
        }

        /** Returns a state that is needed no more. */
        State add(State latest) {
            if (size < STATE_LIMIT) {
                State spare = states[size];
                states[size] = latest;
                size++;
                return spare;
            }
            State oldest = states[0];
            for (int index = 1; index < STATE_LIMIT; index++) {
                states[index - 1] = states[index];
            }
            states[STATE_LIMIT - 1] = latest;
            return oldest;
        }

        /** Returns the latest state and puts one that is needed no more in its place. */
        State takeLatest(State spare) {
            if (size < 1) return spare;
            size--;
            State latest = states[size];
            states[size] = spare;
            return latest;
        }
    }

    /** The text, and what comes of doing its commands one by one. */
    private static final class Text {
        final int[] characters = new int[TEXT_LIMIT];
        int length;
        int position;
        int reason;
        int cause;
        int commands;
        // What is read now: where reading goes on, and the command's kind and numbers.
        int next;
        int kind;
        int first;
        int second;

        int append(int character) {
            if (length >= TEXT_LIMIT) return LIMIT_REACHED;
            characters[length] = character;
            length++;
            return length;
        }

        int numberOfFault(int what) {
            if (reason == 0) return NOT_FOUND;
            if (what == 0) return position;
            if (what == 1) return reason;
            return reason == WRONG_CALL ? cause : NOT_FOUND;
        }

        /** Does the commands on a state up to the first one that is not possible. */
        void perform(State state, Outcome outcome) {
            position = 0;
            reason = 0;
            cause = 0;
            commands = 0;
            // There are no more commands than characters.
            for (int step = 0; step < length && position < length && reason == 0; step++) {
                if (!readCommand()) {
                    reason = WRONG_FORM;
                    return;
                }
                int answer = call(state, outcome);
                if (isError(answer)) {
                    reason = WRONG_CALL;
                    cause = answer;
                    return;
                }
                commands++;
                position = next;
            }
        }

        int call(State state, Outcome outcome) {
            if (kind == 'l') return state.addLot(first);
            if (kind == 'b') return state.makeBid(first, second);
            return state.settle(outcome);
        }

        boolean readCommand() {
            next = position;
            kind = characterAt(next);
            next++;
            if (kind == 'l') return readValue() && passes(';');
            if (kind == 'b') return readBid() && passes(';');
            return kind == 'r' && passes(';');
        }

        boolean readValue() {
            boolean isBelowZero = passes('-');
            int number = readNumber();
            first = isBelowZero ? -number : number;
            return number >= 0;
        }

        boolean readBid() {
            first = readNumber();
            if (first < 0 || !passes(',')) return false;
            second = readNumber();
            return second >= 0;
        }

        /** Reads one digit, or two; -1 if there is none. */
        int readNumber() {
            int tens = digitAt(next);
            if (tens < 0) return -1;
            next++;
            int ones = digitAt(next);
            if (ones < 0) return tens;
            next++;
            return 10 * tens + ones;
        }

        boolean passes(int character) {
            if (characterAt(next) != character) return false;
            next++;
            return true;
        }

        int digitAt(int index) {
            int character = characterAt(index);
            return character >= '0' && character <= '9' ? character - '0' : -1;
        }

        /** -1 behind the end. */
        int characterAt(int index) {
            return index >= 0 && index < length ? characters[index] : -1;
        }
    }
}
