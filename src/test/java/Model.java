import java.util.ArrayDeque;
import java.util.ArrayList;
import java.util.Arrays;
import java.util.Deque;
import java.util.LinkedHashMap;
import java.util.List;
import java.util.Map;
import java.util.regex.Matcher;
import java.util.regex.Pattern;

/**
 * The document once more, as near to its words as can be and with no regard for speed: what ModelTest compares the
 * program with. It shares no code with the program and looks ahead by trying everything.
 */
final class Model {
    private static final int INVALID = -1000001;
    private static final int IMPOSSIBLE = -1000002;
    private static final int FULL = -1000003;
    private static final int NONE = -1000004;
    private static final Pattern COMMAND = Pattern.compile("(?:l(-?)(\\d\\d?)|b(\\d\\d?),(\\d\\d?)|r);");

    private static final class Player {
        int coins;
        int points;
        Integer bid;
        int won;
        int paid;
        int got;
    }

    private static final class Game {
        List<Player> players = new ArrayList<>();
        List<Integer> row = new ArrayList<>();
        List<Integer> table = new ArrayList<>();
        List<int[]> rounds = new ArrayList<>();
        Map<List<Integer>, int[]> pairs = new LinkedHashMap<>();
        int[] settings = {1, 0, 1};
        int pot;

        Game(int players, int coins) {
            for (int i = 0; i < players; i++) this.players.add(new Player());
            for (Player player : this.players) player.coins = coins;
        }

        Game copy() {
            Game copy = new Game(0, 0);
            for (Player old : players) {
                Player player = new Player();
                player.coins = old.coins;
                player.points = old.points;
                player.bid = old.bid;
                player.won = old.won;
                player.paid = old.paid;
                player.got = old.got;
                copy.players.add(player);
            }
            copy.row.addAll(row);
            copy.table.addAll(table);
            copy.rounds.addAll(rounds);
            pairs.forEach((pair, counts) -> copy.pairs.put(pair, counts.clone()));
            copy.settings = settings.clone();
            copy.pot = pot;
            return copy;
        }

        int sum(List<Integer> values) {
            return values.stream().mapToInt(Integer::intValue).sum();
        }

        int greatestBid() {
            return players.stream().mapToInt(player -> player.bid).max().orElse(0);
        }

        void pay(Player player, int coins) {
            player.coins -= coins;
            player.paid += coins;
            pot += coins;
        }

        int resolve() {
            table.add(row.remove(0));
            int greatest = greatestBid();
            List<Player> leaders = players.stream().filter(player -> player.bid == greatest).toList();
            Player winner = leaders.size() == 1 ? leaders.get(0) : null;
            int number = winner == null ? -1 : players.indexOf(winner);
            int[] told = new int[4 + players.size()];
            System.arraycopy(new int[] {number, greatest, sum(table), leaders.size()}, 0, told, 0, 4);
            for (int i = 0; i < players.size(); i++) {
                told[4 + i] = players.get(i).bid;
                int[] counts = pairs.computeIfAbsent(List.of(i, players.get(i).bid), pair -> new int[2]);
                counts[0]++;
                if (i == number) counts[1]++;
            }
            rounds.add(told);
            if (winner == null) {
                for (Player player : leaders) pay(player, Math.min(settings[0], player.bid));
            } else {
                award(winner);
            }
            for (Player player : players) player.bid = null;
            return number;
        }

        void award(Player winner) {
            pay(winner, winner.bid);
            winner.points += sum(table);
            winner.won++;
            table.clear();
            for (Player player : players) {
                if (player != winner) pay(player, Math.min(settings[1], player.bid));
            }
            if (settings[2] == 0) return;
            int part = pot / (players.size() - 1);
            for (Player player : players) {
                if (player == winner) continue;
                player.coins += part;
                player.got += part;
                pot -= part;
            }
        }

        int held(int player, int depth) {
            if (depth == 0 || row.isEmpty()) return players.get(player).points - players.get(1 - player).points;
            int greatest = Integer.MIN_VALUE;
            for (int bid = 0; bid <= players.get(player).coins; bid++) {
                greatest = Math.max(greatest, heldBy(player, bid, depth));
            }
            return greatest;
        }

        int heldBy(int player, int bid, int depth) {
            int least = Integer.MAX_VALUE;
            for (int other = 0; other <= players.get(1 - player).coins; other++) {
                Game behind = copy();
                behind.players.get(player).bid = bid;
                behind.players.get(1 - player).bid = other;
                behind.resolve();
                least = Math.min(least, behind.held(player, depth - 1));
            }
            return least;
        }
    }

    private final Deque<Game> history = new ArrayDeque<>();
    private final StringBuilder text = new StringBuilder();
    private Game game = new Game(2, 20);
    private Game snapshot;

    private int change(Game before, int answer) {
        history.addLast(before);
        if (history.size() > 4) history.removeFirst();
        return answer;
    }

    private static boolean within(int number, int least, int greatest) {
        return number >= least && number <= greatest;
    }

    private boolean hasPlayer(int player) {
        return within(player, 0, game.players.size() - 1);
    }

    int begin(int players, int coins) {
        if (!within(players, 2, 4) || !within(coins, 0, 30)) return INVALID;
        Game before = game;
        game = new Game(players, coins);
        game.settings = before.settings.clone();
        return change(before, players * coins);
    }

    int lot(int value) {
        return once(() -> doLot(value));
    }

    int bid(int player, int coins) {
        return once(() -> doBid(player, coins));
    }

    int resolve() {
        return once(this::doResolve);
    }

    private int once(java.util.function.IntSupplier call) {
        Game before = game.copy();
        int answer = call.getAsInt();
        return answer < -1 ? answer : change(before, answer);
    }

    private int doLot(int value) {
        if (!within(value, -9, 20)) return INVALID;
        if (game.row.size() + game.table.size() == 20) return FULL;
        game.row.add(value);
        return game.row.size();
    }

    private int doBid(int player, int coins) {
        if (!hasPlayer(player) || coins < 0) return INVALID;
        if (game.row.isEmpty() || game.players.get(player).coins < coins) return IMPOSSIBLE;
        game.players.get(player).bid = coins;
        return count(7);
    }

    private int doResolve() {
        if (game.row.isEmpty() || count(7) < game.players.size()) return IMPOSSIBLE;
        return game.resolve();
    }

    int set(int what, int value) {
        if (!within(what, 0, 2) || !within(value, 0, what == 2 ? 1 : 5)) return INVALID;
        Game before = game.copy();
        game.settings[what] = value;
        return change(before, before.settings[what]);
    }

    int playerOf(int player, int what) {
        if (!hasPlayer(player) || !within(what, 0, 5)) return INVALID;
        Player one = game.players.get(player);
        return new int[] {one.coins, one.points, one.bid == null ? 0 : 1, one.won, one.paid, one.got}[what];
    }

    int lotOf(int where, int index) {
        if (!within(where, 0, 1) || index < 0) return INVALID;
        List<Integer> lots = where == 0 ? game.row : game.table;
        return index < lots.size() ? lots.get(index) : NONE;
    }

    int roundOf(int back, int what) {
        boolean asksBid = what >= 10 && hasPlayer(what - 10);
        if (back < 0 || !within(what, 0, 3) && !asksBid) return INVALID;
        if (back >= Math.min(12, game.rounds.size())) return NONE;
        return game.rounds.get(game.rounds.size() - 1 - back)[asksBid ? what - 6 : what];
    }

    int record(int index, int what) {
        if (index < 0 || !within(what, 0, 3)) return INVALID;
        if (index >= game.pairs.size()) return NONE;
        List<Integer> pair = new ArrayList<>(game.pairs.keySet()).get(index);
        return what < 2 ? pair.get(what) : game.pairs.get(pair)[what - 2];
    }

    int count(int what) {
        switch (what) {
            case 0: return game.players.size();
            case 1: return game.row.size();
            case 2: return game.table.size();
            case 3: return game.sum(game.table);
            case 4: return game.pot;
            case 5: return game.rounds.size();
            case 6: return (int) game.rounds.stream().filter(round -> round[0] == -1).count();
            case 7: return (int) game.players.stream().filter(player -> player.bid != null).count();
            case 8: return game.pot + game.players.stream().mapToInt(player -> player.coins).sum();
            case 9: return game.pairs.size();
            case 10: return history.size();
            case 11: return text.length();
            case 12: return snapshot == null ? 0 : 1;
            default: return within(what, 20, 22) ? game.settings[what - 20] : INVALID;
        }
    }

    int winner() {
        List<Player> order = new ArrayList<>(game.players);
        order.sort((a, b) -> a.points != b.points ? b.points - a.points : b.coins - a.coins);
        return game.players.indexOf(order.get(0));
    }

    int sure(int player) {
        if (!hasPlayer(player)) return INVALID;
        if (game.row.isEmpty()) return IMPOSSIBLE;
        for (int bid = 0; bid <= game.players.get(player).coins; bid++) {
            boolean wins = true;
            for (int other = 0; other < game.players.size(); other++) {
                if (other != player && game.players.get(other).coins >= bid) wins = false;
            }
            if (wins) return bid;
        }
        return NONE;
    }

    int reply(int player) {
        if (!hasPlayer(player)) return INVALID;
        if (game.row.isEmpty()) return IMPOSSIBLE;
        for (int other = 0; other < game.players.size(); other++) {
            if (other != player && game.players.get(other).bid == null) return IMPOSSIBLE;
        }
        int best = -1;
        int[] most = {Integer.MIN_VALUE, Integer.MIN_VALUE};
        for (int bid = 0; bid <= game.players.get(player).coins; bid++) {
            Game behind = game.copy();
            behind.players.get(player).bid = bid;
            behind.resolve();
            int[] has = {behind.players.get(player).points, behind.players.get(player).coins};
            if (Arrays.compare(has, most) > 0) {
                best = bid;
                most = has;
            }
        }
        return best;
    }

    int holds(int player, int depth) {
        if (!hasPlayer(player) || !within(depth, 0, 2)) return INVALID;
        return game.players.size() > 2 ? IMPOSSIBLE : game.held(player, depth);
    }

    int holding(int player, int depth) {
        if (!hasPlayer(player) || !within(depth, 1, 2)) return INVALID;
        if (game.players.size() > 2 || game.row.isEmpty()) return IMPOSSIBLE;
        int held = game.held(player, depth);
        int bid = 0;
        while (game.heldBy(player, bid, depth) != held) bid++;
        return bid;
    }

    int chance(int player) {
        if (!hasPlayer(player)) return INVALID;
        int points = game.players.get(player).points;
        for (int value : game.row) if (value > 0) points += value;
        for (int value : game.table) if (value > 0) points += value;
        for (int other = 0; other < game.players.size(); other++) {
            if (other != player && game.players.get(other).points >= points) return 0;
        }
        return 1;
    }

    int keep() {
        snapshot = game.copy();
        return game.rounds.size();
    }

    int restore() {
        if (snapshot == null) return IMPOSSIBLE;
        Game before = game;
        game = snapshot.copy();
        return change(before, game.rounds.size());
    }

    int undo() {
        if (history.isEmpty()) return IMPOSSIBLE;
        game = history.removeLast();
        return history.size();
    }

    int type(int character) {
        if (!within(character, 32, 126)) return INVALID;
        if (text.length() == 60) return FULL;
        return text.append((char) character).length();
    }

    int clearText() {
        int length = text.length();
        text.setLength(0);
        return length;
    }

    /** Does what can be done: position, reason and cause of the fault, and the number of commands done. */
    private int[] perform() {
        Matcher matcher = COMMAND.matcher(text);
        int position = 0;
        int done = 0;
        while (position < text.length()) {
            if (!matcher.find(position) || matcher.start() != position) return new int[] {position, 1, NONE, done};
            int answer = command(matcher);
            if (answer < -1) return new int[] {position, 2, answer, done};
            done++;
            position = matcher.end();
        }
        return new int[] {NONE, NONE, NONE, done};
    }

    private int command(Matcher matcher) {
        if (matcher.group(2) != null) return doLot(Integer.parseInt(matcher.group(1) + matcher.group(2)));
        if (matcher.group(3) == null) return doResolve();
        return doBid(Integer.parseInt(matcher.group(3)), Integer.parseInt(matcher.group(4)));
    }

    int fault(int what) {
        if (!within(what, 0, 2)) return INVALID;
        Game before = game;
        game = before.copy();
        int[] fault = perform();
        game = before;
        return fault[what];
    }

    int play() {
        Game before = game;
        game = before.copy();
        int[] fault = perform();
        if (fault[0] == NONE) return change(before, fault[3]);
        game = before;
        return IMPOSSIBLE;
    }
}
