theorem sp_isError {d : Nat} {kd : KL} {F : FM} {P : PM} {v : Int} (hd : 1 ≤ d) : Sp d 86 [.inl v] kd F P (QE kd F P (if v ≤ -1000001 then 1 else 0)) := by
  refine Sp_of (me := mX7_isError) (by omega) pX7_isError ⟨rfl, Nat.le_of_ble_eq_true rfl⟩ ?_
  refine R_iload_n fX7_isError_0 rfl ?_
  refine R_ldc fX7_isError_1 ?_
  refine R_icmp_gt fX7_isError_3 rfl (fun h3 => ?_) (fun h3 => ?_)
  · refine R_iconst fX7_isError_10 ?_
    refine R_zreturn fX7_isError_11 rfl (by simp) ?_
    simp only [QE]; first | rw [if_pos (by omega)] | rw [if_neg (by omega)]
  · refine R_iconst fX7_isError_6 ?_
    refine R_goto fX7_isError_7 rfl ?_
    refine R_zreturn fX7_isError_11 rfl (by simp) ?_
    simp only [QE]; first | rw [if_pos (by omega)] | rw [if_neg (by omega)]
