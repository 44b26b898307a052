theorem s_max {Po : Option Value → HS → Prop} {a b : Int32} {h : HS} (hq : Po (some (.int (if a < b then b else a))) h) : xj yMath_max (mG yMath_max Po) 0 [some (.int a), some (.int b)] [] h 0 0 := by
  refine x_iload_0 cMath_max_0 ?_
  refine x_iload_1 cMath_max_1 ?_
  refine x_icmp_lt cMath_max_2 (fun q2 => ?_) (fun q2 => ?_)
  · refine x_iload_1 cMath_max_9 ?_
    refine x_ireturn cMath_max_10 rfl rfl (Nat.zero_le _) (Nat.zero_le _) ?_
    rw [if_pos q2] at hq; exact hq
  · refine x_iload_0 cMath_max_5 ?_
    refine x_goto cMath_max_6 ?_
    refine x_ireturn cMath_max_10 rfl rfl (Nat.zero_le _) (Nat.zero_le _) ?_
    rw [if_neg q2] at hq; exact hq
theorem s_min {Po : Option Value → HS → Prop} {a b : Int32} {h : HS} (hq : Po (some (.int (if b < a then b else a))) h) : xj yMath_min (mG yMath_min Po) 0 [some (.int a), some (.int b)] [] h 0 0 := by
  refine x_iload_0 cMath_min_0 ?_
  refine x_iload_1 cMath_min_1 ?_
  refine x_icmp_gt cMath_min_2 (fun q2 => ?_) (fun q2 => ?_)
  · refine x_iload_1 cMath_min_9 ?_
    refine x_ireturn cMath_min_10 rfl rfl (Nat.zero_le _) (Nat.zero_le _) ?_
    rw [if_pos q2] at hq; exact hq
  · refine x_iload_0 cMath_min_5 ?_
    refine x_goto cMath_min_6 ?_
    refine x_ireturn cMath_min_10 rfl rfl (Nat.zero_le _) (Nat.zero_le _) ?_
    rw [if_neg q2] at hq; exact hq
theorem s_abs {Po : Option Value → HS → Prop} {a : Int32} {h : HS} (hq : Po (some (.int (if 0 ≤ a then a else -a))) h) : xj yMath_abs (mG yMath_abs Po) 0 [some (.int a)] [] h 0 0 := by
  refine x_iload_0 cMath_abs_0 ?_
  refine x_if_ge cMath_abs_1 (fun q1 => ?_) (fun q1 => ?_)
  · refine x_iload_0 cMath_abs_9 ?_
    refine x_ireturn cMath_abs_10 rfl rfl (Nat.zero_le _) (Nat.zero_le _) ?_
    rw [if_pos q1] at hq; exact hq
  · refine x_iload_0 cMath_abs_4 ?_
    refine x_ineg cMath_abs_5 ?_
    refine x_goto cMath_abs_6 ?_
    refine x_ireturn cMath_abs_10 rfl rfl (Nat.zero_le _) (Nat.zero_le _) ?_
    rw [if_neg q1] at hq; exact hq
def fmod (a b : Int32) : Int32 := if (a ^^^ b) < 0 then (if a - a / b * b = 0 then a - a / b * b else a - a / b * b + b) else a - a / b * b
theorem s_floorMod {Po : Option Value → HS → Prop} {a b : Int32} {h : HS} (hb : ¬ b = 0) (hq : Po (some (.int (fmod a b))) h) : xj yMath_floorMod (mG yMath_floorMod Po) 0 [some (.int a), some (.int b), none] [] h 0 0 := by
  unfold fmod at hq
  refine x_iload_0 cMath_floorMod_0 ?_
  refine x_iload_1 cMath_floorMod_1 ?_
  refine x_irem hb cMath_floorMod_2 ?_
  refine x_istore_2 cMath_floorMod_3 rfl (Nat.le_of_ble_eq_true rfl) ?_
  refine x_iload_0 cMath_floorMod_4 ?_
  refine x_iload_1 cMath_floorMod_5 ?_
  refine x_ixor cMath_floorMod_6 ?_
  refine x_if_ge cMath_floorMod_7 (fun q7 => ?_) (fun q7 => ?_)
  · refine x_iload_2 cMath_floorMod_18 ?_
    refine x_ireturn cMath_floorMod_19 rfl rfl (Nat.zero_le _) (Nat.zero_le _) ?_
    rw [if_neg (Int32.not_lt.mpr q7)] at hq; exact hq
  · refine x_iload_2 cMath_floorMod_10 ?_
    refine x_if_eq cMath_floorMod_11 (fun q11 => ?_) (fun q11 => ?_)
    · refine x_iload_2 cMath_floorMod_18 ?_
      refine x_ireturn cMath_floorMod_19 rfl rfl (Nat.zero_le _) (Nat.zero_le _) ?_
      rw [if_pos (Int32.not_le.mp q7), if_pos q11] at hq; exact hq
    · refine x_iload_2 cMath_floorMod_14 ?_
      refine x_iload_1 cMath_floorMod_15 ?_
      refine x_iadd cMath_floorMod_16 ?_
      refine x_ireturn cMath_floorMod_17 rfl rfl (Nat.zero_le _) (Nat.zero_le _) ?_
      rw [if_pos (Int32.not_le.mp q7), if_neg q11] at hq; exact hq
theorem s_within {Po : Option Value → HS → Prop} {a b : Int32} {h : HS} (h1 : (-b ≤ a ∧ a ≤ b) → Po (some (.int 1)) h) (h0 : ¬ (-b ≤ a ∧ a ≤ b) → Po (some (.int 0)) h) : xj yK_within (mG yK_within Po) 0 [some (.int a), some (.int b)] [] h 0 0 := by
  refine x_iload_0 cK_within_0 ?_
  refine x_iload_1 cK_within_1 ?_
  refine x_ineg cK_within_2 ?_
  refine x_icmp_lt cK_within_3 (fun q3 => ?_) (fun q3 => ?_)
  · refine x_iconst 0 (by decide) cK_within_15 ?_
    refine x_ireturn cK_within_16 rfl rfl (Nat.zero_le _) (Nat.zero_le _) ?_
    exact h0 (fun z => absurd z.1 (Int32.not_le.mpr q3))
  · refine x_iload_0 cK_within_6 ?_
    refine x_iload_1 cK_within_7 ?_
    refine x_icmp_gt cK_within_8 (fun q8 => ?_) (fun q8 => ?_)
    · refine x_iconst 0 (by decide) cK_within_15 ?_
      refine x_ireturn cK_within_16 rfl rfl (Nat.zero_le _) (Nat.zero_le _) ?_
      exact h0 (fun z => absurd z.2 (Int32.not_le.mpr q8))
    · refine x_iconst 1 (by decide) cK_within_11 ?_
      refine x_goto cK_within_12 ?_
      refine x_ireturn cK_within_16 rfl rfl (Nat.zero_le _) (Nat.zero_le _) ?_
      exact h1 ⟨Int32.not_lt.mp q3, Int32.not_lt.mp q8⟩
theorem s_isFirstOrSecond {Po : Option Value → HS → Prop} {a : Int32} {h : HS} (h1 : (a = 0 ∨ a = 1) → Po (some (.int 1)) h) (h0 : ¬ (a = 0 ∨ a = 1) → Po (some (.int 0)) h) : xj yK_isFirstOrSecond (mG yK_isFirstOrSecond Po) 0 [some (.int a)] [] h 0 0 := by
  refine x_iload_0 cK_isFirstOrSecond_0 ?_
  refine x_if_eq cK_isFirstOrSecond_1 (fun q1 => ?_) (fun q1 => ?_)
  · refine x_iconst 1 (by decide) cK_isFirstOrSecond_9 ?_
    refine x_goto cK_isFirstOrSecond_10 ?_
    refine x_ireturn cK_isFirstOrSecond_14 rfl rfl (Nat.zero_le _) (Nat.zero_le _) ?_
    exact h1 (Or.inl q1)
  · refine x_iload_0 cK_isFirstOrSecond_4 ?_
    refine x_iconst 1 (by decide) cK_isFirstOrSecond_5 ?_
    refine x_icmp_ne cK_isFirstOrSecond_6 (fun q6 => ?_) (fun q6 => ?_)
    · refine x_iconst 0 (by decide) cK_isFirstOrSecond_13 ?_
      refine x_ireturn cK_isFirstOrSecond_14 rfl rfl (Nat.zero_le _) (Nat.zero_le _) ?_
      exact h0 (fun z => z.elim (fun w => absurd w q1) (fun w => absurd w q6))
    · refine x_iconst 1 (by decide) cK_isFirstOrSecond_9 ?_
      refine x_goto cK_isFirstOrSecond_10 ?_
      refine x_ireturn cK_isFirstOrSecond_14 rfl rfl (Nat.zero_le _) (Nat.zero_le _) ?_
      exact h1 (Or.inr q6)
theorem s_toldTogether {Po : Option Value → HS → Prop} {a b : Int32} {h : HS} (hq : Po (some (.int (10 * (a + 2) + b + 2))) h) : xj yK_toldTogether (mG yK_toldTogether Po) 0 [some (.int a), some (.int b)] [] h 0 0 := by
  refine x_bipush 10 (by decide) cK_toldTogether_0 ?_
  refine x_iload_0 cK_toldTogether_2 ?_
  refine x_iconst 2 (by decide) cK_toldTogether_3 ?_
  refine x_iadd cK_toldTogether_4 ?_
  refine x_imul cK_toldTogether_5 ?_
  refine x_iload_1 cK_toldTogether_6 ?_
  refine x_iadd cK_toldTogether_7 ?_
  refine x_iconst 2 (by decide) cK_toldTogether_8 ?_
  refine x_iadd cK_toldTogether_9 ?_
  refine x_ireturn cK_toldTogether_10 rfl rfl (Nat.zero_le _) (Nat.zero_le _) ?_
  exact hq
theorem s_at {Po : Option Value → HS → Prop} {a N : Nat} {i : Int32} {I : IT} {J : JT} {P : PT} (j : Nat) (hs : shp a = (1, N)) (hi : i = nI j) (hj : j < N) (hN : N < 2 ^ 31) (hq : Po (some (.int (I a j))) (hp I J P)) : xj yK_at (mG yK_at Po) 0 [some (.ref a), some (.int i)] [] (hp I J P) 0 0 := by
  subst hi
  refine x_aload_0 cK_at_0 ?_
  refine x_ifnull cK_at_1 ?_
  refine x_iload_1 cK_at_4 ?_
  refine x_if_lt cK_at_5 (fun q5 => absurd q5 (nI_pos (by omega))) (fun q5 => ?_)
  refine x_iload_1 cK_at_8 ?_
  refine x_aload_0 cK_at_9 ?_
  refine x_l1 (nI N) cK_at_10 hs rfl ?_
  refine x_icmp_ge cK_at_11 (fun q11 => absurd q11 (nI_ge hj hN)) (fun q11 => ?_)
  refine x_aload_0 cK_at_14 ?_
  refine x_iload_1 cK_at_15 ?_
  refine x_al (j) cK_at_16 hs rfl hj hN ?_
  refine x_goto cK_at_17 ?_
  refine x_ireturn cK_at_21 rfl rfl (Nat.zero_le _) (Nat.zero_le _) ?_
  exact hq
theorem s_put {Po : Option Value → HS → Prop} {a N : Nat} {i v : Int32} {I : IT} {J : JT} {P : PT} (j : Nat) (hs : shp a = (1, N)) (hi : i = nI j) (hj : j < N) (hN : N < 2 ^ 31) (hq : Po none (hp (u2 I a j v) J P)) : xj yK_put (mG yK_put Po) 0 [some (.ref a), some (.int i), some (.int v)] [] (hp I J P) 0 0 := by
  subst hi
  refine x_aload_0 cK_put_0 ?_
  refine x_ifnull cK_put_1 ?_
  refine x_iload_1 cK_put_4 ?_
  refine x_if_lt cK_put_5 (fun q5 => absurd q5 (nI_pos (by omega))) (fun q5 => ?_)
  refine x_iload_1 cK_put_8 ?_
  refine x_aload_0 cK_put_9 ?_
  refine x_l1 (nI N) cK_put_10 hs rfl ?_
  refine x_icmp_ge cK_put_11 (fun q11 => absurd q11 (nI_ge hj hN)) (fun q11 => ?_)
  refine x_aload_0 cK_put_14 ?_
  refine x_iload_1 cK_put_15 ?_
  refine x_iload_2 cK_put_16 ?_
  refine x_as (j) cK_put_17 hs rfl hj hN ?_
  refine x_return cK_put_18 rfl (Nat.zero_le _) (Nat.zero_le _) ?_
  exact hq
