theorem fb_rng (x : Int32) : -2147483648 ≤ x.toInt ∧ x.toInt < 2147483648 := by
  have h1 := Int32.le_toInt x
  have h2 := Int32.toInt_lt x
  omega
theorem fb_bmod {z : Int} (h1 : -2147483648 ≤ z) (h2 : z < 2147483648) : z.bmod (2 ^ 32) = z := by
  rw [Int.bmod_eq_of_le (by omega) (by omega)]
theorem fb_addI {x y : Int32} (h1 : -2147483648 ≤ x.toInt + y.toInt) (h2 : x.toInt + y.toInt < 2147483648) : (x + y).toInt = x.toInt + y.toInt := by
  rw [Int32.toInt_add, fb_bmod h1 h2]
theorem fb_subI {x y : Int32} (h1 : -2147483648 ≤ x.toInt - y.toInt) (h2 : x.toInt - y.toInt < 2147483648) : (x - y).toInt = x.toInt - y.toInt := by
  rw [Int32.toInt_sub, fb_bmod h1 h2]
theorem fb_mulI {x y : Int32} (h1 : -2147483648 ≤ x.toInt * y.toInt) (h2 : x.toInt * y.toInt < 2147483648) : (x * y).toInt = x.toInt * y.toInt := by
  rw [Int32.toInt_mul, fb_bmod h1 h2]
theorem fb_negI {x : Int32} (h : x.toInt ≠ -2147483648) : (-x).toInt = -x.toInt := by
  have := fb_rng x
  rw [Int32.toInt_neg, fb_bmod (by omega) (by omega)]
theorem wide_le (a b : Int32) : a.toInt64 ≤ b.toInt64 ↔ a ≤ b := by rw [Int64.le_iff_toInt_le, Int32.le_iff_toInt_le, Int32.toInt_toInt64, Int32.toInt_toInt64]
theorem s_in {Po : Option Value → HS → Prop} {x a b : Int32} {A B : Int64} {h : HS} (hA : a.toInt64 = A) (hB : b.toInt64 = B) (h1 : (a ≤ x ∧ x ≤ b) → Po (some (.int 1)) h) (h0 : ¬ (a ≤ x ∧ x ≤ b) → Po (some (.int 0)) h) : xj yM_in (mG yM_in Po) 0 [some (.long x.toInt64), none, some (.long A), none, some (.long B), none] [] h 0 0 := by
  subst hA; subst hB
  refine x_lload_0 cM_in_0 ?_
  refine x_lload_2 cM_in_1 ?_
  refine x_lcmp cM_in_2 ?_
  refine x_if_lt cM_in_3 (fun q3 => ?_) (fun q3 => ?_)
  · rw [lg_cmp_lt] at q3
    have hn : ¬ a ≤ x := fun z => by
      rw [← wide_le] at z
      exact absurd z (Int64.not_le.mpr q3)
    refine x_iconst 0 (by decide) cM_in_17 ?_
    refine x_ireturn cM_in_18 rfl rfl (Nat.zero_le _) (Nat.zero_le _) ?_
    exact h0 (fun z => hn z.1)
  · rw [lg_cmp_lt] at q3
    have hy : a ≤ x := by
      rw [← wide_le]
      exact Int64.not_lt.mp q3
    refine x_lload_0 cM_in_6 ?_
    refine x_lload_4 cM_in_7 ?_
    refine x_lcmp cM_in_9 ?_
    refine x_if_gt cM_in_10 (fun q10 => ?_) (fun q10 => ?_)
    · rw [lg_cmp_gt] at q10
      have hn : ¬ x ≤ b := fun z => by
        rw [← wide_le] at z
        exact absurd z (Int64.not_le.mpr q10)
      refine x_iconst 0 (by decide) cM_in_17 ?_
      refine x_ireturn cM_in_18 rfl rfl (Nat.zero_le _) (Nat.zero_le _) ?_
      exact h0 (fun z => hn z.2)
    · rw [lg_cmp_gt] at q10
      have hy2 : x ≤ b := by
        rw [← wide_le]
        exact Int64.not_lt.mp q10
      refine x_iconst 1 (by decide) cM_in_13 ?_
      refine x_goto cM_in_14 ?_
      refine x_ireturn cM_in_18 rfl rfl (Nat.zero_le _) (Nat.zero_le _) ?_
      exact h1 ⟨hy, hy2⟩
theorem s_mhas {Po : Option Value → HS → Prop} {h : HS} {m k : Nat} (hm : m < 32) (hk : k < 5) (h1 : m.testBit k = true → Po (some (.int 1)) h) (h0 : m.testBit k = false → Po (some (.int 0)) h) : xj yM_has (mG yM_has Po) 0 [some (.int (nI m)), some (.int (nI k))] [] h 0 0 := by
  refine x_iload_0 cM_has_0 ?_
  refine x_iload_1 cM_has_1 ?_
  refine x_ishr cM_has_2 ?_
  refine x_iconst 1 (by decide) cM_has_3 ?_
  refine x_iand cM_has_4 ?_
  refine x_iconst 1 (by decide) cM_has_5 ?_
  refine x_icmp_ne cM_has_6 (fun q6 => ?_) (fun q6 => ?_)
  · refine x_iconst 0 (by decide) cM_has_13 ?_
    refine x_ireturn cM_has_14 rfl rfl (Nat.zero_le _) (Nat.zero_le _) ?_
    exact h0 (by
      cases e : m.testBit k with
      | false => rfl
      | true => exact absurd ((bitI m hm k hk).mpr e) q6)
  · refine x_iconst 1 (by decide) cM_has_9 ?_
    refine x_goto cM_has_10 ?_
    refine x_ireturn cM_has_14 rfl rfl (Nat.zero_le _) (Nat.zero_le _) ?_
    exact h1 ((bitI m hm k hk).mp q6)
def mnE (x : Int32) : Nat → Int32
  | 0 => 0
  | k + 1 => mnE x k + ((x >>> (nI k &&& 31)) &&& 1)
theorem mnE_n : ∀ m, m < 32 → mnE (nI m) 5 = nI (popc m) := by decide +kernel
theorem s_many_loop {Po : Option Value → HS → Prop} {h : HS} {x : Int32} (hq : Po (some (.int (mnE x 5))) h) : ∀ n k, k + n = 5 → xj yM_many (mG yM_many Po) 4 [some (.int x), some (.int (mnE x k)), some (.int (nI k))] [] h 0 0 := by
  intro n
  induction n with
  | zero =>
    intro k hk
    obtain rfl : k = 5 := by omega
    refine x_iload_2 cM_many_4 ?_
    refine x_iconst 5 (by decide) cM_many_5 ?_
    refine x_icmp_ge cM_many_6 (fun q6 => ?_) (fun q6 => absurd q6 (fun z => z (by decide)))
    refine x_iload_1 cM_many_23 ?_
    refine x_ireturn cM_many_24 rfl rfl (Nat.zero_le _) (Nat.zero_le _) ?_
    exact hq
  | succ n ih =>
    intro k hk
    refine x_iload_2 cM_many_4 ?_
    refine x_iconst 5 (by decide) cM_many_5 ?_
    refine x_icmp_ge cM_many_6 (fun q6 => absurd q6 (nI_ge (b := 5) (show k < 5 by omega) (by decide))) (fun q6 => ?_)
    refine x_iload_1 cM_many_9 ?_
    refine x_iload_0 cM_many_10 ?_
    refine x_iload_2 cM_many_11 ?_
    refine x_ishr cM_many_12 ?_
    refine x_iconst 1 (by decide) cM_many_13 ?_
    refine x_iand cM_many_14 ?_
    refine x_iadd cM_many_15 ?_
    refine x_istore_1 cM_many_16 rfl (Nat.le_of_ble_eq_true rfl) ?_
    refine x_iinc_2 (nI (k + 1)) cM_many_17 rfl (nI_inc k) (Nat.le_of_ble_eq_true rfl) ?_
    refine x_goto cM_many_20 ?_
    exact ih (k + 1) (by omega)
theorem s_many {Po : Option Value → HS → Prop} {h : HS} {x : Int32} (hq : Po (some (.int (mnE x 5))) h) : xj yM_many (mG yM_many Po) 0 [some (.int x), none, none] [] h 0 0 := by
  refine x_iconst 0 (by decide) cM_many_0 ?_
  refine x_istore_1 cM_many_1 rfl (Nat.le_of_ble_eq_true rfl) ?_
  refine x_iconst 0 (by decide) cM_many_2 ?_
  refine x_istore_2 cM_many_3 rfl (Nat.le_of_ble_eq_true rfl) ?_
  exact s_many_loop hq 5 0 (by omega)
def farI (a b : Int32) : Int32 := if b ≤ a then a - b else b - a
theorem s_far {Po : Option Value → HS → Prop} {a b : Int32} {h : HS} (hq : Po (some (.int (farI a b))) h) : xj yM_far (mG yM_far Po) 0 [some (.int a), some (.int b)] [] h 0 0 := by
  unfold farI at hq
  refine x_iload_0 cM_far_0 ?_
  refine x_iload_1 cM_far_1 ?_
  refine x_icmp_ge cM_far_2 (fun q2 => ?_) (fun q2 => ?_)
  · refine x_iload_0 cM_far_11 ?_
    refine x_iload_1 cM_far_12 ?_
    refine x_isub cM_far_13 ?_
    refine x_ireturn cM_far_14 rfl rfl (Nat.zero_le _) (Nat.zero_le _) ?_
    rw [if_pos q2] at hq; exact hq
  · refine x_iload_1 cM_far_5 ?_
    refine x_iload_0 cM_far_6 ?_
    refine x_isub cM_far_7 ?_
    refine x_goto cM_far_8 ?_
    refine x_ireturn cM_far_14 rfl rfl (Nat.zero_le _) (Nat.zero_le _) ?_
    rw [if_neg q2] at hq; exact hq
theorem in_c {k : Int32} {c : Nat} (hc5 : c ≤ 5) : (0 ≤ k ∧ k ≤ nI c - 1) ↔ ∃ j, j < c ∧ k = nI j := by
  have e : ∀ c, c ≤ 5 → (nI c - 1).toInt = (c : Int) - 1 := by decide +kernel
  constructor
  · intro z
    obtain ⟨h1, h2⟩ := z
    obtain ⟨j, hj, rfl⟩ := nI_of (Int32.not_lt.mpr h1)
    rw [Int32.le_iff_toInt_le, e c hc5, nI_toInt hj] at h2
    exact ⟨j, by omega, rfl⟩
  · rintro ⟨j, hj, rfl⟩
    refine ⟨nI_pos' (by omega), ?_⟩
    rw [Int32.le_iff_toInt_le, e c hc5, nI_toInt (by omega)]
    omega
theorem s_noKite {Po : Option Value → HS → Prop} {I : IT} {J : JT} {P : PT} {c : Nat} {k : Int32} (hc : I 96 0 = nI c) (hc5 : c ≤ 5) (h1 : (¬ ∃ j, j < c ∧ k = nI j) → Po (some (.int 1)) (hp I J P)) (h0 : ∀ j, j < c → k = nI j → Po (some (.int 0)) (hp I J P)) : xj yM_noKite (mG yM_noKite Po) 0 [some (.ref 90), some (.int k)] [] (hp I J P) 0 0 := by
  refine x_iload_1 cM_noKite_0 ?_
  refine x_i2l cM_noKite_1 ?_
  refine x_lconst 0 (by decide) cM_noKite_2 ?_
  refine x_aload_0 cM_noKite_3 ?_
  refine x_gR (b := 96) cM_noKite_4 fM_29 rfl rfl rfl ?_
  refine x_iconst 0 (by decide) cM_noKite_7 ?_
  refine x_al (0) cM_noKite_8 rfl rfl (by decide) (by decide) ?_
  refine x_iconst 1 (by decide) cM_noKite_9 ?_
  refine x_isub cM_noKite_10 ?_
  refine x_i2l cM_noKite_11 ?_
  refine x_s3 (ls0 := [some _, none, some _, none, some _, none]) cM_noKite_12 kM_69 okM_in ⟨(Nat.le_of_ble_eq_true rfl), (Nat.le_of_ble_eq_true rfl)⟩ (Nat.le_of_ble_eq_true rfl) rfl (Nat.le_of_ble_eq_true rfl) rfl rfl (Nat.zero_le _) (Nat.zero_le _) ?_
  refine s_in (a := 0) (b := I 96 0 - 1) (by decide) rfl (fun z => ?_) (fun z => ?_)
  · dsimp only [pushR]
    rw [hc, in_c hc5] at z
    refine x_if_ne cM_noKite_15 (fun _ => ?_) (fun q => absurd q (by decide))
    refine x_iconst 0 (by decide) cM_noKite_22 ?_
    refine x_ireturn cM_noKite_23 rfl rfl (Nat.zero_le _) (Nat.zero_le _) ?_
    obtain ⟨j, hj, e⟩ := z
    exact h0 j hj e
  · dsimp only [pushR]
    rw [hc, in_c hc5] at z
    refine x_if_ne cM_noKite_15 (fun q => absurd rfl q) (fun _ => ?_)
    refine x_iconst 1 (by decide) cM_noKite_18 ?_
    refine x_goto cM_noKite_19 ?_
    refine x_ireturn cM_noKite_23 rfl rfl (Nat.zero_le _) (Nat.zero_le _) ?_
    exact h1 z
theorem s_power_loop {Po : Option Value → HS → Prop} {h : HS} {b : Int32} {m : Nat} (hm : m < 2 ^ 31) (hq : Po (some (.int (powI b m))) h) : ∀ n k, k + n = m → xj yM_power (mG yM_power Po) 4 [some (.int b), some (.int (nI m)), some (.int (powI b k)), some (.int (nI k))] [] h 0 0 := by
  intro n
  induction n with
  | zero =>
    intro k hk
    obtain rfl : k = m := by omega
    refine x_iload_3 cM_power_4 ?_
    refine x_iload_1 cM_power_5 ?_
    refine x_icmp_ge cM_power_6 (fun q6 => ?_) (fun q6 => absurd q6 (fun z => z (Int32.le_refl _)))
    refine x_iload_2 cM_power_19 ?_
    refine x_ireturn cM_power_20 rfl rfl (Nat.zero_le _) (Nat.zero_le _) ?_
    exact hq
  | succ n ih =>
    intro k hk
    refine x_iload_3 cM_power_4 ?_
    refine x_iload_1 cM_power_5 ?_
    refine x_icmp_ge cM_power_6 (fun q6 => absurd q6 (nI_ge (show k < m by omega) hm)) (fun q6 => ?_)
    refine x_iload_2 cM_power_9 ?_
    refine x_iload_0 cM_power_10 ?_
    refine x_imul cM_power_11 ?_
    refine x_istore_2 cM_power_12 rfl (Nat.le_of_ble_eq_true rfl) ?_
    refine x_iinc_3 (nI (k + 1)) cM_power_13 rfl (nI_inc k) (Nat.le_of_ble_eq_true rfl) ?_
    refine x_goto cM_power_16 ?_
    exact ih (k + 1) (by omega)
theorem s_power {Po : Option Value → HS → Prop} {h : HS} {b : Int32} {m : Nat} (hm : m < 2 ^ 31) (hq : Po (some (.int (powI b m))) h) : xj yM_power (mG yM_power Po) 0 [some (.int b), some (.int (nI m)), none, none] [] h 0 0 := by
  refine x_iconst 1 (by decide) cM_power_0 ?_
  refine x_istore_2 cM_power_1 rfl (Nat.le_of_ble_eq_true rfl) ?_
  refine x_iconst 0 (by decide) cM_power_2 ?_
  refine x_istore_3 cM_power_3 rfl (Nat.le_of_ble_eq_true rfl) ?_
  exact s_power_loop hm hq m 0 (by omega)
