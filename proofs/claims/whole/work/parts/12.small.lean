theorem s_Best_clear {Po : Option Value → HS → Prop} {I : IT} {J : JT} {P : PT} (hq : Po none (hp (u2 (u2 I 88 0 (-9)) 88 1 (-9)) J P)) : xj yBest_clear (mG yBest_clear Po) 0 [some (.ref 88)] [] (hp I J P) 0 0 := by
  refine x_aload_0 cBest_clear_0 ?_
  refine x_bipush (-9) (by decide) cBest_clear_1 ?_
  refine x_pI cBest_clear_3 fBest_9 rfl rfl ?_
  refine x_aload_0 cBest_clear_6 ?_
  refine x_bipush (-9) (by decide) cBest_clear_7 ?_
  refine x_pI cBest_clear_9 fBest_15 rfl rfl ?_
  refine x_return cBest_clear_12 rfl (Nat.zero_le _) (Nat.zero_le _) ?_
  exact hq
theorem s_Best_wants {Po : Option Value → HS → Prop} {I : IT} {J : JT} {P : PT} {a : Int32} (h1 : (I 88 0 = -9 ∨ a < I 88 0) → Po (some (.int 1)) (hp I J P)) (h0 : ¬ (I 88 0 = -9 ∨ a < I 88 0) → Po (some (.int 0)) (hp I J P)) : xj yBest_wants (mG yBest_wants Po) 0 [some (.ref 88), some (.int a)] [] (hp I J P) 0 0 := by
  refine x_aload_0 cBest_wants_0 ?_
  refine x_gI cBest_wants_1 fBest_9 rfl rfl ?_
  refine x_bipush (-9) (by decide) cBest_wants_4 ?_
  refine x_icmp_eq cBest_wants_6 (fun q6 => ?_) (fun q6 => ?_)
  · refine x_iconst 1 (by decide) cBest_wants_17 ?_
    refine x_goto cBest_wants_18 ?_
    refine x_ireturn cBest_wants_22 rfl rfl (Nat.zero_le _) (Nat.zero_le _) ?_
    exact h1 (Or.inl q6)
  · refine x_iload_1 cBest_wants_9 ?_
    refine x_aload_0 cBest_wants_10 ?_
    refine x_gI cBest_wants_11 fBest_9 rfl rfl ?_
    refine x_icmp_ge cBest_wants_14 (fun q14 => ?_) (fun q14 => ?_)
    · refine x_iconst 0 (by decide) cBest_wants_21 ?_
      refine x_ireturn cBest_wants_22 rfl rfl (Nat.zero_le _) (Nat.zero_le _) ?_
      exact h0 (fun z => z.elim q6 (fun w => absurd w (Int32.not_lt.mpr q14)))
    · refine x_iconst 1 (by decide) cBest_wants_17 ?_
      refine x_goto cBest_wants_18 ?_
      refine x_ireturn cBest_wants_22 rfl rfl (Nat.zero_le _) (Nat.zero_le _) ?_
      exact h1 (Or.inr (Int32.not_le.mp q14))
theorem s_Best_keepThis {Po : Option Value → HS → Prop} {I : IT} {J : JT} {P : PT} {a c : Int32} (hq : Po none (hp (u2 (u2 I 88 0 a) 88 1 c) J P)) : xj yBest_keepThis (mG yBest_keepThis Po) 0 [some (.ref 88), some (.int a), some (.int c)] [] (hp I J P) 0 0 := by
  refine x_aload_0 cBest_keepThis_0 ?_
  refine x_iload_1 cBest_keepThis_1 ?_
  refine x_pI cBest_keepThis_2 fBest_9 rfl rfl ?_
  refine x_aload_0 cBest_keepThis_5 ?_
  refine x_iload_2 cBest_keepThis_6 ?_
  refine x_pI cBest_keepThis_7 fBest_15 rfl rfl ?_
  refine x_return cBest_keepThis_10 rfl (Nat.zero_le _) (Nat.zero_le _) ?_
  exact hq
theorem s_Tally_clear {Po : Option Value → HS → Prop} {I : IT} {J : JT} {P : PT} (hq : Po none (hp (u2 (u2 I 89 0 0) 89 1 (-9)) J P)) : xj yTally_clear (mG yTally_clear Po) 0 [some (.ref 89)] [] (hp I J P) 0 0 := by
  refine x_aload_0 cTally_clear_0 ?_
  refine x_iconst 0 (by decide) cTally_clear_1 ?_
  refine x_pI cTally_clear_2 fTally_15 rfl rfl ?_
  refine x_aload_0 cTally_clear_5 ?_
  refine x_bipush (-9) (by decide) cTally_clear_6 ?_
  refine x_pI cTally_clear_8 fTally_9 rfl rfl ?_
  refine x_return cTally_clear_11 rfl (Nat.zero_le _) (Nat.zero_le _) ?_
  exact hq
theorem s_Tally_add {Po : Option Value → HS → Prop} {I : IT} {J : JT} {P : PT} {a : Int32} (hq : ∀ I2, (∀ x, x ≠ 89 → I2 x = I x) → I2 89 0 = I 89 0 + 1 → I2 89 1 = (if I 89 0 = 0 then a else I 89 1) → Po none (hp I2 J P)) : xj yTally_add (mG yTally_add Po) 0 [some (.ref 89), some (.int a)] [] (hp I J P) 0 0 := by
  refine x_aload_0 cTally_add_0 ?_
  refine x_gI cTally_add_1 fTally_15 rfl rfl ?_
  refine x_if_ne cTally_add_4 (fun q4 => ?_) (fun q4 => ?_)
  · refine x_aload_0 cTally_add_12 ?_
    refine x_dup rfl cTally_add_13 ?_
    refine x_gI cTally_add_14 fTally_15 rfl rfl ?_
    refine x_iconst 1 (by decide) cTally_add_17 ?_
    refine x_iadd cTally_add_18 ?_
    refine x_pI cTally_add_19 fTally_15 rfl rfl ?_
    refine x_return cTally_add_22 rfl (Nat.zero_le _) (Nat.zero_le _) ?_
    exact hq _ (fun x hx => by rw [u2_n hx]) (by rw [u2_ss]) (by rw [u2_sn (by decide), if_neg q4])
  · refine x_aload_0 cTally_add_7 ?_
    refine x_iload_1 cTally_add_8 ?_
    refine x_pI cTally_add_9 fTally_9 rfl rfl ?_
    refine x_aload_0 cTally_add_12 ?_
    refine x_dup rfl cTally_add_13 ?_
    refine x_gI cTally_add_14 fTally_15 rfl rfl ?_
    refine x_iconst 1 (by decide) cTally_add_17 ?_
    refine x_iadd cTally_add_18 ?_
    refine x_pI cTally_add_19 fTally_15 rfl rfl ?_
    refine x_return cTally_add_22 rfl (Nat.zero_le _) (Nat.zero_le _) ?_
    exact hq _ (fun x hx => by rw [u2_n hx, u2_n hx]) (by rw [u2_ss, u2_sn (by decide)]) (by rw [u2_sn (by decide), u2_ss, if_pos q4])
theorem s_Way_start_loop {Po : Option Value → HS → Prop} {J : JT} {P : PT} {I : IT} (hq : ∀ I2, (∀ x, x ≠ 87 → I2 x = I x) → (∀ j, j < 5 → I2 87 j = 0) → Po none (hp I2 J P)) : ∀ n k, k + n = 5 → ∀ I1, (∀ x, x ≠ 87 → I1 x = I x) → (∀ j, j < k → I1 87 j = 0) → ∀ a1 a2, xj yWay_start (mG yWay_start Po) 12 [some (.ref 86), a1, some (.int a2), some (.int (nI k))] [] (hp I1 J P) 0 0 := by
  intro n
  induction n with
  | zero =>
    intro k hk I1 hf hz a1 a2
    obtain rfl : k = 5 := by omega
    refine x_iload_3 cWay_start_12 ?_
    refine x_aload_0 cWay_start_13 ?_
    refine x_gR (b := 87) cWay_start_14 fWay_9 rfl rfl rfl ?_
    refine x_l1 (5) cWay_start_17 rfl rfl ?_
    refine x_icmp_ge cWay_start_18 (fun q18 => ?_) (fun q18 => absurd q18 (fun z => z (by decide)))
    refine x_return cWay_start_34 rfl (Nat.zero_le _) (Nat.zero_le _) ?_
    exact hq I1 hf hz
  | succ n ih =>
    intro k hk I1 hf hz a1 a2
    refine x_iload_3 cWay_start_12 ?_
    refine x_aload_0 cWay_start_13 ?_
    refine x_gR (b := 87) cWay_start_14 fWay_9 rfl rfl rfl ?_
    refine x_l1 (5) cWay_start_17 rfl rfl ?_
    refine x_icmp_ge cWay_start_18 (fun q18 => absurd q18 (nI_ge (show k < 5 by omega) (by decide))) (fun q18 => ?_)
    refine x_aload_0 cWay_start_21 ?_
    refine x_gR (b := 87) cWay_start_22 fWay_9 rfl rfl rfl ?_
    refine x_iload_3 cWay_start_25 ?_
    refine x_iconst 0 (by decide) cWay_start_26 ?_
    refine x_as (k) cWay_start_27 rfl rfl (by omega) (by decide) ?_
    refine x_iinc_3 (nI (k + 1)) cWay_start_28 rfl (nI_inc k) (Nat.le_of_ble_eq_true rfl) ?_
    refine x_goto cWay_start_31 ?_
    refine ih (k + 1) (by omega) _ (fun x hx => by rw [u2_n hx]; exact hf x hx) (fun j hj => ?_) _ _
    rw [u2_g]
    by_cases h : j = k
    · rw [if_pos ⟨rfl, h⟩]
    · rw [if_neg (fun z => h z.2)]; exact hz j (by omega)
theorem s_Way_start {Po : Option Value → HS → Prop} {I : IT} {J : JT} {P : PT} {a1 a2 : Int32} (hq : ∀ I2, (∀ x, x ≠ 86 → x ≠ 87 → I2 x = I x) → I2 86 1 = a1 → I2 86 2 = a2 → (∀ j, j < 5 → I2 87 j = 0) → Po none (hp I2 J P)) : xj yWay_start (mG yWay_start Po) 0 [some (.ref 86), some (.int a1), some (.int a2), none] [] (hp I J P) 0 0 := by
  refine x_aload_0 cWay_start_0 ?_
  refine x_iload_1 cWay_start_1 ?_
  refine x_pI cWay_start_2 fWay_15 rfl rfl ?_
  refine x_aload_0 cWay_start_5 ?_
  refine x_iload_2 cWay_start_6 ?_
  refine x_pI cWay_start_7 fWay_19 rfl rfl ?_
  refine x_iconst 0 (by decide) cWay_start_10 ?_
  refine x_istore_3 cWay_start_11 rfl (Nat.le_of_ble_eq_true rfl) ?_
  refine s_Way_start_loop (I := u2 (u2 I 86 1 a1) 86 2 a2) (fun I2 hf hz => ?_) 5 0 (by omega) _ (fun _ _ => rfl) (fun j hj => absurd hj (Nat.not_lt_zero j)) _ _
  exact hq I2 (fun x h1 h2 => by rw [hf x h2, u2_n h1, u2_n h1]) (by rw [hf 86 (by decide), u2_sn (by decide), u2_ss]) (by rw [hf 86 (by decide), u2_ss]) hz
def powI (b : Int32) : Nat → Int32
  | 0 => 1
  | k + 1 => powI b k * b
def sumI (f : Nat → Int32) : Nat → Int32
  | 0 => 0
  | k + 1 => sumI f k + f k
def numI (f : Nat → Int32) : Nat → Int32
  | 0 => 0
  | k + 1 => 10 * numI f k + f k
theorem s_Way_most_loop {Po : Option Value → HS → Prop} {I : IT} {J : JT} {P : PT} {c : Nat}  (hc : I 86 1 = nI c) (hc5 : c ≤ 5) (hq : Po (some (.int (powI (I 86 2 + 1) c))) (hp I J P)) :
    ∀ n k, k + n = c → xj yWay_most (mG yWay_most Po) 4 [some (.ref 86), some (.int (powI (I 86 2 + 1) k)), some (.int (nI k))] [] (hp I J P) 0 0 := by
  intro n
  induction n with
  | zero =>
    intro k hk
    obtain rfl : k = c := by omega
    refine x_iload_2 cWay_most_4 ?_
    refine x_aload_0 cWay_most_5 ?_
    refine x_gI cWay_most_6 fWay_15 rfl rfl ?_
    refine x_icmp_ge cWay_most_9 (fun q9 => ?_) (fun q9 => absurd q9 (fun z => z (by rw [hc]; exact Int32.le_refl _)))
    refine x_iload_1 cWay_most_27 ?_
    refine x_ireturn cWay_most_28 rfl rfl (Nat.zero_le _) (Nat.zero_le _) ?_
    exact hq
  | succ n ih =>
    intro k hk
    have hkc : k < c := by omega
    refine x_iload_2 cWay_most_4 ?_
    refine x_aload_0 cWay_most_5 ?_
    refine x_gI cWay_most_6 fWay_15 rfl rfl ?_
    refine x_icmp_ge cWay_most_9 (fun q9 => absurd q9 (by rw [hc]; exact nI_ge hkc (by omega))) (fun q9 => ?_)
    refine x_iload_1 cWay_most_12 ?_
    refine x_aload_0 cWay_most_13 ?_
    refine x_gI cWay_most_14 fWay_19 rfl rfl ?_
    refine x_iconst 1 (by decide) cWay_most_17 ?_
    refine x_iadd cWay_most_18 ?_
    refine x_imul cWay_most_19 ?_
    refine x_istore_1 cWay_most_20 rfl (Nat.le_of_ble_eq_true rfl) ?_
    refine x_iinc_2 (nI (k + 1)) cWay_most_21 rfl (nI_inc k) (Nat.le_of_ble_eq_true rfl) ?_
    refine x_goto cWay_most_24 ?_
    exact ih (k + 1) (by omega)
theorem s_Way_most {Po : Option Value → HS → Prop} {I : IT} {J : JT} {P : PT} {c : Nat} (hc : I 86 1 = nI c) (hc5 : c ≤ 5) (hq : Po (some (.int (powI (I 86 2 + 1) c))) (hp I J P)) : xj yWay_most (mG yWay_most Po) 0 [some (.ref 86), none, none] [] (hp I J P) 0 0 := by
  refine x_iconst 1 (by decide) cWay_most_0 ?_
  refine x_istore_1 cWay_most_1 rfl (Nat.le_of_ble_eq_true rfl) ?_
  refine x_iconst 0 (by decide) cWay_most_2 ?_
  refine x_istore_2 cWay_most_3 rfl (Nat.le_of_ble_eq_true rfl) ?_
  exact s_Way_most_loop hc hc5 hq c 0 (by omega)
theorem s_Way_sum_loop {Po : Option Value → HS → Prop} {I : IT} {J : JT} {P : PT} {c : Nat}  (hc : I 86 1 = nI c) (hc5 : c ≤ 5) (hq : Po (some (.int (sumI (I 87) c))) (hp I J P)) :
    ∀ n k, k + n = c → xj yWay_sum (mG yWay_sum Po) 4 [some (.ref 86), some (.int (sumI (I 87) k)), some (.int (nI k))] [] (hp I J P) 0 0 := by
  intro n
  induction n with
  | zero =>
    intro k hk
    obtain rfl : k = c := by omega
    refine x_iload_2 cWay_sum_4 ?_
    refine x_aload_0 cWay_sum_5 ?_
    refine x_gI cWay_sum_6 fWay_15 rfl rfl ?_
    refine x_icmp_ge cWay_sum_9 (fun q9 => ?_) (fun q9 => absurd q9 (fun z => z (by rw [hc]; exact Int32.le_refl _)))
    refine x_iload_1 cWay_sum_29 ?_
    refine x_ireturn cWay_sum_30 rfl rfl (Nat.zero_le _) (Nat.zero_le _) ?_
    exact hq
  | succ n ih =>
    intro k hk
    have hkc : k < c := by omega
    refine x_iload_2 cWay_sum_4 ?_
    refine x_aload_0 cWay_sum_5 ?_
    refine x_gI cWay_sum_6 fWay_15 rfl rfl ?_
    refine x_icmp_ge cWay_sum_9 (fun q9 => absurd q9 (by rw [hc]; exact nI_ge hkc (by omega))) (fun q9 => ?_)
    refine x_iload_1 cWay_sum_12 ?_
    refine x_aload_0 cWay_sum_13 ?_
    refine x_gR (b := 87) cWay_sum_14 fWay_9 rfl rfl rfl ?_
    refine x_iload_2 cWay_sum_17 ?_
    refine x_t2 (ls0 := [some _, some _]) cWay_sum_18 kWay_22 okK_at ⟨(Nat.le_of_ble_eq_true rfl), (Nat.le_of_ble_eq_true rfl)⟩ (Nat.le_of_ble_eq_true rfl) rfl (Nat.le_of_ble_eq_true rfl) rfl rfl (Nat.zero_le _) (Nat.zero_le _) ?_
    refine s_at k rfl rfl (by omega) (by decide) ?_
    dsimp only [pushR]
    refine x_iadd cWay_sum_21 ?_
    refine x_istore_1 cWay_sum_22 rfl (Nat.le_of_ble_eq_true rfl) ?_
    refine x_iinc_2 (nI (k + 1)) cWay_sum_23 rfl (nI_inc k) (Nat.le_of_ble_eq_true rfl) ?_
    refine x_goto cWay_sum_26 ?_
    exact ih (k + 1) (by omega)
theorem s_Way_sum {Po : Option Value → HS → Prop} {I : IT} {J : JT} {P : PT} {c : Nat} (hc : I 86 1 = nI c) (hc5 : c ≤ 5) (hq : Po (some (.int (sumI (I 87) c))) (hp I J P)) : xj yWay_sum (mG yWay_sum Po) 0 [some (.ref 86), none, none] [] (hp I J P) 0 0 := by
  refine x_iconst 0 (by decide) cWay_sum_0 ?_
  refine x_istore_1 cWay_sum_1 rfl (Nat.le_of_ble_eq_true rfl) ?_
  refine x_iconst 0 (by decide) cWay_sum_2 ?_
  refine x_istore_2 cWay_sum_3 rfl (Nat.le_of_ble_eq_true rfl) ?_
  exact s_Way_sum_loop hc hc5 hq c 0 (by omega)
theorem s_Way_number_loop {Po : Option Value → HS → Prop} {I : IT} {J : JT} {P : PT} {c : Nat}  (hc : I 86 1 = nI c) (hc5 : c ≤ 5) (hq : Po (some (.int (numI (I 87) c))) (hp I J P)) :
    ∀ n k, k + n = c → xj yWay_number (mG yWay_number Po) 4 [some (.ref 86), some (.int (numI (I 87) k)), some (.int (nI k))] [] (hp I J P) 0 0 := by
  intro n
  induction n with
  | zero =>
    intro k hk
    obtain rfl : k = c := by omega
    refine x_iload_2 cWay_number_4 ?_
    refine x_aload_0 cWay_number_5 ?_
    refine x_gI cWay_number_6 fWay_15 rfl rfl ?_
    refine x_icmp_ge cWay_number_9 (fun q9 => ?_) (fun q9 => absurd q9 (fun z => z (by rw [hc]; exact Int32.le_refl _)))
    refine x_iload_1 cWay_number_32 ?_
    refine x_ireturn cWay_number_33 rfl rfl (Nat.zero_le _) (Nat.zero_le _) ?_
    exact hq
  | succ n ih =>
    intro k hk
    have hkc : k < c := by omega
    refine x_iload_2 cWay_number_4 ?_
    refine x_aload_0 cWay_number_5 ?_
    refine x_gI cWay_number_6 fWay_15 rfl rfl ?_
    refine x_icmp_ge cWay_number_9 (fun q9 => absurd q9 (by rw [hc]; exact nI_ge hkc (by omega))) (fun q9 => ?_)
    refine x_bipush 10 (by decide) cWay_number_12 ?_
    refine x_iload_1 cWay_number_14 ?_
    refine x_imul cWay_number_15 ?_
    refine x_aload_0 cWay_number_16 ?_
    refine x_gR (b := 87) cWay_number_17 fWay_9 rfl rfl rfl ?_
    refine x_iload_2 cWay_number_20 ?_
    refine x_t2 (ls0 := [some _, some _]) cWay_number_21 kWay_22 okK_at ⟨(Nat.le_of_ble_eq_true rfl), (Nat.le_of_ble_eq_true rfl)⟩ (Nat.le_of_ble_eq_true rfl) rfl (Nat.le_of_ble_eq_true rfl) rfl rfl (Nat.zero_le _) (Nat.zero_le _) ?_
    refine s_at k rfl rfl (by omega) (by decide) ?_
    dsimp only [pushR]
    refine x_iadd cWay_number_24 ?_
    refine x_istore_1 cWay_number_25 rfl (Nat.le_of_ble_eq_true rfl) ?_
    refine x_iinc_2 (nI (k + 1)) cWay_number_26 rfl (nI_inc k) (Nat.le_of_ble_eq_true rfl) ?_
    refine x_goto cWay_number_29 ?_
    exact ih (k + 1) (by omega)
theorem s_Way_number {Po : Option Value → HS → Prop} {I : IT} {J : JT} {P : PT} {c : Nat} (hc : I 86 1 = nI c) (hc5 : c ≤ 5) (hq : Po (some (.int (numI (I 87) c))) (hp I J P)) : xj yWay_number (mG yWay_number Po) 0 [some (.ref 86), none, none] [] (hp I J P) 0 0 := by
  refine x_iconst 0 (by decide) cWay_number_0 ?_
  refine x_istore_1 cWay_number_1 rfl (Nat.le_of_ble_eq_true rfl) ?_
  refine x_iconst 0 (by decide) cWay_number_2 ?_
  refine x_istore_2 cWay_number_3 rfl (Nat.le_of_ble_eq_true rfl) ?_
  exact s_Way_number_loop hc hc5 hq c 0 (by omega)
