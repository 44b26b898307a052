theorem ix_of {i : Int32} {c : Nat} (h0 : ¬ i < 0) (h : ¬ nI c ≤ i) (hc : c < 2 ^ 31) : ∃ j, j < c ∧ i = nI j := by
  rcases pk_ix i hc with q | q | q
  · exact absurd q h0
  · exact absurd q h
  · exact q
/-- what was seen agrees with the places of a flight -/
def Agr (I : IT) (kp : Nat → Nat) (fc n : Nat) : Prop := ∀ r, r < n → kp r < fc → I 85 (kp r) = I 78 r
theorem s_agree_loop {Po : Option Value → HS → Prop} {I : IT} {J : JT} {P : PT} {c fc : Nat} {kp : Nat → Nat} (hc : I 76 2 = nI c) (hc6 : c ≤ 6) (hfc : I 83 2 = nI fc) (hf5 : fc ≤ 5) (hk : ∀ r, r < c → I 77 r = nI (kp r) ∧ kp r < 5) (h1 : Agr I kp fc c → Po (some (.int 1)) (hp I J P)) (h0 : ¬ Agr I kp fc c → Po (some (.int 0)) (hp I J P)) : ∀ n k, k + n = c → Agr I kp fc k → ∀ g3, xj ySightings_agreeWith (mG ySightings_agreeWith Po) 2 [some (.ref 76), some (.ref 83), some (.int (nI k)), g3] [] (hp I J P) 0 0 := by
  intro n
  induction n with
  | zero =>
    intro k hkc ha g3
    obtain rfl : k = c := by omega
    refine x_iload_2 cSightings_agreeWith_2 ?_
    refine x_aload_0 cSightings_agreeWith_3 ?_
    refine x_gI cSightings_agreeWith_4 fSightings_18 rfl rfl ?_
    refine x_icmp_ge cSightings_agreeWith_7 (fun q7 => ?_) (fun q7 => absurd q7 (fun z => z (by rw [hc]; exact Int32.le_refl _)))
    refine x_iconst 1 (by decide) cSightings_agreeWith_54 ?_
    refine x_ireturn cSightings_agreeWith_55 rfl rfl (Nat.zero_le _) (Nat.zero_le _) ?_
    exact h1 ha
  | succ n ih =>
    intro k hkn ha g3
    have hkc : k < c := by omega
    have hk5 := (hk k hkc).2
    refine x_iload_2 cSightings_agreeWith_2 ?_
    refine x_aload_0 cSightings_agreeWith_3 ?_
    refine x_gI cSightings_agreeWith_4 fSightings_18 rfl rfl ?_
    refine x_icmp_ge cSightings_agreeWith_7 (fun q7 => absurd q7 (by rw [hc]; exact nI_ge hkc (by omega))) (fun q7 => ?_)
    refine x_aload_0 cSightings_agreeWith_10 ?_
    refine x_gR (b := 77) cSightings_agreeWith_11 fSightings_9 rfl rfl rfl ?_
    refine x_iload_2 cSightings_agreeWith_14 ?_
    refine x_t2 (ls0 := [some _, some _]) cSightings_agreeWith_15 kSightings_26 okK_at ⟨(Nat.le_of_ble_eq_true rfl), (Nat.le_of_ble_eq_true rfl)⟩ (Nat.le_of_ble_eq_true rfl) rfl (Nat.le_of_ble_eq_true rfl) rfl rfl (Nat.zero_le _) (Nat.zero_le _) ?_
    refine s_at k rfl rfl (by omega) (by decide) ?_
    dsimp only [pushR]
    refine x_top (nI (kp k)) (hk k hkc).1 ?_
    refine x_istore_3 cSightings_agreeWith_18 rfl (Nat.le_of_ble_eq_true rfl) ?_
    refine x_iload_3 cSightings_agreeWith_19 ?_
    refine x_aload_1 cSightings_agreeWith_20 ?_
    refine x_gI cSightings_agreeWith_21 fSightings_30 rfl rfl ?_
    refine x_icmp_ge cSightings_agreeWith_24 (fun q24 => ?_) (fun q24 => ?_)
    · refine x_iinc_2 (nI (k + 1)) cSightings_agreeWith_48 rfl (nI_inc k) (Nat.le_of_ble_eq_true rfl) ?_
      refine x_goto cSightings_agreeWith_51 ?_
      exact ih (k + 1) (by omega) (fun r hr hf => by
        by_cases h : r < k
        · exact ha r h hf
        · obtain rfl : r = k := by omega
          exact absurd hf (Nat.not_lt.mpr (by rw [hfc] at q24; exact (nI_leI (by omega) (by omega)).mp q24))) _
    · refine x_aload_1 cSightings_agreeWith_27 ?_
      refine x_gR (b := 85) cSightings_agreeWith_28 fSightings_33 rfl rfl rfl ?_
      refine x_iload_3 cSightings_agreeWith_31 ?_
      refine x_t2 (ls0 := [some _, some _]) cSightings_agreeWith_32 kSightings_26 okK_at ⟨(Nat.le_of_ble_eq_true rfl), (Nat.le_of_ble_eq_true rfl)⟩ (Nat.le_of_ble_eq_true rfl) rfl (Nat.le_of_ble_eq_true rfl) rfl rfl (Nat.zero_le _) (Nat.zero_le _) ?_
      refine s_at (kp k) rfl rfl hk5 (by decide) ?_
      dsimp only [pushR]
      refine x_aload_0 cSightings_agreeWith_35 ?_
      refine x_gR (b := 78) cSightings_agreeWith_36 fSightings_15 rfl rfl rfl ?_
      refine x_iload_2 cSightings_agreeWith_39 ?_
      refine x_t2 (ls0 := [some _, some _]) cSightings_agreeWith_40 kSightings_26 okK_at ⟨(Nat.le_of_ble_eq_true rfl), (Nat.le_of_ble_eq_true rfl)⟩ (Nat.le_of_ble_eq_true rfl) rfl (Nat.le_of_ble_eq_true rfl) rfl rfl (Nat.zero_le _) (Nat.zero_le _) ?_
      refine s_at k rfl rfl (by omega) (by decide) ?_
      dsimp only [pushR]
      refine x_icmp_eq cSightings_agreeWith_43 (fun q43 => ?_) (fun q43 => ?_)
      · refine x_iinc_2 (nI (k + 1)) cSightings_agreeWith_48 rfl (nI_inc k) (Nat.le_of_ble_eq_true rfl) ?_
        refine x_goto cSightings_agreeWith_51 ?_
        exact ih (k + 1) (by omega) (fun r hr hf => by
          by_cases h : r < k
          · exact ha r h hf
          · obtain rfl : r = k := by omega
            exact q43) _
      · refine x_iconst 0 (by decide) cSightings_agreeWith_46 ?_
        refine x_ireturn cSightings_agreeWith_47 rfl rfl (Nat.zero_le _) (Nat.zero_le _) ?_
        exact h0 (fun z => q43 (z k hkc (by rw [hfc] at q24; exact (nI_ltI (by omega) (by omega)).mp (Int32.not_le.mp q24))))
theorem s_agree {Po : Option Value → HS → Prop} {I : IT} {J : JT} {P : PT} {c fc : Nat} {kp : Nat → Nat} (hc : I 76 2 = nI c) (hc6 : c ≤ 6) (hfc : I 83 2 = nI fc) (hf5 : fc ≤ 5) (hk : ∀ r, r < c → I 77 r = nI (kp r) ∧ kp r < 5) (h1 : Agr I kp fc c → Po (some (.int 1)) (hp I J P)) (h0 : ¬ Agr I kp fc c → Po (some (.int 0)) (hp I J P)) : xj ySightings_agreeWith (mG ySightings_agreeWith Po) 0 [some (.ref 76), some (.ref 83), none, none] [] (hp I J P) 0 0 := by
  refine x_iconst 0 (by decide) cSightings_agreeWith_0 ?_
  refine x_istore_2 cSightings_agreeWith_1 rfl (Nat.le_of_ble_eq_true rfl) ?_
  exact s_agree_loop hc hc6 hfc hf5 hk h1 h0 c 0 (by omega) (fun r hr => absurd hr (Nat.not_lt_zero r)) _
theorem s_has {Po : Option Value → HS → Prop} {I : IT} {J : JT} {P : PT} {ln c : Nat} {i : Int32} (hl : isLn ln) (hc : I ln 0 = nI c) (hc5 : c ≤ 5) (h1 : ∀ j, j < c → i = nI j → Po (some (.int 1)) (hp I J P)) (h0 : (¬ ∃ j, j < c ∧ i = nI j) → Po (some (.int 0)) (hp I J P)) : xj yLine_has (mG yLine_has Po) 0 [some (.ref ln), some (.int i)] [] (hp I J P) 0 0 := by
  refine x_iload_1 cLine_has_0 ?_
  refine x_if_lt cLine_has_1 (fun q1 => ?_) (fun q1 => ?_)
  · refine x_iconst 0 (by decide) cLine_has_16 ?_
    refine x_ireturn cLine_has_17 rfl rfl (Nat.zero_le _) (Nat.zero_le _) ?_
    exact h0 (fun ⟨j, hj, e⟩ => nI_pos (n := j) (by omega) (by rw [← e]; exact q1))
  · refine x_iload_1 cLine_has_4 ?_
    refine x_aload_0 cLine_has_5 ?_
    refine x_gI cLine_has_6 fLine_25 hl.1 rfl ?_
    refine x_icmp_ge cLine_has_9 (fun q9 => ?_) (fun q9 => ?_)
    · refine x_iconst 0 (by decide) cLine_has_16 ?_
      refine x_ireturn cLine_has_17 rfl rfl (Nat.zero_le _) (Nat.zero_le _) ?_
      exact h0 (fun ⟨j, hj, e⟩ => nI_ge hj (by omega) (by rw [← e, ← hc]; exact q9))
    · refine x_iconst 1 (by decide) cLine_has_12 ?_
      refine x_goto cLine_has_13 ?_
      refine x_ireturn cLine_has_17 rfl rfl (Nat.zero_le _) (Nat.zero_le _) ?_
      rw [hc] at q9
      obtain ⟨j, hj, e⟩ := ix_of q1 q9 (by omega)
      exact h1 j hj e
theorem s_yardsFrom_loop {Po : Option Value → HS → Prop} {I : IT} {J : JT} {P : PT} {ln c i0 : Nat} (hl : isLn ln) (hc : I ln 0 = nI c) (hc5 : c ≤ 5) (hq : Po (some (.int (sumI (fun j => I (ln + 1) (i0 + j)) (c - i0)))) (hp I J P)) : ∀ n m, i0 + m + n = c → ∀ g1, xj yLine_yardsFrom (mG yLine_yardsFrom Po) 8 [some (.ref ln), some (.int g1), some (.int (sumI (fun j => I (ln + 1) (i0 + j)) m)), some (.int (nI (i0 + m)))] [] (hp I J P) 0 0 := by
  intro n
  induction n with
  | zero =>
    intro m hm g1
    obtain rfl : m = c - i0 := by omega
    rw [show i0 + (c - i0) = c by omega]
    refine x_iload_3 cLine_yardsFrom_8 ?_
    refine x_aload_0 cLine_yardsFrom_9 ?_
    refine x_gI cLine_yardsFrom_10 fLine_25 hl.1 rfl ?_
    refine x_icmp_ge cLine_yardsFrom_13 (fun q13 => ?_) (fun q13 => absurd q13 (fun z => z (by rw [hc]; exact Int32.le_refl _)))
    refine x_iload_2 cLine_yardsFrom_33 ?_
    refine x_ireturn cLine_yardsFrom_34 rfl rfl (Nat.zero_le _) (Nat.zero_le _) ?_
    exact hq
  | succ n ih =>
    intro m hm g1
    refine x_iload_3 cLine_yardsFrom_8 ?_
    refine x_aload_0 cLine_yardsFrom_9 ?_
    refine x_gI cLine_yardsFrom_10 fLine_25 hl.1 rfl ?_
    refine x_icmp_ge cLine_yardsFrom_13 (fun q13 => absurd q13 (by rw [hc]; exact nI_ge (by omega) (by omega))) (fun q13 => ?_)
    refine x_iload_2 cLine_yardsFrom_16 ?_
    refine x_aload_0 cLine_yardsFrom_17 ?_
    refine x_gR (b := ln + 1) cLine_yardsFrom_18 fLine_15 hl.1 rfl hl.2.1 ?_
    refine x_iload_3 cLine_yardsFrom_21 ?_
    refine x_t2 (ls0 := [some _, some _]) cLine_yardsFrom_22 kLine_34 okK_at ⟨(Nat.le_of_ble_eq_true rfl), (Nat.le_of_ble_eq_true rfl)⟩ (Nat.le_of_ble_eq_true rfl) rfl (Nat.le_of_ble_eq_true rfl) rfl rfl (Nat.zero_le _) (Nat.zero_le _) ?_
    refine s_at (i0 + m) hl.2.2.2.2.1 rfl (by omega) (by decide) ?_
    dsimp only [pushR]
    refine x_iadd cLine_yardsFrom_25 ?_
    refine x_istore_2 cLine_yardsFrom_26 rfl (Nat.le_of_ble_eq_true rfl) ?_
    refine x_iinc_3 (nI (i0 + (m + 1))) cLine_yardsFrom_27 rfl (nI_1 (i0 + m)) (Nat.le_of_ble_eq_true rfl) ?_
    refine x_goto cLine_yardsFrom_30 ?_
    exact ih (m + 1) (by omega) _
theorem s_yardsFrom {Po : Option Value → HS → Prop} {I : IT} {J : JT} {P : PT} {ln c i0 : Nat} (hl : isLn ln) (hc : I ln 0 = nI c) (hc5 : c ≤ 5) (hi : i0 ≤ c) (hq : Po (some (.int (sumI (fun j => I (ln + 1) (i0 + j)) (c - i0)))) (hp I J P)) : xj yLine_yardsFrom (mG yLine_yardsFrom Po) 0 [some (.ref ln), some (.int (nI i0)), none, none] [] (hp I J P) 0 0 := by
  refine x_iconst 0 (by decide) cLine_yardsFrom_0 ?_
  refine x_istore_2 cLine_yardsFrom_1 rfl (Nat.le_of_ble_eq_true rfl) ?_
  refine x_iconst 0 (by decide) cLine_yardsFrom_2 ?_
  refine x_iload_1 cLine_yardsFrom_3 ?_
  refine x_s2 (ls0 := [some _, some _]) cLine_yardsFrom_4 kLine_28 okMath_max ⟨(Nat.le_of_ble_eq_true rfl), (Nat.le_of_ble_eq_true rfl)⟩ (Nat.le_of_ble_eq_true rfl) rfl (Nat.le_of_ble_eq_true rfl) rfl rfl (Nat.zero_le _) (Nat.zero_le _) ?_
  refine s_max ?_
  dsimp only [pushR]
  refine x_top (nI (i0 + 0)) (by
    by_cases h : 0 < i0
    · rw [if_pos (show (0 : Int32) < nI i0 from nI_lt (a := 0) h (by omega))]; rfl
    · obtain rfl : i0 = 0 := by omega
      rfl) ?_
  refine x_istore_3 cLine_yardsFrom_7 rfl (Nat.le_of_ble_eq_true rfl) ?_
  exact s_yardsFrom_loop hl hc hc5 hq (c - i0) 0 (by omega) _
theorem s_tugsMore_loop {Po : Option Value → HS → Prop} {I : IT} {J : JT} {P : PT} {c : Nat} {ln : Nat} (hl : isLn ln) (hc : I ln 0 = nI c) (hc5 : c ≤ 5) (hq : Po (some (.int (sumI (fun j => I (ln + 2) j + 2) c))) (hp I J P)) :
    ∀ n k, k + n = c → xj yLine_tugsMore (mG yLine_tugsMore Po) 4 [some (.ref ln), some (.int (sumI (fun j => I (ln + 2) j + 2) k)), some (.int (nI k))] [] (hp I J P) 0 0 := by
  intro n
  induction n with
  | zero =>
    intro k hk
    obtain rfl : k = c := by omega
    refine x_iload_2 cLine_tugsMore_4 ?_
    refine x_aload_0 cLine_tugsMore_5 ?_
    refine x_gI cLine_tugsMore_6 fLine_25 hl.1 rfl ?_
    refine x_icmp_ge cLine_tugsMore_9 (fun q9 => ?_) (fun q9 => absurd q9 (fun z => z (by rw [hc]; exact Int32.le_refl _)))
    refine x_iload_1 cLine_tugsMore_31 ?_
    refine x_ireturn cLine_tugsMore_32 rfl rfl (Nat.zero_le _) (Nat.zero_le _) ?_
    exact hq
  | succ n ih =>
    intro k hk
    have hkc : k < c := by omega
    refine x_iload_2 cLine_tugsMore_4 ?_
    refine x_aload_0 cLine_tugsMore_5 ?_
    refine x_gI cLine_tugsMore_6 fLine_25 hl.1 rfl ?_
    refine x_icmp_ge cLine_tugsMore_9 (fun q9 => absurd q9 (by rw [hc]; exact nI_ge hkc (by omega))) (fun q9 => ?_)
    refine x_iload_1 cLine_tugsMore_12 ?_
    refine x_aload_0 cLine_tugsMore_13 ?_
    refine x_gR (b := ln + 2) cLine_tugsMore_14 fLine_19 hl.1 rfl hl.2.2.1 ?_
    refine x_iload_2 cLine_tugsMore_17 ?_
    refine x_t2 (ls0 := [some _, some _]) cLine_tugsMore_18 kLine_34 okK_at ⟨(Nat.le_of_ble_eq_true rfl), (Nat.le_of_ble_eq_true rfl)⟩ (Nat.le_of_ble_eq_true rfl) rfl (Nat.le_of_ble_eq_true rfl) rfl rfl (Nat.zero_le _) (Nat.zero_le _) ?_
    refine s_at k hl.2.2.2.2.2.1 rfl (by omega) (by decide) ?_
    dsimp only [pushR]
    refine x_iconst 2 (by decide) cLine_tugsMore_21 ?_
    refine x_iadd cLine_tugsMore_22 ?_
    refine x_iadd cLine_tugsMore_23 ?_
    refine x_istore_1 cLine_tugsMore_24 rfl (Nat.le_of_ble_eq_true rfl) ?_
    refine x_iinc_2 (nI (k + 1)) cLine_tugsMore_25 rfl (nI_inc k) (Nat.le_of_ble_eq_true rfl) ?_
    refine x_goto cLine_tugsMore_28 ?_
    exact ih (k + 1) (by omega)
theorem s_tugsMore {Po : Option Value → HS → Prop} {I : IT} {J : JT} {P : PT} {ln c : Nat} (hl : isLn ln) (hc : I ln 0 = nI c) (hc5 : c ≤ 5) (hq : Po (some (.int (sumI (fun j => I (ln + 2) j + 2) c))) (hp I J P)) : xj yLine_tugsMore (mG yLine_tugsMore Po) 0 [some (.ref ln), none, none] [] (hp I J P) 0 0 := by
  refine x_iconst 0 (by decide) cLine_tugsMore_0 ?_
  refine x_istore_1 cLine_tugsMore_1 rfl (Nat.le_of_ble_eq_true rfl) ?_
  refine x_iconst 0 (by decide) cLine_tugsMore_2 ?_
  refine x_istore_2 cLine_tugsMore_3 rfl (Nat.le_of_ble_eq_true rfl) ?_
  exact s_tugsMore_loop hl hc hc5 hq c 0 (by omega)
/-- how many of the first k are picked -/
def sel (m : Nat) : Nat → Nat
  | 0 => 0
  | k + 1 => if m.testBit k then sel m k + 1 else sel m k
theorem sel_le (m : Nat) : ∀ k, sel m k ≤ k
  | 0 => Nat.le_refl 0
  | k + 1 => by
    have := sel_le m k
    simp only [sel]
    split <;> omega
theorem sel_31 : ∀ k, k ≤ 5 → sel 31 k = k := by decide +kernel
theorem bit31 : ∀ k, k < 5 → Nat.testBit 31 k = true := by decide +kernel
theorem bitI : ∀ m, m < 32 → ∀ k, k < 5 → ((((nI m) >>> (nI k &&& 31)) &&& 1 = (1 : Int32)) ↔ m.testBit k = true) := by decide +kernel
theorem sel_mono (m : Nat) : ∀ k c, k < c → m.testBit k = true → sel m k < sel m c := by
  intro k c hkc hb
  induction c with
  | zero => omega
  | succ c ih =>
    simp only [sel]
    by_cases h : k = c
    · subst h; rw [if_pos hb]; omega
    · have := ih (by omega)
      split <;> omega
theorem sel_surj (m : Nat) : ∀ c j, j < sel m c → ∃ k, k < c ∧ m.testBit k = true ∧ sel m k = j := by
  intro c
  induction c with
  | zero => intro j hj; simp [sel] at hj
  | succ c ih =>
    intro j hj
    simp only [sel] at hj
    by_cases hb : m.testBit c = true
    · rw [if_pos hb] at hj
      by_cases h : j = sel m c
      · exact ⟨c, by omega, hb, h.symm⟩
      · obtain ⟨k, h1, h2, h3⟩ := ih j (by omega)
        exact ⟨k, by omega, h2, h3⟩
    · rw [if_neg hb] at hj
      obtain ⟨k, h1, h2, h3⟩ := ih j hj
      exact ⟨k, by omega, h2, h3⟩
/-- what Line.takeSome leaves -/
def TkOut (I I' : IT) (A B m c : Nat) : Prop := (∀ a, a ≠ A → a ≠ A + 1 → a ≠ A + 2 → a ≠ A + 3 → I' a = I a) ∧ I' A 0 = nI (sel m c) ∧ (∀ j, 1 ≤ j → j ≤ 4 → I' A j = I B j) ∧ ∀ k, k < c → m.testBit k = true → I' (A + 1) (sel m k) = I (B + 1) k ∧ I' (A + 2) (sel m k) = I (B + 2) k ∧ I' (A + 3) (sel m k) = I (B + 3) k
theorem s_takeSome_loop {Po : Option Value → HS → Prop} {I : IT} {J : JT} {P : PT} {A B m c : Nat} (hA : isLn A) (hB : isLn B) (hd : A + 3 < B ∨ B + 3 < A) (hm : m < 32) (hc : I B 0 = nI c) (hc5 : c ≤ 5) (hq : ∀ I', TkOut I I' A B m c → Po none (hp I' J P)) : ∀ n k, k + n = c → ∀ I', (∀ a, a ≠ A → a ≠ A + 1 → a ≠ A + 2 → a ≠ A + 3 → I' a = I a) → (∀ j, 1 ≤ j → j ≤ 4 → I' A j = I B j) → (∀ i, i < k → m.testBit i = true → I' (A + 1) (sel m i) = I (B + 1) i ∧ I' (A + 2) (sel m i) = I (B + 2) i ∧ I' (A + 3) (sel m i) = I (B + 3) i) → xj yLine_takeSome (mG yLine_takeSome Po) 37 [some (.ref A), some (.ref B), some (.int (nI m)), some (.int (nI (sel m k))), some (.int (nI k))] [] (hp I' J P) 0 0 := by
  intro n
  induction n with
  | zero =>
    intro k hk I' hf hj hs
    obtain rfl : k = c := by omega
    have hBI : ∀ j, j < 4 → I' (B + j) = I (B + j) := fun j _ => hf _ (by omega) (by omega) (by omega) (by omega)
    refine x_iload_4 cLine_takeSome_37 ?_
    refine x_aload_1 cLine_takeSome_39 ?_
    refine x_gI cLine_takeSome_40 fLine_25 hB.1 rfl ?_
    refine x_icmp_ge cLine_takeSome_43 (fun q43 => ?_) (fun q43 => absurd q43 (fun z => z (by rw [show I' B = I B from hBI 0 (by omega), hc]; exact Int32.le_refl _)))
    refine x_aload_0 cLine_takeSome_116 ?_
    refine x_iload_3 cLine_takeSome_117 ?_
    refine x_pI cLine_takeSome_118 fLine_25 hA.1 rfl ?_
    refine x_return cLine_takeSome_121 rfl (Nat.zero_le _) (Nat.zero_le _) ?_
    refine hq _ ⟨fun a h1 h2 h3 h4 => by rw [u2_n h1]; exact hf a h1 h2 h3 h4, by rw [u2_ss], fun j h1 h2 => by rw [u2_sn (by omega)]; exact hj j h1 h2, fun i hi hb => ?_⟩
    rw [u2_n (by omega), u2_n (by omega), u2_n (by omega)]
    exact hs i hi hb
  | succ n ih =>
    intro k hk I' hf hj hs
    have hkc : k < c := by omega
    have hsk := sel_le m k
    have hBI : ∀ j, j < 4 → I' (B + j) = I (B + j) := fun j _ => hf _ (by omega) (by omega) (by omega) (by omega)
    have hb0 := hBI 0 (by omega)
    have hb1 := hBI 1 (by omega)
    have hb2 := hBI 2 (by omega)
    have hb3 := hBI 3 (by omega)
    rw [Nat.add_zero] at hb0
    refine x_iload_4 cLine_takeSome_37 ?_
    refine x_aload_1 cLine_takeSome_39 ?_
    refine x_gI cLine_takeSome_40 fLine_25 hB.1 rfl ?_
    refine x_icmp_ge cLine_takeSome_43 (fun q43 => absurd q43 (by rw [hb0, hc]; exact nI_ge hkc (by omega))) (fun q43 => ?_)
    refine x_iload_2 cLine_takeSome_46 ?_
    refine x_iload_4 cLine_takeSome_47 ?_
    refine x_ishr cLine_takeSome_49 ?_
    refine x_iconst 1 (by decide) cLine_takeSome_50 ?_
    refine x_iand cLine_takeSome_51 ?_
    refine x_iconst 1 (by decide) cLine_takeSome_52 ?_
    refine x_icmp_ne cLine_takeSome_53 (fun q53 => ?_) (fun q53 => ?_)
    · refine x_iinc_4 (nI (k + 1)) cLine_takeSome_110 rfl (nI_inc k) (Nat.le_of_ble_eq_true rfl) ?_
      refine x_goto cLine_takeSome_113 ?_
      have hbf : ¬ m.testBit k = true := fun z => q53 ((bitI m hm k (by omega)).mpr z)
      have e : sel m (k + 1) = sel m k := by simp only [sel]; rw [if_neg hbf]
      rw [← e]
      refine ih (k + 1) (by omega) I' hf hj (fun i hi hb => ?_)
      exact hs i (by rcases Nat.lt_or_eq_of_le (Nat.le_of_lt_succ hi) with q | q; exact q; subst q; exact absurd hb hbf) hb
    · refine x_aload_0 cLine_takeSome_56 ?_
      refine x_gR (b := A + 1) cLine_takeSome_57 fLine_15 hA.1 rfl hA.2.1 ?_
      refine x_iload_3 cLine_takeSome_60 ?_
      refine x_aload_1 cLine_takeSome_61 ?_
      refine x_gR (b := B + 1) cLine_takeSome_62 fLine_15 hB.1 rfl hB.2.1 ?_
      refine x_iload_4 cLine_takeSome_65 ?_
      refine x_t2 (ls0 := [some _, some _]) cLine_takeSome_67 kLine_34 okK_at ⟨(Nat.le_of_ble_eq_true rfl), (Nat.le_of_ble_eq_true rfl)⟩ (Nat.le_of_ble_eq_true rfl) rfl (Nat.le_of_ble_eq_true rfl) rfl rfl (Nat.zero_le _) (Nat.zero_le _) ?_
      refine s_at k hB.2.2.2.2.1 rfl (by omega) (by decide) ?_
      dsimp only [pushR]
      rw [hb1]
      refine x_t3 (ls0 := [some _, some _, some _]) cLine_takeSome_70 kLine_51 okK_put ⟨(Nat.le_of_ble_eq_true rfl), (Nat.le_of_ble_eq_true rfl)⟩ (Nat.le_of_ble_eq_true rfl) rfl (Nat.le_of_ble_eq_true rfl) rfl rfl (Nat.zero_le _) (Nat.zero_le _) ?_
      refine s_put (sel m k) hA.2.2.2.2.1 rfl (by omega) (by decide) ?_
      dsimp only [pushR]
      refine x_aload_0 cLine_takeSome_73 ?_
      refine x_gR (b := A + 2) cLine_takeSome_74 fLine_19 hA.1 rfl hA.2.2.1 ?_
      refine x_iload_3 cLine_takeSome_77 ?_
      refine x_aload_1 cLine_takeSome_78 ?_
      refine x_gR (b := B + 2) cLine_takeSome_79 fLine_19 hB.1 rfl hB.2.2.1 ?_
      refine x_iload_4 cLine_takeSome_82 ?_
      refine x_t2 (ls0 := [some _, some _]) cLine_takeSome_84 kLine_34 okK_at ⟨(Nat.le_of_ble_eq_true rfl), (Nat.le_of_ble_eq_true rfl)⟩ (Nat.le_of_ble_eq_true rfl) rfl (Nat.le_of_ble_eq_true rfl) rfl rfl (Nat.zero_le _) (Nat.zero_le _) ?_
      refine s_at k hB.2.2.2.2.2.1 rfl (by omega) (by decide) ?_
      dsimp only [pushR]
      rw [u2_n (show B + 2 ≠ A + 1 by omega), hb2]
      refine x_t3 (ls0 := [some _, some _, some _]) cLine_takeSome_87 kLine_51 okK_put ⟨(Nat.le_of_ble_eq_true rfl), (Nat.le_of_ble_eq_true rfl)⟩ (Nat.le_of_ble_eq_true rfl) rfl (Nat.le_of_ble_eq_true rfl) rfl rfl (Nat.zero_le _) (Nat.zero_le _) ?_
      refine s_put (sel m k) hA.2.2.2.2.2.1 rfl (by omega) (by decide) ?_
      dsimp only [pushR]
      refine x_aload_0 cLine_takeSome_90 ?_
      refine x_gR (b := A + 3) cLine_takeSome_91 fLine_22 hA.1 rfl hA.2.2.2.1 ?_
      refine x_iload_3 cLine_takeSome_94 ?_
      refine x_aload_1 cLine_takeSome_95 ?_
      refine x_gR (b := B + 3) cLine_takeSome_96 fLine_22 hB.1 rfl hB.2.2.2.1 ?_
      refine x_iload_4 cLine_takeSome_99 ?_
      refine x_t2 (ls0 := [some _, some _]) cLine_takeSome_101 kLine_34 okK_at ⟨(Nat.le_of_ble_eq_true rfl), (Nat.le_of_ble_eq_true rfl)⟩ (Nat.le_of_ble_eq_true rfl) rfl (Nat.le_of_ble_eq_true rfl) rfl rfl (Nat.zero_le _) (Nat.zero_le _) ?_
      refine s_at k hB.2.2.2.2.2.2 rfl (by omega) (by decide) ?_
      dsimp only [pushR]
      rw [u2_n (show B + 3 ≠ A + 2 by omega), u2_n (show B + 3 ≠ A + 1 by omega), hb3]
      refine x_t3 (ls0 := [some _, some _, some _]) cLine_takeSome_104 kLine_51 okK_put ⟨(Nat.le_of_ble_eq_true rfl), (Nat.le_of_ble_eq_true rfl)⟩ (Nat.le_of_ble_eq_true rfl) rfl (Nat.le_of_ble_eq_true rfl) rfl rfl (Nat.zero_le _) (Nat.zero_le _) ?_
      refine s_put (sel m k) hA.2.2.2.2.2.2 rfl (by omega) (by decide) ?_
      dsimp only [pushR]
      refine x_iinc_3 (nI (sel m k + 1)) cLine_takeSome_107 rfl (nI_inc (sel m k)) (Nat.le_of_ble_eq_true rfl) ?_
      refine x_iinc_4 (nI (k + 1)) cLine_takeSome_110 rfl (nI_inc k) (Nat.le_of_ble_eq_true rfl) ?_
      refine x_goto cLine_takeSome_113 ?_
      have hbt : m.testBit k = true := (bitI m hm k (by omega)).mp q53
      have e : sel m (k + 1) = sel m k + 1 := by simp only [sel]; rw [if_pos hbt]
      rw [← e]
      refine ih (k + 1) (by omega) _ (fun a h1 h2 h3 h4 => by rw [u2_n h4, u2_n h3, u2_n h2]; exact hf a h1 h2 h3 h4) (fun j h1 h2 => by rw [u2_n (by omega), u2_n (by omega), u2_n (by omega)]; exact hj j h1 h2) (fun i hi hb => ?_)
      rw [u2_n (show A + 1 ≠ A + 3 by omega), u2_n (show A + 1 ≠ A + 2 by omega), u2_n (show A + 2 ≠ A + 3 by omega), u2_g, u2_g, u2_n (show A + 2 ≠ A + 1 by omega), u2_g, u2_n (show A + 3 ≠ A + 2 by omega), u2_n (show A + 3 ≠ A + 1 by omega)]
      by_cases h : i = k
      · subst h
        simp
      · have h1 := sel_mono m i k (by omega) hb
        rw [if_neg (fun z => absurd z.2 (by omega)), if_neg (fun z => absurd z.2 (by omega)), if_neg (fun z => absurd z.2 (by omega))]
        exact hs i (by omega) hb
theorem s_takeSome {Po : Option Value → HS → Prop} {I : IT} {J : JT} {P : PT} {A B m c : Nat} (hA : isLn A) (hB : isLn B) (hd : A + 3 < B ∨ B + 3 < A) (hm : m < 32) (hc : I B 0 = nI c) (hc5 : c ≤ 5) (hq : ∀ I', TkOut I I' A B m c → Po none (hp I' J P)) : xj yLine_takeSome (mG yLine_takeSome Po) 0 [some (.ref A), some (.ref B), some (.int (nI m)), none, none] [] (hp I J P) 0 0 := by
  refine x_aload_0 cLine_takeSome_0 ?_
  refine x_aload_1 cLine_takeSome_1 ?_
  refine x_gI cLine_takeSome_2 fLine_42 hB.1 rfl ?_
  refine x_pI cLine_takeSome_5 fLine_42 hA.1 rfl ?_
  refine x_aload_0 cLine_takeSome_8 ?_
  refine x_aload_1 cLine_takeSome_9 ?_
  refine x_gI cLine_takeSome_10 fLine_45 hB.1 rfl ?_
  refine x_pI cLine_takeSome_13 fLine_45 hA.1 rfl ?_
  refine x_aload_0 cLine_takeSome_16 ?_
  refine x_aload_1 cLine_takeSome_17 ?_
  refine x_gI cLine_takeSome_18 fLine_48 hB.1 rfl ?_
  refine x_pI cLine_takeSome_21 fLine_48 hA.1 rfl ?_
  refine x_aload_0 cLine_takeSome_24 ?_
  refine x_aload_1 cLine_takeSome_25 ?_
  refine x_gI cLine_takeSome_26 fLine_9 hB.1 rfl ?_
  refine x_pI cLine_takeSome_29 fLine_9 hA.1 rfl ?_
  refine x_iconst 0 (by decide) cLine_takeSome_32 ?_
  refine x_istore_3 cLine_takeSome_33 rfl (Nat.le_of_ble_eq_true rfl) ?_
  refine x_iconst 0 (by decide) cLine_takeSome_34 ?_
  refine x_istore_4 cLine_takeSome_35 rfl (Nat.le_of_ble_eq_true rfl) ?_
  have hBA : B ≠ A := by omega
  refine s_takeSome_loop (I := I) hA hB hd hm hc hc5 hq c 0 (by omega) _ (fun a h1 _ _ _ => by rw [u2_n h1, u2_n h1, u2_n h1, u2_n h1]) (fun j h1 h2 => ?_) (fun i hi => absurd hi (Nat.not_lt_zero i))
  rcases (show j = 1 ∨ j = 2 ∨ j = 3 ∨ j = 4 by omega) with rfl | rfl | rfl | rfl <;> simp [u2_g, hBA]
/-- what Line.take leaves: a line copied -/
def CpOut (I I' : IT) (A B c : Nat) : Prop := (∀ a, a ≠ A → a ≠ A + 1 → a ≠ A + 2 → a ≠ A + 3 → I' a = I a) ∧ I' A 0 = nI c ∧ (∀ j, 1 ≤ j → j ≤ 4 → I' A j = I B j) ∧ ∀ k, k < c → I' (A + 1) k = I (B + 1) k ∧ I' (A + 2) k = I (B + 2) k ∧ I' (A + 3) k = I (B + 3) k
theorem s_take {Po : Option Value → HS → Prop} {I : IT} {J : JT} {P : PT} {A B c : Nat} (hA : isLn A) (hB : isLn B) (hd : A + 3 < B ∨ B + 3 < A) (hc : I B 0 = nI c) (hc5 : c ≤ 5) (hq : ∀ I', CpOut I I' A B c → Po none (hp I' J P)) : xj yLine_take (mG yLine_take Po) 0 [some (.ref A), some (.ref B)] [] (hp I J P) 0 0 := by
  refine x_aload_0 cLine_take_0 ?_
  refine x_aload_1 cLine_take_1 ?_
  refine x_bipush 31 (by decide) cLine_take_2 ?_
  refine x_v2 (ls0 := [some _, some _, some _, none, none]) cLine_take_4 kLine_38 okLine_takeSome ⟨(Nat.le_of_ble_eq_true rfl), (Nat.le_of_ble_eq_true rfl)⟩ (Nat.le_of_ble_eq_true rfl) rfl (Nat.le_of_ble_eq_true rfl) hA.1 ⟨_, rfl, rfl⟩ rfl rfl (Nat.zero_le _) (Nat.zero_le _) ?_
  refine s_takeSome (m := 31) hA hB hd (by decide) hc hc5 (fun I' hT => ?_)
  obtain ⟨t1, t2, t3, t4⟩ := hT
  dsimp only [pushR]
  refine x_return cLine_take_7 rfl (Nat.zero_le _) (Nat.zero_le _) ?_
  refine hq I' ⟨t1, by rw [t2, sel_31 c hc5], t3, fun k hk => ?_⟩
  have := t4 k hk (bit31 k (by omega))
  rw [sel_31 k (by omega)] at this
  exact this
