/-- what Text.tell leaves -/
def TlOut (I I' : IT) (c : Nat) : Prop := (∀ a, a ≠ 4 → a ≠ 5 → a ≠ 6 → a ≠ 7 → I' a = I a) ∧ I' 4 0 = nI c ∧ I' 4 1 = I 3 1 - 48 - 2 ∧ I' 4 2 = I 3 2 - 48 - 2 ∧ I' 4 3 = 10 * (I 3 3 - 48) + (I 3 4 - 48) ∧ I' 4 4 = I 3 5 - 48 ∧ ∀ k, k < c → I' 5 k = I 3 (7 + 4 * k) - 48 ∧ I' 6 k = I 3 (8 + 4 * k) - 48 - 2 ∧ I' 7 k = I 3 (9 + 4 * k) - 48
theorem s_tell_loop {Po : Option Value → HS → Prop} {I : IT} {J : JT} {P : PT} {c : Nat} (hc5 : c ≤ 5) (hq : ∀ I', TlOut I I' c → Po none (hp I' J P)) : ∀ n k, k + n = c → ∀ I', (∀ a, a ≠ 4 → a ≠ 5 → a ≠ 6 → a ≠ 7 → I' a = I a) → I' 4 0 = nI c → I' 4 1 = I 3 1 - 48 - 2 → I' 4 2 = I 3 2 - 48 - 2 → I' 4 3 = 10 * (I 3 3 - 48) + (I 3 4 - 48) → I' 4 4 = I 3 5 - 48 → (∀ i, i < k → I' 5 i = I 3 (7 + 4 * i) - 48 ∧ I' 6 i = I 3 (8 + 4 * i) - 48 - 2 ∧ I' 7 i = I 3 (9 + 4 * i) - 48) → ∀ g, xj yText_tell (mG yText_tell Po) 68 [some (.ref 2), some (.ref 4), some (.int (nI k)), g] [] (hp I' J P) 0 0 := by
  intro n
  induction n with
  | zero =>
    intro k hk I' hf h0 h1 h2 h3 h4 ha g
    obtain rfl : k = c := by omega
    refine x_iload_2 cText_tell_68 ?_
    refine x_aload_1 cText_tell_69 ?_
    refine x_gI cText_tell_70 fText_58 rfl rfl ?_
    refine x_icmp_ge cText_tell_73 (fun q73 => ?_) (fun q73 => absurd q73 (fun z => z (by rw [h0]; exact Int32.le_refl _)))
    refine x_return cText_tell_136 rfl (Nat.zero_le _) (Nat.zero_le _) ?_
    exact hq I' ⟨hf, h0, h1, h2, h3, h4, ha⟩
  | succ n ih =>
    intro k hk I' hf h0 h1 h2 h3 h4 ha g
    have hkc : k < c := by omega
    have hI3 : I' 3 = I 3 := hf 3 (by decide) (by decide) (by decide) (by decide)
    refine x_iload_2 cText_tell_68 ?_
    refine x_aload_1 cText_tell_69 ?_
    refine x_gI cText_tell_70 fText_58 rfl rfl ?_
    refine x_icmp_ge cText_tell_73 (fun q73 => absurd q73 (by rw [h0]; exact nI_ge hkc (by omega))) (fun q73 => ?_)
    refine x_bipush 6 (by decide) cText_tell_76 ?_
    refine x_iconst 4 (by decide) cText_tell_78 ?_
    refine x_iload_2 cText_tell_79 ?_
    refine x_imul cText_tell_80 ?_
    refine x_iadd cText_tell_81 ?_
    refine x_top (nI (6 + 4 * k)) (by rw [show (4 : Int32) * nI k = nI (4 * k) from pk_mul 4 k]; exact nI_add 6 (4 * k)) ?_
    refine x_istore_3 cText_tell_82 rfl (Nat.le_of_ble_eq_true rfl) ?_
    refine x_aload_1 cText_tell_83 ?_
    refine x_gR (b := 5) cText_tell_84 fText_61 rfl rfl rfl ?_
    refine x_iload_2 cText_tell_87 ?_
    refine x_aload_0 cText_tell_88 ?_
    refine x_iload_3 cText_tell_89 ?_
    refine x_iconst 1 (by decide) cText_tell_90 ?_
    refine x_iadd cText_tell_91 ?_
    refine x_v1 (ls0 := [some _, some _]) cText_tell_92 kText_34 okText_figure ⟨(Nat.le_of_ble_eq_true rfl), (Nat.le_of_ble_eq_true rfl)⟩ (Nat.le_of_ble_eq_true rfl) rfl (Nat.le_of_ble_eq_true rfl) rfl ⟨_, rfl, rfl⟩ rfl rfl (Nat.zero_le _) (Nat.zero_le _) ?_
    refine s_figure (j := 7 + 4 * k) (by rw [show nI (6 + 4 * k) + 1 = nI (6 + 4 * k + 1) from nI_1 _]; congr 1; omega) (by omega) ?_
    dsimp only [pushR]
    rw [hI3]
    refine x_t3 (ls0 := [some _, some _, some _]) cText_tell_95 kText_19 okK_put ⟨(Nat.le_of_ble_eq_true rfl), (Nat.le_of_ble_eq_true rfl)⟩ (Nat.le_of_ble_eq_true rfl) rfl (Nat.le_of_ble_eq_true rfl) rfl rfl (Nat.zero_le _) (Nat.zero_le _) ?_
    refine s_put k rfl rfl (by omega) (by decide) ?_
    dsimp only [pushR]
    refine x_aload_1 cText_tell_98 ?_
    refine x_gR (b := 6) cText_tell_99 fText_64 rfl rfl rfl ?_
    refine x_iload_2 cText_tell_102 ?_
    refine x_aload_0 cText_tell_103 ?_
    refine x_iload_3 cText_tell_104 ?_
    refine x_iconst 2 (by decide) cText_tell_105 ?_
    refine x_iadd cText_tell_106 ?_
    refine x_v1 (ls0 := [some _, some _]) cText_tell_107 kText_34 okText_figure ⟨(Nat.le_of_ble_eq_true rfl), (Nat.le_of_ble_eq_true rfl)⟩ (Nat.le_of_ble_eq_true rfl) rfl (Nat.le_of_ble_eq_true rfl) rfl ⟨_, rfl, rfl⟩ rfl rfl (Nat.zero_le _) (Nat.zero_le _) ?_
    refine s_figure (j := 8 + 4 * k) (by rw [show nI (6 + 4 * k) + 2 = nI (6 + 4 * k + 2) from nI_add _ 2]; congr 1; omega) (by omega) ?_
    dsimp only [pushR]
    rw [u2_n (show 3 ≠ 5 by decide), hI3]
    refine x_iconst 2 (by decide) cText_tell_110 ?_
    refine x_isub cText_tell_111 ?_
    refine x_t3 (ls0 := [some _, some _, some _]) cText_tell_112 kText_19 okK_put ⟨(Nat.le_of_ble_eq_true rfl), (Nat.le_of_ble_eq_true rfl)⟩ (Nat.le_of_ble_eq_true rfl) rfl (Nat.le_of_ble_eq_true rfl) rfl rfl (Nat.zero_le _) (Nat.zero_le _) ?_
    refine s_put k rfl rfl (by omega) (by decide) ?_
    dsimp only [pushR]
    refine x_aload_1 cText_tell_115 ?_
    refine x_gR (b := 7) cText_tell_116 fText_67 rfl rfl rfl ?_
    refine x_iload_2 cText_tell_119 ?_
    refine x_aload_0 cText_tell_120 ?_
    refine x_iload_3 cText_tell_121 ?_
    refine x_iconst 3 (by decide) cText_tell_122 ?_
    refine x_iadd cText_tell_123 ?_
    refine x_v1 (ls0 := [some _, some _]) cText_tell_124 kText_34 okText_figure ⟨(Nat.le_of_ble_eq_true rfl), (Nat.le_of_ble_eq_true rfl)⟩ (Nat.le_of_ble_eq_true rfl) rfl (Nat.le_of_ble_eq_true rfl) rfl ⟨_, rfl, rfl⟩ rfl rfl (Nat.zero_le _) (Nat.zero_le _) ?_
    refine s_figure (j := 9 + 4 * k) (by rw [show nI (6 + 4 * k) + 3 = nI (6 + 4 * k + 3) from nI_add _ 3]; congr 1; omega) (by omega) ?_
    dsimp only [pushR]
    rw [u2_n (show 3 ≠ 6 by decide), u2_n (show 3 ≠ 5 by decide), hI3]
    refine x_t3 (ls0 := [some _, some _, some _]) cText_tell_127 kText_19 okK_put ⟨(Nat.le_of_ble_eq_true rfl), (Nat.le_of_ble_eq_true rfl)⟩ (Nat.le_of_ble_eq_true rfl) rfl (Nat.le_of_ble_eq_true rfl) rfl rfl (Nat.zero_le _) (Nat.zero_le _) ?_
    refine s_put k rfl rfl (by omega) (by decide) ?_
    dsimp only [pushR]
    refine x_iinc_2 (nI (k + 1)) cText_tell_130 rfl (nI_inc k) (Nat.le_of_ble_eq_true rfl) ?_
    refine x_goto cText_tell_133 ?_
    refine ih (k + 1) (by omega) _ (fun a e1 e2 e3 e4 => by rw [u2_n e4, u2_n e3, u2_n e2]; exact hf a e1 e2 e3 e4) (by rw [u2_n (by decide), u2_n (by decide), u2_n (by decide)]; exact h0) (by rw [u2_n (by decide), u2_n (by decide), u2_n (by decide)]; exact h1) (by rw [u2_n (by decide), u2_n (by decide), u2_n (by decide)]; exact h2) (by rw [u2_n (by decide), u2_n (by decide), u2_n (by decide)]; exact h3) (by rw [u2_n (by decide), u2_n (by decide), u2_n (by decide)]; exact h4) (fun i hi => ?_) _
    rw [u2_n (show 5 ≠ 7 by decide), u2_n (show 5 ≠ 6 by decide), u2_g, u2_n (show 6 ≠ 7 by decide), u2_g, u2_n (show 6 ≠ 5 by decide), u2_g, u2_n (show 7 ≠ 6 by decide), u2_n (show 7 ≠ 5 by decide)]
    by_cases e : i = k
    · subst e; simp
    · rw [if_neg (fun z => e z.2), if_neg (fun z => e z.2), if_neg (fun z => e z.2)]
      exact ha i (by omega)
theorem s_tell {Po : Option Value → HS → Prop} {I : IT} {J : JT} {P : PT} {n : Nat} (hn : I 2 1 = nI n) (h6 : 6 ≤ n) (hn2 : n ≤ 26) (hq : ∀ I', TlOut I I' ((n - 6) / 4) → Po none (hp I' J P)) : xj yText_tell (mG yText_tell Po) 0 [some (.ref 2), some (.ref 4), none, none] [] (hp I J P) 0 0 := by
  refine x_aload_1 cText_tell_0 ?_
  refine x_aload_0 cText_tell_1 ?_
  refine x_iconst 1 (by decide) cText_tell_2 ?_
  refine x_v1 (ls0 := [some _, some _]) cText_tell_3 kText_34 okText_figure ⟨(Nat.le_of_ble_eq_true rfl), (Nat.le_of_ble_eq_true rfl)⟩ (Nat.le_of_ble_eq_true rfl) rfl (Nat.le_of_ble_eq_true rfl) rfl ⟨_, rfl, rfl⟩ rfl rfl (Nat.zero_le _) (Nat.zero_le _) ?_
  refine s_figure (j := 1) rfl (by decide) ?_
  dsimp only [pushR]
  refine x_iconst 2 (by decide) cText_tell_6 ?_
  refine x_isub cText_tell_7 ?_
  refine x_pI cText_tell_8 fText_38 rfl rfl ?_
  refine x_aload_1 cText_tell_11 ?_
  refine x_aload_0 cText_tell_12 ?_
  refine x_iconst 2 (by decide) cText_tell_13 ?_
  refine x_v1 (ls0 := [some _, some _]) cText_tell_14 kText_34 okText_figure ⟨(Nat.le_of_ble_eq_true rfl), (Nat.le_of_ble_eq_true rfl)⟩ (Nat.le_of_ble_eq_true rfl) rfl (Nat.le_of_ble_eq_true rfl) rfl ⟨_, rfl, rfl⟩ rfl rfl (Nat.zero_le _) (Nat.zero_le _) ?_
  refine s_figure (j := 2) rfl (by decide) ?_
  dsimp only [pushR]
  rw [u2_n (show 3 ≠ 4 by decide)]
  refine x_iconst 2 (by decide) cText_tell_17 ?_
  refine x_isub cText_tell_18 ?_
  refine x_pI cText_tell_19 fText_43 rfl rfl ?_
  refine x_aload_1 cText_tell_22 ?_
  refine x_bipush 10 (by decide) cText_tell_23 ?_
  refine x_aload_0 cText_tell_25 ?_
  refine x_iconst 3 (by decide) cText_tell_26 ?_
  refine x_v1 (ls0 := [some _, some _]) cText_tell_27 kText_34 okText_figure ⟨(Nat.le_of_ble_eq_true rfl), (Nat.le_of_ble_eq_true rfl)⟩ (Nat.le_of_ble_eq_true rfl) rfl (Nat.le_of_ble_eq_true rfl) rfl ⟨_, rfl, rfl⟩ rfl rfl (Nat.zero_le _) (Nat.zero_le _) ?_
  refine s_figure (j := 3) rfl (by decide) ?_
  dsimp only [pushR]
  rw [u2_n (show 3 ≠ 4 by decide), u2_n (show 3 ≠ 4 by decide)]
  refine x_imul cText_tell_30 ?_
  refine x_aload_0 cText_tell_31 ?_
  refine x_iconst 4 (by decide) cText_tell_32 ?_
  refine x_v1 (ls0 := [some _, some _]) cText_tell_33 kText_34 okText_figure ⟨(Nat.le_of_ble_eq_true rfl), (Nat.le_of_ble_eq_true rfl)⟩ (Nat.le_of_ble_eq_true rfl) rfl (Nat.le_of_ble_eq_true rfl) rfl ⟨_, rfl, rfl⟩ rfl rfl (Nat.zero_le _) (Nat.zero_le _) ?_
  refine s_figure (j := 4) rfl (by decide) ?_
  dsimp only [pushR]
  rw [u2_n (show 3 ≠ 4 by decide), u2_n (show 3 ≠ 4 by decide)]
  refine x_iadd cText_tell_36 ?_
  refine x_pI cText_tell_37 fText_46 rfl rfl ?_
  refine x_aload_1 cText_tell_40 ?_
  refine x_aload_0 cText_tell_41 ?_
  refine x_iconst 5 (by decide) cText_tell_42 ?_
  refine x_v1 (ls0 := [some _, some _]) cText_tell_43 kText_34 okText_figure ⟨(Nat.le_of_ble_eq_true rfl), (Nat.le_of_ble_eq_true rfl)⟩ (Nat.le_of_ble_eq_true rfl) rfl (Nat.le_of_ble_eq_true rfl) rfl ⟨_, rfl, rfl⟩ rfl rfl (Nat.zero_le _) (Nat.zero_le _) ?_
  refine s_figure (j := 5) rfl (by decide) ?_
  dsimp only [pushR]
  rw [u2_n (show 3 ≠ 4 by decide), u2_n (show 3 ≠ 4 by decide), u2_n (show 3 ≠ 4 by decide)]
  refine x_pI cText_tell_46 fText_49 rfl rfl ?_
  refine x_aload_1 cText_tell_49 ?_
  refine x_iconst 5 (by decide) cText_tell_50 ?_
  refine x_aload_0 cText_tell_51 ?_
  refine x_gI cText_tell_52 fText_15 rfl rfl ?_
  refine x_bipush 6 (by decide) cText_tell_55 ?_
  refine x_isub cText_tell_57 ?_
  refine x_iconst 4 (by decide) cText_tell_58 ?_
  refine x_idiv (by decide) cText_tell_59 ?_
  refine x_top (nI ((n - 6) / 4)) (by rw [u2_n (show 2 ≠ 4 by decide), u2_n (show 2 ≠ 4 by decide), u2_n (show 2 ≠ 4 by decide), u2_n (show 2 ≠ 4 by decide), hn, show nI n - 6 = nI (n - 6) from pk_sub (b := 6) h6]; exact pk_div (d := 4) (by omega) (by decide) (by decide)) ?_
  refine x_s2 (ls0 := [some _, some _]) cText_tell_60 kText_52 okMath_min ⟨(Nat.le_of_ble_eq_true rfl), (Nat.le_of_ble_eq_true rfl)⟩ (Nat.le_of_ble_eq_true rfl) rfl (Nat.le_of_ble_eq_true rfl) rfl rfl (Nat.zero_le _) (Nat.zero_le _) ?_
  refine s_min ?_
  dsimp only [pushR]
  refine x_top (nI ((n - 6) / 4)) (by
    by_cases e : (n - 6) / 4 < 5
    · rw [if_pos (show nI ((n - 6) / 4) < (5 : Int32) from nI_lt (b := 5) e (by decide))]
    · rw [if_neg (fun (z : nI ((n - 6) / 4) < (5 : Int32)) => e ((nI_ltI (b := 5) (by omega) (by decide)).mp z)), show (n - 6) / 4 = 5 by omega]; rfl) ?_
  refine x_pI cText_tell_63 fText_58 rfl rfl ?_
  refine x_iconst 0 (by decide) cText_tell_66 ?_
  refine x_istore_2 cText_tell_67 rfl (Nat.le_of_ble_eq_true rfl) ?_
  refine s_tell_loop (I := I) (c := (n - 6) / 4) (by omega) hq ((n - 6) / 4) 0 (by omega) _ (fun a e1 _ _ _ => by rw [u2_n e1, u2_n e1, u2_n e1, u2_n e1, u2_n e1]) ?_ ?_ ?_ ?_ ?_ (fun i hi => absurd hi (Nat.not_lt_zero i)) _ <;> simp [u2_g]
/-- the rows of the past: each a line of its own -/
def RowsOk (P : PT) : Prop := (∀ j, j < 14 → ∃ i, i < 14 ∧ P 9 j = 10 + 4 * i) ∧ ∀ i j, i < 14 → j < 14 → P 9 i = P 9 j → i = j
theorem RowsOk.ln {P : PT} (h : RowsOk P) {j : Nat} (hj : j < 14) : isLn (P 9 j) ∧ 10 ≤ P 9 j ∧ P 9 j ≤ 62 := by
  obtain ⟨i, hi, e⟩ := h.1 j hj
  rw [e]
  exact ⟨ln_row i hi, by omega, by omega⟩
theorem RowsOk.apart {P : PT} (h : RowsOk P) {i j : Nat} (hi : i < 14) (hj : j < 14) (hij : i ≠ j) : P 9 i + 3 < P 9 j ∨ P 9 j + 3 < P 9 i := by
  obtain ⟨a, ha, e⟩ := h.1 i hi
  obtain ⟨b, hb, e2⟩ := h.1 j hj
  have : P 9 i ≠ P 9 j := fun z => hij (h.2 i j hi hj z)
  omega
/-- the first row's line goes to the end -/
def rotP (P : PT) : PT := fun a => if a = 9 then (fun j => if j < 13 then P 9 (j + 1) else if j = 13 then P 9 0 else P 9 j) else P a
theorem RowsOk.rot {P : PT} (h : RowsOk P) : RowsOk (rotP P) := by
  have e : ∀ j, j < 14 → rotP P 9 j = P 9 (if j < 13 then j + 1 else 0) := fun j hj => by
    show (if j < 13 then P 9 (j + 1) else if j = 13 then P 9 0 else P 9 j) = _
    by_cases q : j < 13
    · rw [if_pos q, if_pos q]
    · rw [if_neg q, if_neg q, if_pos (by omega)]
  refine ⟨fun j hj => ?_, fun i j hi hj z => ?_⟩
  · rw [e j hj]
    exact h.1 _ (by split <;> omega)
  · rw [e i hi, e j hj] at z
    have := h.2 _ _ (by split <;> omega) (by split <;> omega) z
    split at this <;> split at this <;> omega
theorem uP_g (P : PT) (a j v b i : Nat) : uP P a j v b i = if b = a ∧ i = j then v else P b i := by
  by_cases h : b = a
  · subst h
    by_cases h2 : i = j <;> simp [uP, h2]
  · simp [uP, h]
theorem s_forget {Po : Option Value → HS → Prop} {I : IT} {J : JT} {P : PT} (hq : Po none (hp (u2 I 8 1 0) J P)) : xj yPast_forget (mG yPast_forget Po) 0 [some (.ref 8)] [] (hp I J P) 0 0 := by
  refine x_aload_0 cPast_forget_0 ?_
  refine x_iconst 0 (by decide) cPast_forget_1 ?_
  refine x_pI cPast_forget_2 fPast_19 rfl rfl ?_
  refine x_return cPast_forget_5 rfl (Nat.zero_le _) (Nat.zero_le _) ?_
  exact hq
theorem s_forgetFirst_loop {Po : Option Value → HS → Prop} {I : IT} {J : JT} {P : PT} (hR : RowsOk P) (hq : Po none (hp (u2 I 8 1 13) J (rotP P))) : ∀ n k, k + n = 14 → 1 ≤ k → ∀ P', (∀ a, a ≠ 9 → P' a = P a) → (∀ j, j + 1 < k → P' 9 j = P 9 (j + 1)) → (∀ j, k ≤ j + 1 → P' 9 j = P 9 j) → xj yPast_forgetFirst (mG yPast_forgetFirst Po) 18 [some (.ref 8), some (.ref (P 9 0)), some (.int (nI k))] [] (hp I J P') 0 0 := by
  intro n
  induction n with
  | zero =>
    intro k hk h1 P' hf ha hb
    obtain rfl : k = 14 := by omega
    have hL := hR.ln (j := 0) (by decide)
    refine x_iload_2 cPast_forgetFirst_18 ?_
    refine x_aload_0 cPast_forgetFirst_19 ?_
    refine x_gR (b := 9) cPast_forgetFirst_20 fPast_13 rfl rfl rfl ?_
    refine x_l3 (14) cPast_forgetFirst_23 rfl rfl ?_
    refine x_icmp_ge cPast_forgetFirst_24 (fun q24 => ?_) (fun q24 => absurd q24 (fun z => z (by decide)))
    refine x_aload_0 cPast_forgetFirst_47 ?_
    refine x_gR (b := 9) cPast_forgetFirst_48 fPast_13 rfl rfl rfl ?_
    refine x_aload_0 cPast_forgetFirst_51 ?_
    refine x_gR (b := 9) cPast_forgetFirst_52 fPast_13 rfl rfl rfl ?_
    refine x_l3 (14) cPast_forgetFirst_55 rfl rfl ?_
    refine x_iconst 1 (by decide) cPast_forgetFirst_56 ?_
    refine x_isub cPast_forgetFirst_57 ?_
    refine x_aload_1 cPast_forgetFirst_58 ?_
    refine x_rs (13) cPast_forgetFirst_59 rfl rfl (by decide) (by decide) hL.1.1 ?_
    refine x_aload_0 cPast_forgetFirst_60 ?_
    refine x_aload_0 cPast_forgetFirst_61 ?_
    refine x_gR (b := 9) cPast_forgetFirst_62 fPast_13 rfl rfl rfl ?_
    refine x_l3 (14) cPast_forgetFirst_65 rfl rfl ?_
    refine x_iconst 1 (by decide) cPast_forgetFirst_66 ?_
    refine x_isub cPast_forgetFirst_67 ?_
    refine x_pI cPast_forgetFirst_68 fPast_19 rfl rfl ?_
    refine x_return cPast_forgetFirst_71 rfl (Nat.zero_le _) (Nat.zero_le _) ?_
    have e : uP P' 9 13 (P 9 0) = rotP P := by
      funext a j
      rw [uP_g]
      by_cases h9 : a = 9
      · subst h9
        show _ = (if j < 13 then P 9 (j + 1) else if j = 13 then P 9 0 else P 9 j)
        by_cases q : j < 13
        · rw [if_neg (fun z => absurd z.2 (by omega)), if_pos q, ha j (by omega)]
        · by_cases q2 : j = 13
          · rw [if_pos ⟨rfl, q2⟩, if_neg q, if_pos q2]
          · rw [if_neg (fun z => q2 z.2), if_neg q, if_neg q2, hb j (by omega)]
      · rw [if_neg (fun z => h9 z.1), hf a h9]
        show _ = (if a = 9 then _ else P a) j
        rw [if_neg h9]
    rw [e]
    exact hq
  | succ n ih =>
    intro k hk h1 P' hf ha hb
    have hL := hR.ln (j := k) (by omega)
    have ek : P' 9 k = P 9 k := hb k (by omega)
    refine x_iload_2 cPast_forgetFirst_18 ?_
    refine x_aload_0 cPast_forgetFirst_19 ?_
    refine x_gR (b := 9) cPast_forgetFirst_20 fPast_13 rfl rfl rfl ?_
    refine x_l3 (14) cPast_forgetFirst_23 rfl rfl ?_
    refine x_icmp_ge cPast_forgetFirst_24 (fun q24 => absurd q24 (nI_ge (show k < 14 by omega) (by decide))) (fun q24 => ?_)
    refine x_aload_0 cPast_forgetFirst_27 ?_
    refine x_gR (b := 9) cPast_forgetFirst_28 fPast_13 rfl rfl rfl ?_
    refine x_iload_2 cPast_forgetFirst_31 ?_
    refine x_iconst 1 (by decide) cPast_forgetFirst_32 ?_
    refine x_isub cPast_forgetFirst_33 ?_
    refine x_aload_0 cPast_forgetFirst_34 ?_
    refine x_gR (b := 9) cPast_forgetFirst_35 fPast_13 rfl rfl rfl ?_
    refine x_iload_2 cPast_forgetFirst_38 ?_
    refine x_rl (k) cPast_forgetFirst_39 rfl rfl (by omega) (by decide) ek (by omega) ?_
    refine x_rs (k - 1) cPast_forgetFirst_40 rfl (pk_sub (b := 1) h1) (by omega) (by decide) hL.1.1 ?_
    refine x_iinc_2 (nI (k + 1)) cPast_forgetFirst_41 rfl (nI_inc k) (Nat.le_of_ble_eq_true rfl) ?_
    refine x_goto cPast_forgetFirst_44 ?_
    refine ih (k + 1) (by omega) (by omega) _ (fun a h9 => ?_) (fun j hj => ?_) (fun j hj => ?_)
    · funext j
      rw [uP_g, if_neg (fun z => h9 z.1), hf a h9]
    · rw [uP_g]
      by_cases e : j = k - 1
      · subst e
        rw [if_pos ⟨rfl, rfl⟩, show k - 1 + 1 = k by omega]
      · rw [if_neg (fun z => e z.2)]
        exact ha j (by omega)
    · rw [uP_g, if_neg (fun z => absurd z.2 (by omega))]
      exact hb j (by omega)
theorem s_forgetFirst {Po : Option Value → HS → Prop} {I : IT} {J : JT} {P : PT} (hR : RowsOk P) (hq : Po none (hp (u2 I 8 1 13) J (rotP P))) : xj yPast_forgetFirst (mG yPast_forgetFirst Po) 0 [some (.ref 8), none, none] [] (hp I J P) 0 0 := by
  have hL := hR.ln (j := 0) (by decide)
  refine x_aload_0 cPast_forgetFirst_0 ?_
  refine x_gR (b := 9) cPast_forgetFirst_1 fPast_13 rfl rfl rfl ?_
  refine x_l3 (14) cPast_forgetFirst_4 rfl rfl ?_
  refine x_if_ne cPast_forgetFirst_5 (fun q5 => ?_) (fun q5 => absurd q5 (by decide))
  refine x_aload_0 cPast_forgetFirst_9 ?_
  refine x_gR (b := 9) cPast_forgetFirst_10 fPast_13 rfl rfl rfl ?_
  refine x_iconst 0 (by decide) cPast_forgetFirst_13 ?_
  refine x_rl (0) cPast_forgetFirst_14 rfl rfl (by decide) (by decide) rfl (by omega) ?_
  refine x_astore_1 cPast_forgetFirst_15 rfl (Nat.le_of_ble_eq_true rfl) ?_
  refine x_iconst 1 (by decide) cPast_forgetFirst_16 ?_
  refine x_istore_2 cPast_forgetFirst_17 rfl (Nat.le_of_ble_eq_true rfl) ?_
  exact s_forgetFirst_loop hR hq 13 1 (by omega) (by omega) P (fun _ _ => rfl) (fun j hj => absurd hj (by omega)) (fun _ _ => rfl)
/-- what Past.remember leaves: behind n acts the line of the cell 4 in the row n -/
def RmOut (I I' : IT) (P' : PT) (c n : Nat) : Prop := (∀ a, a ≠ 8 → a ≠ P' 9 n → a ≠ P' 9 n + 1 → a ≠ P' 9 n + 2 → a ≠ P' 9 n + 3 → I' a = I a) ∧ I' 8 1 = nI (n + 1) ∧ I' (P' 9 n) 0 = nI c ∧ (∀ j, 1 ≤ j → j ≤ 4 → I' (P' 9 n) j = I 4 j) ∧ ∀ k, k < c → I' (P' 9 n + 1) k = I 5 k ∧ I' (P' 9 n + 2) k = I 6 k ∧ I' (P' 9 n + 3) k = I 7 k
theorem s_remember16 {Po : Option Value → HS → Prop} {I : IT} {J : JT} {P : PT} {c n : Nat} (hR : RowsOk P) (hn : I 8 1 = nI n) (hn14 : n < 14) (hc : I 4 0 = nI c) (hc5 : c ≤ 5) (hq : ∀ I', RmOut I I' P c n → Po none (hp I' J P)) : xj yPast_remember (mG yPast_remember Po) 16 [some (.ref 8), some (.ref 4)] [] (hp I J P) 0 0 := by
  have hL := hR.ln hn14
  refine x_aload_0 cPast_remember_16 ?_
  refine x_gI cPast_remember_17 fPast_19 rfl rfl ?_
  refine x_if_lt cPast_remember_20 (fun q20 => absurd q20 (by rw [hn]; exact nI_pos (by omega))) (fun q20 => ?_)
  refine x_aload_0 cPast_remember_23 ?_
  refine x_gI cPast_remember_24 fPast_19 rfl rfl ?_
  refine x_aload_0 cPast_remember_27 ?_
  refine x_gR (b := 9) cPast_remember_28 fPast_13 rfl rfl rfl ?_
  refine x_l3 (14) cPast_remember_31 rfl rfl ?_
  refine x_icmp_ge cPast_remember_32 (fun q32 => absurd q32 (by rw [hn]; exact nI_ge hn14 (by decide))) (fun q32 => ?_)
  refine x_aload_0 cPast_remember_35 ?_
  refine x_gR (b := 9) cPast_remember_36 fPast_13 rfl rfl rfl ?_
  refine x_aload_0 cPast_remember_39 ?_
  refine x_gI cPast_remember_40 fPast_19 rfl rfl ?_
  refine x_rl (n) cPast_remember_43 rfl hn hn14 (by decide) rfl (by omega) ?_
  refine x_ifnull cPast_remember_44 ?_
  refine x_aload_0 cPast_remember_47 ?_
  refine x_gR (b := 9) cPast_remember_48 fPast_13 rfl rfl rfl ?_
  refine x_aload_0 cPast_remember_51 ?_
  refine x_gI cPast_remember_52 fPast_19 rfl rfl ?_
  refine x_rl (n) cPast_remember_55 rfl hn hn14 (by decide) rfl (by omega) ?_
  refine x_aload_1 cPast_remember_56 ?_
  refine x_v1 (ls0 := [some _, some _]) cPast_remember_57 kPast_26 okLine_take ⟨(Nat.le_of_ble_eq_true rfl), (Nat.le_of_ble_eq_true rfl)⟩ (Nat.le_of_ble_eq_true rfl) rfl (Nat.le_of_ble_eq_true rfl) hL.1.1 ⟨_, rfl, rfl⟩ rfl rfl (Nat.zero_le _) (Nat.zero_le _) ?_
  refine s_take (A := P 9 n) (B := 4) hL.1 ln_4 (by omega) hc hc5 (fun I1 hT => ?_)
  obtain ⟨t1, t2, t3, t4⟩ := hT
  dsimp only [pushR]
  refine x_aload_0 cPast_remember_60 ?_
  refine x_dup rfl cPast_remember_61 ?_
  refine x_gI cPast_remember_62 fPast_19 rfl rfl ?_
  refine x_iconst 1 (by decide) cPast_remember_65 ?_
  refine x_iadd cPast_remember_66 ?_
  refine x_top (nI (n + 1)) (by rw [t1 8 (by omega) (by omega) (by omega) (by omega), hn, nI_1]) ?_
  refine x_pI cPast_remember_67 fPast_19 rfl rfl ?_
  refine x_return cPast_remember_70 rfl (Nat.zero_le _) (Nat.zero_le _) ?_
  refine hq _ ⟨fun a e0 e1 e2 e3 e4 => by rw [u2_n e0]; exact t1 a e1 e2 e3 e4, by rw [u2_ss], by rw [u2_n (by omega)]; exact t2, fun j h1 h2 => by rw [u2_n (by omega)]; exact t3 j h1 h2, fun k hk => ?_⟩
  rw [u2_n (by omega), u2_n (by omega), u2_n (by omega)]
  exact t4 k hk
theorem s_remember {Po : Option Value → HS → Prop} {I : IT} {J : JT} {P : PT} {c n : Nat} (hR : RowsOk P) (hn : I 8 1 = nI n) (hn14 : n ≤ 14) (hc : I 4 0 = nI c) (hc5 : c ≤ 5) (h1 : n < 14 → ∀ I', RmOut I I' P c n → Po none (hp I' J P)) (h2 : n = 14 → ∀ I', RmOut I I' (rotP P) c 13 → Po none (hp I' J (rotP P))) : xj yPast_remember (mG yPast_remember Po) 0 [some (.ref 8), some (.ref 4)] [] (hp I J P) 0 0 := by
  refine x_aload_0 cPast_remember_0 ?_
  refine x_gI cPast_remember_1 fPast_19 rfl rfl ?_
  refine x_aload_0 cPast_remember_4 ?_
  refine x_gR (b := 9) cPast_remember_5 fPast_13 rfl rfl rfl ?_
  refine x_l3 (14) cPast_remember_8 rfl rfl ?_
  refine x_icmp_lt cPast_remember_9 (fun q9 => ?_) (fun q9 => ?_)
  · have h14 : n < 14 := by
      rw [hn] at q9
      exact (nI_ltI (by omega) (by decide)).mp q9
    exact s_remember16 hR hn h14 hc hc5 (h1 h14)
  · have h14 : n = 14 := by
      rw [hn] at q9
      rcases Nat.lt_or_ge n 14 with z | z
      · exact absurd (nI_lt z (by decide)) q9
      · omega
    refine x_aload_0 cPast_remember_12 ?_
    refine x_v0 (ls0 := [some _, none, none]) cPast_remember_13 kPast_23 okPast_forgetFirst ⟨(Nat.le_of_ble_eq_true rfl), (Nat.le_of_ble_eq_true rfl)⟩ (Nat.le_of_ble_eq_true rfl) rfl (Nat.le_of_ble_eq_true rfl) rfl ⟨_, rfl, rfl⟩ rfl rfl (Nat.zero_le _) (Nat.zero_le _) ?_
    refine s_forgetFirst hR ?_
    dsimp only [pushR]
    exact s_remember16 (I := u2 I 8 1 13) (n := 13) hR.rot (by rw [u2_ss]; rfl) (by decide) (by rw [u2_n (by decide)]; exact hc) hc5 (fun I' hO => h2 h14 I' (by
      obtain ⟨a1, a2, a3, a4, a5⟩ := hO
      refine ⟨fun a e0 e1 e2 e3 e4 => by rw [a1 a e0 e1 e2 e3 e4, u2_n e0], a2, a3, fun j q1 q2 => by rw [a4 j q1 q2, u2_n (by decide)], fun k hk => ?_⟩
      have := a5 k hk
      rw [u2_n (by decide), u2_n (by decide), u2_n (by decide)] at this
      exact this))
theorem s_giveBack {Po : Option Value → HS → Prop} {I : IT} {J : JT} {P : PT} {c n : Nat} (hR : RowsOk P) (hn : I 8 1 = nI (n + 1)) (hn14 : n < 14) (hc : I (P 9 n) 0 = nI c) (hc5 : c ≤ 5) (hq : ∀ I', CpOut (u2 I 8 1 (nI n)) I' 4 (P 9 n) c → Po none (hp I' J P)) : xj yPast_giveBack (mG yPast_giveBack Po) 0 [some (.ref 8), some (.ref 4), none] [] (hp I J P) 0 0 := by
  have hL := hR.ln hn14
  refine x_aload_0 cPast_giveBack_0 ?_
  refine x_gI cPast_giveBack_1 fPast_19 rfl rfl ?_
  refine x_iconst 1 (by decide) cPast_giveBack_4 ?_
  refine x_isub cPast_giveBack_5 ?_
  refine x_top (nI n) (by rw [hn]; exact nI_pred n) ?_
  refine x_istore_2 cPast_giveBack_6 rfl (Nat.le_of_ble_eq_true rfl) ?_
  refine x_iload_2 cPast_giveBack_7 ?_
  refine x_if_lt cPast_giveBack_8 (fun q8 => absurd q8 (nI_pos (by omega))) (fun q8 => ?_)
  refine x_iload_2 cPast_giveBack_11 ?_
  refine x_aload_0 cPast_giveBack_12 ?_
  refine x_gR (b := 9) cPast_giveBack_13 fPast_13 rfl rfl rfl ?_
  refine x_l3 (14) cPast_giveBack_16 rfl rfl ?_
  refine x_icmp_ge cPast_giveBack_17 (fun q17 => absurd q17 (nI_ge hn14 (by decide))) (fun q17 => ?_)
  refine x_aload_0 cPast_giveBack_20 ?_
  refine x_gR (b := 9) cPast_giveBack_21 fPast_13 rfl rfl rfl ?_
  refine x_iload_2 cPast_giveBack_24 ?_
  refine x_rl (n) cPast_giveBack_25 rfl rfl hn14 (by decide) rfl (by omega) ?_
  refine x_ifnull cPast_giveBack_26 ?_
  refine x_aload_1 cPast_giveBack_29 ?_
  refine x_aload_0 cPast_giveBack_30 ?_
  refine x_gR (b := 9) cPast_giveBack_31 fPast_13 rfl rfl rfl ?_
  refine x_iload_2 cPast_giveBack_34 ?_
  refine x_rl (n) cPast_giveBack_35 rfl rfl hn14 (by decide) rfl (by omega) ?_
  refine x_v1 (ls0 := [some _, some _]) cPast_giveBack_36 kPast_26 okLine_take ⟨(Nat.le_of_ble_eq_true rfl), (Nat.le_of_ble_eq_true rfl)⟩ (Nat.le_of_ble_eq_true rfl) rfl (Nat.le_of_ble_eq_true rfl) rfl ⟨_, rfl, rfl⟩ rfl rfl (Nat.zero_le _) (Nat.zero_le _) ?_
  refine s_take (A := 4) (B := P 9 n) ln_4 hL.1 (by omega) hc hc5 (fun I1 hT => ?_)
  obtain ⟨t1, t2, t3, t4⟩ := hT
  dsimp only [pushR]
  refine x_aload_0 cPast_giveBack_39 ?_
  refine x_iload_2 cPast_giveBack_40 ?_
  refine x_pI cPast_giveBack_41 fPast_19 rfl rfl ?_
  refine x_return cPast_giveBack_44 rfl (Nat.zero_le _) (Nat.zero_le _) ?_
  refine hq _ ⟨fun a e1 e2 e3 e4 => ?_, by rw [u2_n (by decide)]; exact t2, fun j h1 h2 => by rw [u2_n (by decide), u2_n (by omega)]; exact t3 j h1 h2, fun k hk => ?_⟩
  · by_cases e : a = 8
    · subst e; rw [u2_s, u2_s, t1 8 (by decide) (by decide) (by decide) (by decide)]
    · rw [u2_n e, u2_n e]; exact t1 a e1 e2 e3 e4
  · rw [u2_n (by decide), u2_n (by omega), u2_n (by decide), u2_n (by omega), u2_n (by decide), u2_n (by omega)]
    exact t4 k hk
