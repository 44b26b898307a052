theorem s_append {Po : Option Value → HS → Prop} {I : IT} {J : JT} {P : PT} {n : Nat} {v : Int32} (hn : I 2 1 = nI n) (hn2 : n < 32) (hq : ∀ I', (∀ a, a ≠ 2 → a ≠ 3 → I' a = I a) → I' 2 1 = nI (n + 1) → I' 3 n = v → (∀ j, j ≠ n → I' 3 j = I 3 j) → Po (some (.int (nI (n + 1)))) (hp I' J P)) : xj yText_append (mG yText_append Po) 0 [some (.ref 2), some (.int v)] [] (hp I J P) 0 0 := by
  refine x_aload_0 cText_append_0 ?_
  refine x_gR (b := 3) cText_append_1 fText_9 rfl rfl rfl ?_
  refine x_aload_0 cText_append_4 ?_
  refine x_gI cText_append_5 fText_15 rfl rfl ?_
  refine x_iload_1 cText_append_8 ?_
  refine x_t3 (ls0 := [some _, some _, some _]) cText_append_9 kText_19 okK_put ⟨(Nat.le_of_ble_eq_true rfl), (Nat.le_of_ble_eq_true rfl)⟩ (Nat.le_of_ble_eq_true rfl) rfl (Nat.le_of_ble_eq_true rfl) rfl rfl (Nat.zero_le _) (Nat.zero_le _) ?_
  refine s_put n rfl hn (by omega) (by decide) ?_
  dsimp only [pushR]
  refine x_aload_0 cText_append_12 ?_
  refine x_dup rfl cText_append_13 ?_
  refine x_gI cText_append_14 fText_15 rfl rfl ?_
  refine x_iconst 1 (by decide) cText_append_17 ?_
  refine x_iadd cText_append_18 ?_
  refine x_pI cText_append_19 fText_15 rfl rfl ?_
  refine x_aload_0 cText_append_22 ?_
  refine x_gI cText_append_23 fText_15 rfl rfl ?_
  refine x_top (nI (n + 1)) (by rw [u2_ss, u2_n (by decide), hn, nI_1]) ?_
  refine x_ireturn cText_append_26 rfl rfl (Nat.zero_le _) (Nat.zero_le _) ?_
  refine hq _ (fun a h1 h2 => by rw [u2_n h1, u2_n h2]) (by rw [u2_ss, u2_n (by decide), hn, nI_1]) (by rw [u2_n (by decide), u2_ss]) (fun j hj => by rw [u2_n (by decide), u2_sn hj])
theorem s_figure {Po : Option Value → HS → Prop} {I : IT} {J : JT} {P : PT} {j : Nat} {i : Int32} (hi : i = nI j) (hj : j < 32) (hq : Po (some (.int (I 3 j - 48))) (hp I J P)) : xj yText_figure (mG yText_figure Po) 0 [some (.ref 2), some (.int i)] [] (hp I J P) 0 0 := by
  refine x_aload_0 cText_figure_0 ?_
  refine x_gR (b := 3) cText_figure_1 fText_9 rfl rfl rfl ?_
  refine x_iload_1 cText_figure_4 ?_
  refine x_t2 (ls0 := [some _, some _]) cText_figure_5 kText_23 okK_at ⟨(Nat.le_of_ble_eq_true rfl), (Nat.le_of_ble_eq_true rfl)⟩ (Nat.le_of_ble_eq_true rfl) rfl (Nat.le_of_ble_eq_true rfl) rfl rfl (Nat.zero_le _) (Nat.zero_le _) ?_
  refine s_at j rfl hi hj (by decide) ?_
  dsimp only [pushR]
  refine x_bipush 48 (by decide) cText_figure_8 ?_
  refine x_isub cText_figure_10 ?_
  refine x_ireturn cText_figure_11 rfl rfl (Nat.zero_le _) (Nat.zero_le _) ?_
  exact hq
/-- whether a byte can stand at its place of a STRING -/
def okR : Nat → Int32 → Prop
  | 0, v => v = 89
  | 1, v => 49 ≤ v ∧ v ≤ 57
  | 2, v => 48 ≤ v ∧ v ≤ 52
  | _, v => 48 ≤ v ∧ v ≤ 51
def okL (t : Nat → Int32) : Nat → Prop
  | 0 => t 0 = 75
  | 1 => 48 ≤ t 1 ∧ t 1 ≤ 52
  | 2 => 48 ≤ t 2 ∧ t 2 ≤ 52
  | 3 => 48 ≤ t 3 ∧ t 3 ≤ 53
  | 4 => 48 ≤ t 4 ∧ t 4 ≤ (if t 3 = 53 then 48 else 57)
  | 5 => 49 ≤ t 5 ∧ t 5 ≤ 57
  | p + 6 => p < 20 ∧ okR (p % 4) (t (p + 6))
theorem lts_of {a b : Int32} (h : ¬ b < a) : a ≤ b := Int32.not_lt.mp h
theorem nle_of {a b : Int32} (h : b < a) : ¬ a ≤ b := Int32.not_le.mpr h
theorem s_fitsPart {Po : Option Value → HS → Prop} {I : IT} {J : JT} {P : PT} {q : Nat} {v : Int32} (hq9 : q < 100) (h1 : (q < 20 ∧ okR (q % 4) v) → Po (some (.int 1)) (hp I J P)) (h0 : ¬ (q < 20 ∧ okR (q % 4) v) → Po (some (.int 0)) (hp I J P)) : xj yText_fitsPart (mG yText_fitsPart Po) 0 [some (.ref 2), some (.int (nI q)), some (.int v)] [] (hp I J P) 0 0 := by
  refine x_iload_1 cText_fitsPart_0 ?_
  refine x_bipush 20 (by decide) cText_fitsPart_1 ?_
  refine x_icmp_lt cText_fitsPart_3 (fun q3 => ?_) (fun q3 => ?_)
  · have hq20 : q < 20 := (nI_ltI (by omega) (by decide)).mp q3
    refine x_iload_1 cText_fitsPart_8 ?_
    refine x_iconst 4 (by decide) cText_fitsPart_9 ?_
    refine x_irem (by decide) cText_fitsPart_10 ?_
    refine x_top (nI (q % 4)) (pk_rem (d := 4) (by omega) (by decide) (by decide)) ?_
    rcases (show q % 4 = 0 ∨ q % 4 = 1 ∨ q % 4 = 2 ∨ q % 4 = 3 by omega) with e | e | e | e <;> rw [e] at h1 h0 ⊢
    · refine x_tblIn (nx := 0) (off := 25) (tg := 36) cText_fitsPart_11 (by decide) (by decide) (by decide) (by decide) ?_
      refine x_iload_2 cText_fitsPart_36 ?_
      refine x_bipush 89 (by decide) cText_fitsPart_37 ?_
      refine x_icmp_ne cText_fitsPart_39 (fun q39 => ?_) (fun q39 => ?_)
      · refine x_iconst 0 (by decide) cText_fitsPart_46 ?_
        refine x_ireturn cText_fitsPart_47 rfl rfl (Nat.zero_le _) (Nat.zero_le _) ?_
        exact h0 (fun z => q39 z.2)
      · refine x_iconst 1 (by decide) cText_fitsPart_42 ?_
        refine x_goto cText_fitsPart_43 ?_
        refine x_ireturn cText_fitsPart_47 rfl rfl (Nat.zero_le _) (Nat.zero_le _) ?_
        exact h1 ⟨hq20, q39⟩
    · refine x_tblIn (nx := 0) (off := 37) (tg := 48) cText_fitsPart_11 (by decide) (by decide) (by decide) (by decide) ?_
      refine x_iload_2 cText_fitsPart_48 ?_
      refine x_bipush 49 (by decide) cText_fitsPart_49 ?_
      refine x_icmp_lt cText_fitsPart_51 (fun q51 => ?_) (fun q51 => ?_)
      · refine x_iconst 0 (by decide) cText_fitsPart_64 ?_
        refine x_ireturn cText_fitsPart_65 rfl rfl (Nat.zero_le _) (Nat.zero_le _) ?_
        exact h0 (fun z => absurd z.2.1 (nle_of q51))
      · refine x_iload_2 cText_fitsPart_54 ?_
        refine x_bipush 57 (by decide) cText_fitsPart_55 ?_
        refine x_icmp_gt cText_fitsPart_57 (fun q57 => ?_) (fun q57 => ?_)
        · refine x_iconst 0 (by decide) cText_fitsPart_64 ?_
          refine x_ireturn cText_fitsPart_65 rfl rfl (Nat.zero_le _) (Nat.zero_le _) ?_
          exact h0 (fun z => absurd z.2.2 (nle_of q57))
        · refine x_iconst 1 (by decide) cText_fitsPart_60 ?_
          refine x_goto cText_fitsPart_61 ?_
          refine x_ireturn cText_fitsPart_65 rfl rfl (Nat.zero_le _) (Nat.zero_le _) ?_
          exact h1 ⟨hq20, lts_of q51, lts_of q57⟩
    · refine x_tblIn (nx := 0) (off := 55) (tg := 66) cText_fitsPart_11 (by decide) (by decide) (by decide) (by decide) ?_
      refine x_iload_2 cText_fitsPart_66 ?_
      refine x_bipush 48 (by decide) cText_fitsPart_67 ?_
      refine x_icmp_lt cText_fitsPart_69 (fun q69 => ?_) (fun q69 => ?_)
      · refine x_iconst 0 (by decide) cText_fitsPart_82 ?_
        refine x_ireturn cText_fitsPart_83 rfl rfl (Nat.zero_le _) (Nat.zero_le _) ?_
        exact h0 (fun z => absurd z.2.1 (nle_of q69))
      · refine x_iload_2 cText_fitsPart_72 ?_
        refine x_bipush 52 (by decide) cText_fitsPart_73 ?_
        refine x_icmp_gt cText_fitsPart_75 (fun q75 => ?_) (fun q75 => ?_)
        · refine x_iconst 0 (by decide) cText_fitsPart_82 ?_
          refine x_ireturn cText_fitsPart_83 rfl rfl (Nat.zero_le _) (Nat.zero_le _) ?_
          exact h0 (fun z => absurd z.2.2 (nle_of q75))
        · refine x_iconst 1 (by decide) cText_fitsPart_78 ?_
          refine x_goto cText_fitsPart_79 ?_
          refine x_ireturn cText_fitsPart_83 rfl rfl (Nat.zero_le _) (Nat.zero_le _) ?_
          exact h1 ⟨hq20, lts_of q69, lts_of q75⟩
    · refine x_tblOut (nx := 0) (tg := 84) cText_fitsPart_11 (by decide) (by decide) ?_
      refine x_iload_2 cText_fitsPart_84 ?_
      refine x_bipush 48 (by decide) cText_fitsPart_85 ?_
      refine x_icmp_lt cText_fitsPart_87 (fun q87 => ?_) (fun q87 => ?_)
      · refine x_iconst 0 (by decide) cText_fitsPart_100 ?_
        refine x_ireturn cText_fitsPart_101 rfl rfl (Nat.zero_le _) (Nat.zero_le _) ?_
        exact h0 (fun z => absurd z.2.1 (nle_of q87))
      · refine x_iload_2 cText_fitsPart_90 ?_
        refine x_bipush 51 (by decide) cText_fitsPart_91 ?_
        refine x_icmp_gt cText_fitsPart_93 (fun q93 => ?_) (fun q93 => ?_)
        · refine x_iconst 0 (by decide) cText_fitsPart_100 ?_
          refine x_ireturn cText_fitsPart_101 rfl rfl (Nat.zero_le _) (Nat.zero_le _) ?_
          exact h0 (fun z => absurd z.2.2 (nle_of q93))
        · refine x_iconst 1 (by decide) cText_fitsPart_96 ?_
          refine x_goto cText_fitsPart_97 ?_
          refine x_ireturn cText_fitsPart_101 rfl rfl (Nat.zero_le _) (Nat.zero_le _) ?_
          exact h1 ⟨hq20, lts_of q87, lts_of q93⟩
  · refine x_iconst 0 (by decide) cText_fitsPart_6 ?_
    refine x_ireturn cText_fitsPart_7 rfl rfl (Nat.zero_le _) (Nat.zero_le _) ?_
    exact h0 (fun z => q3 (nI_lt z.1 (by decide)))
theorem s_fits {Po : Option Value → HS → Prop} {I : IT} {J : JT} {P : PT} {p : Nat} (hp32 : p < 32) (h1 : okL (I 3) p → Po (some (.int 1)) (hp I J P)) (h0 : ¬ okL (I 3) p → Po (some (.int 0)) (hp I J P)) : xj yText_fits (mG yText_fits Po) 0 [some (.ref 2), some (.int (nI p)), some (.int (I 3 p))] [] (hp I J P) 0 0 := by
  refine x_iload_1 cText_fits_0 ?_
  rcases (show p = 0 ∨ p = 1 ∨ p = 2 ∨ p = 3 ∨ p = 4 ∨ p = 5 ∨ 6 ≤ p by omega) with rfl | rfl | rfl | rfl | rfl | rfl | hp6
  · refine x_tblIn (nx := 0) (off := 39) (tg := 40) cText_fits_1 (by decide) (by decide) (by decide) (by decide) ?_
    refine x_iload_2 cText_fits_40 ?_
    refine x_bipush 75 (by decide) cText_fits_41 ?_
    refine x_icmp_ne cText_fits_43 (fun q43 => ?_) (fun q43 => ?_)
    · refine x_iconst 0 (by decide) cText_fits_50 ?_
      refine x_ireturn cText_fits_51 rfl rfl (Nat.zero_le _) (Nat.zero_le _) ?_
      exact h0 q43
    · refine x_iconst 1 (by decide) cText_fits_46 ?_
      refine x_goto cText_fits_47 ?_
      refine x_ireturn cText_fits_51 rfl rfl (Nat.zero_le _) (Nat.zero_le _) ?_
      exact h1 q43
  · refine x_tblIn (nx := 0) (off := 51) (tg := 52) cText_fits_1 (by decide) (by decide) (by decide) (by decide) ?_
    refine x_iload_2 cText_fits_52 ?_
    refine x_bipush 48 (by decide) cText_fits_53 ?_
    refine x_icmp_lt cText_fits_55 (fun q55 => ?_) (fun q55 => ?_)
    · refine x_iconst 0 (by decide) cText_fits_68 ?_
      refine x_ireturn cText_fits_69 rfl rfl (Nat.zero_le _) (Nat.zero_le _) ?_
      exact h0 (fun z => absurd z.1 (nle_of q55))
    · refine x_iload_2 cText_fits_58 ?_
      refine x_bipush 52 (by decide) cText_fits_59 ?_
      refine x_icmp_gt cText_fits_61 (fun q61 => ?_) (fun q61 => ?_)
      · refine x_iconst 0 (by decide) cText_fits_68 ?_
        refine x_ireturn cText_fits_69 rfl rfl (Nat.zero_le _) (Nat.zero_le _) ?_
        exact h0 (fun z => absurd z.2 (nle_of q61))
      · refine x_iconst 1 (by decide) cText_fits_64 ?_
        refine x_goto cText_fits_65 ?_
        refine x_ireturn cText_fits_69 rfl rfl (Nat.zero_le _) (Nat.zero_le _) ?_
        exact h1 ⟨lts_of q55, lts_of q61⟩
  · refine x_tblIn (nx := 0) (off := 51) (tg := 52) cText_fits_1 (by decide) (by decide) (by decide) (by decide) ?_
    refine x_iload_2 cText_fits_52 ?_
    refine x_bipush 48 (by decide) cText_fits_53 ?_
    refine x_icmp_lt cText_fits_55 (fun q55 => ?_) (fun q55 => ?_)
    · refine x_iconst 0 (by decide) cText_fits_68 ?_
      refine x_ireturn cText_fits_69 rfl rfl (Nat.zero_le _) (Nat.zero_le _) ?_
      exact h0 (fun z => absurd z.1 (nle_of q55))
    · refine x_iload_2 cText_fits_58 ?_
      refine x_bipush 52 (by decide) cText_fits_59 ?_
      refine x_icmp_gt cText_fits_61 (fun q61 => ?_) (fun q61 => ?_)
      · refine x_iconst 0 (by decide) cText_fits_68 ?_
        refine x_ireturn cText_fits_69 rfl rfl (Nat.zero_le _) (Nat.zero_le _) ?_
        exact h0 (fun z => absurd z.2 (nle_of q61))
      · refine x_iconst 1 (by decide) cText_fits_64 ?_
        refine x_goto cText_fits_65 ?_
        refine x_ireturn cText_fits_69 rfl rfl (Nat.zero_le _) (Nat.zero_le _) ?_
        exact h1 ⟨lts_of q55, lts_of q61⟩
  · refine x_tblIn (nx := 0) (off := 69) (tg := 70) cText_fits_1 (by decide) (by decide) (by decide) (by decide) ?_
    refine x_iload_2 cText_fits_70 ?_
    refine x_bipush 48 (by decide) cText_fits_71 ?_
    refine x_icmp_lt cText_fits_73 (fun q73 => ?_) (fun q73 => ?_)
    · refine x_iconst 0 (by decide) cText_fits_86 ?_
      refine x_ireturn cText_fits_87 rfl rfl (Nat.zero_le _) (Nat.zero_le _) ?_
      exact h0 (fun z => absurd z.1 (nle_of q73))
    · refine x_iload_2 cText_fits_76 ?_
      refine x_bipush 53 (by decide) cText_fits_77 ?_
      refine x_icmp_gt cText_fits_79 (fun q79 => ?_) (fun q79 => ?_)
      · refine x_iconst 0 (by decide) cText_fits_86 ?_
        refine x_ireturn cText_fits_87 rfl rfl (Nat.zero_le _) (Nat.zero_le _) ?_
        exact h0 (fun z => absurd z.2 (nle_of q79))
      · refine x_iconst 1 (by decide) cText_fits_82 ?_
        refine x_goto cText_fits_83 ?_
        refine x_ireturn cText_fits_87 rfl rfl (Nat.zero_le _) (Nat.zero_le _) ?_
        exact h1 ⟨lts_of q73, lts_of q79⟩
  · refine x_tblIn (nx := 0) (off := 87) (tg := 88) cText_fits_1 (by decide) (by decide) (by decide) (by decide) ?_
    refine x_iload_2 cText_fits_88 ?_
    refine x_bipush 48 (by decide) cText_fits_89 ?_
    refine x_icmp_lt cText_fits_91 (fun q91 => ?_) (fun q91 => ?_)
    · refine x_iconst 0 (by decide) cText_fits_122 ?_
      refine x_ireturn cText_fits_123 rfl rfl (Nat.zero_le _) (Nat.zero_le _) ?_
      exact h0 (fun z => absurd z.1 (nle_of q91))
    · refine x_iload_2 cText_fits_94 ?_
      refine x_aload_0 cText_fits_95 ?_
      refine x_gR (b := 3) cText_fits_96 fText_9 rfl rfl rfl ?_
      refine x_iconst 3 (by decide) cText_fits_99 ?_
      refine x_t2 (ls0 := [some _, some _]) cText_fits_100 kText_23 okK_at ⟨(Nat.le_of_ble_eq_true rfl), (Nat.le_of_ble_eq_true rfl)⟩ (Nat.le_of_ble_eq_true rfl) rfl (Nat.le_of_ble_eq_true rfl) rfl rfl (Nat.zero_le _) (Nat.zero_le _) ?_
      refine s_at 3 rfl rfl (by decide) (by decide) ?_
      dsimp only [pushR]
      refine x_bipush 53 (by decide) cText_fits_103 ?_
      refine x_icmp_ne cText_fits_105 (fun q105 => ?_) (fun q105 => ?_)
      · refine x_bipush 57 (by decide) cText_fits_113 ?_
        refine x_icmp_gt cText_fits_115 (fun q115 => ?_) (fun q115 => ?_)
        · refine x_iconst 0 (by decide) cText_fits_122 ?_
          refine x_ireturn cText_fits_123 rfl rfl (Nat.zero_le _) (Nat.zero_le _) ?_
          exact h0 (fun z => by have z2 := z.2; rw [if_neg q105] at z2; exact absurd z2 (nle_of q115))
        · refine x_iconst 1 (by decide) cText_fits_118 ?_
          refine x_goto cText_fits_119 ?_
          refine x_ireturn cText_fits_123 rfl rfl (Nat.zero_le _) (Nat.zero_le _) ?_
          exact h1 ⟨lts_of q91, by rw [if_neg q105]; exact lts_of q115⟩
      · refine x_bipush 48 (by decide) cText_fits_108 ?_
        refine x_goto cText_fits_110 ?_
        refine x_icmp_gt cText_fits_115 (fun q115 => ?_) (fun q115 => ?_)
        · refine x_iconst 0 (by decide) cText_fits_122 ?_
          refine x_ireturn cText_fits_123 rfl rfl (Nat.zero_le _) (Nat.zero_le _) ?_
          exact h0 (fun z => by have z2 := z.2; rw [if_pos q105] at z2; exact absurd z2 (nle_of q115))
        · refine x_iconst 1 (by decide) cText_fits_118 ?_
          refine x_goto cText_fits_119 ?_
          refine x_ireturn cText_fits_123 rfl rfl (Nat.zero_le _) (Nat.zero_le _) ?_
          exact h1 ⟨lts_of q91, by rw [if_pos q105]; exact lts_of q115⟩
  · refine x_tblIn (nx := 0) (off := 123) (tg := 124) cText_fits_1 (by decide) (by decide) (by decide) (by decide) ?_
    refine x_iload_2 cText_fits_124 ?_
    refine x_bipush 49 (by decide) cText_fits_125 ?_
    refine x_icmp_lt cText_fits_127 (fun q127 => ?_) (fun q127 => ?_)
    · refine x_iconst 0 (by decide) cText_fits_140 ?_
      refine x_ireturn cText_fits_141 rfl rfl (Nat.zero_le _) (Nat.zero_le _) ?_
      exact h0 (fun z => absurd z.1 (nle_of q127))
    · refine x_iload_2 cText_fits_130 ?_
      refine x_bipush 57 (by decide) cText_fits_131 ?_
      refine x_icmp_gt cText_fits_133 (fun q133 => ?_) (fun q133 => ?_)
      · refine x_iconst 0 (by decide) cText_fits_140 ?_
        refine x_ireturn cText_fits_141 rfl rfl (Nat.zero_le _) (Nat.zero_le _) ?_
        exact h0 (fun z => absurd z.2 (nle_of q133))
      · refine x_iconst 1 (by decide) cText_fits_136 ?_
        refine x_goto cText_fits_137 ?_
        refine x_ireturn cText_fits_141 rfl rfl (Nat.zero_le _) (Nat.zero_le _) ?_
        exact h1 ⟨lts_of q127, lts_of q133⟩
  · obtain ⟨q, rfl⟩ : ∃ q, p = q + 6 := ⟨p - 6, by omega⟩
    refine x_tblOut (nx := 0) (tg := 142) cText_fits_1 (Or.inr (by rw [nI_toInt (by omega)]; omega)) (by decide) ?_
    refine x_aload_0 cText_fits_142 ?_
    refine x_iload_1 cText_fits_143 ?_
    refine x_bipush 6 (by decide) cText_fits_144 ?_
    refine x_isub cText_fits_146 ?_
    refine x_top (nI q) (pk_sub (a := q + 6) (b := 6) (by omega)) ?_
    refine x_iload_2 cText_fits_147 ?_
    refine x_v2 (ls0 := [some _, some _, some _]) cText_fits_148 kText_31 okText_fitsPart ⟨(Nat.le_of_ble_eq_true rfl), (Nat.le_of_ble_eq_true rfl)⟩ (Nat.le_of_ble_eq_true rfl) rfl (Nat.le_of_ble_eq_true rfl) rfl ⟨_, rfl, rfl⟩ rfl rfl (Nat.zero_le _) (Nat.zero_le _) ?_
    refine s_fitsPart (by omega) (fun z => ?_) (fun z => ?_)
    · dsimp only [pushR]
      refine x_ireturn cText_fits_151 rfl rfl (Nat.zero_le _) (Nat.zero_le _) ?_
      exact h1 z
    · dsimp only [pushR]
      refine x_ireturn cText_fits_151 rfl rfl (Nat.zero_le _) (Nat.zero_le _) ?_
      exact h0 z
/-- a text that is at its end -/
def ended (n : Nat) : Prop := 6 ≤ n ∧ (n - 6) % 4 = 0
theorem s_firstFault_loop {Po : Option Value → HS → Prop} {I : IT} {J : JT} {P : PT} {n : Nat} (hn : I 2 1 = nI n) (hn2 : n ≤ 32) (h1 : ∀ p, p < n → ¬ okL (I 3) p → (∀ j, j < p → okL (I 3) j) → Po (some (.int (nI p))) (hp I J P)) (h2 : (∀ j, j < n → okL (I 3) j) → ended n → Po (some (.int (-9))) (hp I J P)) (h3 : (∀ j, j < n → okL (I 3) j) → ¬ ended n → Po (some (.int (nI n))) (hp I J P)) : ∀ m k, k + m = n → (∀ j, j < k → okL (I 3) j) → xj yText_firstFault (mG yText_firstFault Po) 2 [some (.ref 2), some (.int (nI k))] [] (hp I J P) 0 0 := by
  intro m
  induction m with
  | zero =>
    intro k hk ha
    obtain rfl : k = n := by omega
    refine x_iload_1 cText_firstFault_2 ?_
    refine x_aload_0 cText_firstFault_3 ?_
    refine x_gI cText_firstFault_4 fText_15 rfl rfl ?_
    refine x_icmp_ge cText_firstFault_7 (fun q7 => ?_) (fun q7 => absurd q7 (fun z => z (by rw [hn]; exact Int32.le_refl _)))
    refine x_aload_0 cText_firstFault_34 ?_
    refine x_gI cText_firstFault_35 fText_15 rfl rfl ?_
    refine x_bipush 6 (by decide) cText_firstFault_38 ?_
    refine x_icmp_lt cText_firstFault_40 (fun q40 => ?_) (fun q40 => ?_)
    · have hne : ¬ ended k := fun z => by
        rw [hn] at q40
        exact absurd ((nI_ltI (by omega) (by decide)).mp q40) (Nat.not_lt.mpr z.1)
      refine x_iconst 0 (by decide) cText_firstFault_59 ?_
      refine x_istore_1 cText_firstFault_60 rfl (Nat.le_of_ble_eq_true rfl) ?_
      refine x_iload_1 cText_firstFault_61 ?_
      refine x_if_eq cText_firstFault_62 (fun _ => ?_) (fun q => absurd rfl q)
      refine x_aload_0 cText_firstFault_70 ?_
      refine x_gI cText_firstFault_71 fText_15 rfl rfl ?_
      try refine x_top (nI k) hn ?_
      refine x_ireturn cText_firstFault_74 rfl rfl (Nat.zero_le _) (Nat.zero_le _) ?_
      exact h3 ha hne
    · have h6 : 6 ≤ k := by
        rw [hn] at q40
        exact Nat.not_lt.mp (fun z => q40 (nI_lt z (by decide)))
      refine x_aload_0 cText_firstFault_43 ?_
      refine x_gI cText_firstFault_44 fText_15 rfl rfl ?_
      refine x_bipush 6 (by decide) cText_firstFault_47 ?_
      refine x_isub cText_firstFault_49 ?_
      refine x_iconst 4 (by decide) cText_firstFault_50 ?_
      refine x_irem (by decide) cText_firstFault_51 ?_
      refine x_top (nI ((k - 6) % 4)) (by rw [hn, show nI k - 6 = nI (k - 6) from pk_sub (b := 6) h6]; exact pk_rem (d := 4) (by omega) (by decide) (by decide)) ?_
      refine x_if_ne cText_firstFault_52 (fun q52 => ?_) (fun q52 => ?_)
      · have hne : ¬ ended k := fun z => q52 (by rw [z.2]; rfl)
        refine x_iconst 0 (by decide) cText_firstFault_59 ?_
        refine x_istore_1 cText_firstFault_60 rfl (Nat.le_of_ble_eq_true rfl) ?_
        refine x_iload_1 cText_firstFault_61 ?_
        refine x_if_eq cText_firstFault_62 (fun _ => ?_) (fun q => absurd rfl q)
        refine x_aload_0 cText_firstFault_70 ?_
        refine x_gI cText_firstFault_71 fText_15 rfl rfl ?_
        try refine x_top (nI k) hn ?_
        refine x_ireturn cText_firstFault_74 rfl rfl (Nat.zero_le _) (Nat.zero_le _) ?_
        exact h3 ha hne
      · have hen : ended k := ⟨h6, (nI_eq (by omega) (by decide)).mp q52⟩
        refine x_iconst 1 (by decide) cText_firstFault_55 ?_
        refine x_goto cText_firstFault_56 ?_
        refine x_istore_1 cText_firstFault_60 rfl (Nat.le_of_ble_eq_true rfl) ?_
        refine x_iload_1 cText_firstFault_61 ?_
        refine x_if_eq cText_firstFault_62 (fun q => absurd q (by decide)) (fun _ => ?_)
        refine x_bipush (-9) (by decide) cText_firstFault_65 ?_
        refine x_goto cText_firstFault_67 ?_
        try refine x_top (nI k) hn ?_
        refine x_ireturn cText_firstFault_74 rfl rfl (Nat.zero_le _) (Nat.zero_le _) ?_
        exact h2 ha hen
  | succ m ih =>
    intro k hk ha
    have hkn : k < n := by omega
    refine x_iload_1 cText_firstFault_2 ?_
    refine x_aload_0 cText_firstFault_3 ?_
    refine x_gI cText_firstFault_4 fText_15 rfl rfl ?_
    refine x_icmp_ge cText_firstFault_7 (fun q7 => absurd q7 (by rw [hn]; exact nI_ge hkn (by omega))) (fun q7 => ?_)
    refine x_aload_0 cText_firstFault_10 ?_
    refine x_iload_1 cText_firstFault_11 ?_
    refine x_aload_0 cText_firstFault_12 ?_
    refine x_gR (b := 3) cText_firstFault_13 fText_9 rfl rfl rfl ?_
    refine x_iload_1 cText_firstFault_16 ?_
    refine x_t2 (ls0 := [some _, some _]) cText_firstFault_17 kText_23 okK_at ⟨(Nat.le_of_ble_eq_true rfl), (Nat.le_of_ble_eq_true rfl)⟩ (Nat.le_of_ble_eq_true rfl) rfl (Nat.le_of_ble_eq_true rfl) rfl rfl (Nat.zero_le _) (Nat.zero_le _) ?_
    refine s_at k rfl rfl (by omega) (by decide) ?_
    dsimp only [pushR]
    refine x_v2 (ls0 := [some _, some _, some _]) cText_firstFault_20 kText_27 okText_fits ⟨(Nat.le_of_ble_eq_true rfl), (Nat.le_of_ble_eq_true rfl)⟩ (Nat.le_of_ble_eq_true rfl) rfl (Nat.le_of_ble_eq_true rfl) rfl ⟨_, rfl, rfl⟩ rfl rfl (Nat.zero_le _) (Nat.zero_le _) ?_
    refine s_fits (by omega) (fun z => ?_) (fun z => ?_)
    · dsimp only [pushR]
      refine x_if_ne cText_firstFault_23 (fun q23 => ?_) (fun q23 => absurd q23 (by decide))
      refine x_iinc_1 (nI (k + 1)) cText_firstFault_28 rfl (nI_inc k) (Nat.le_of_ble_eq_true rfl) ?_
      refine x_goto cText_firstFault_31 ?_
      exact ih (k + 1) (by omega) (fun j hj => by
        by_cases e : j < k
        · exact ha j e
        · obtain rfl : j = k := by omega
          exact z)
    · dsimp only [pushR]
      refine x_if_ne cText_firstFault_23 (fun q23 => absurd rfl q23) (fun q23 => ?_)
      refine x_iload_1 cText_firstFault_26 ?_
      refine x_ireturn cText_firstFault_27 rfl rfl (Nat.zero_le _) (Nat.zero_le _) ?_
      exact h1 k hkn z ha
theorem s_firstFault {Po : Option Value → HS → Prop} {I : IT} {J : JT} {P : PT} {n : Nat} (hn : I 2 1 = nI n) (hn2 : n ≤ 32) (h1 : ∀ p, p < n → ¬ okL (I 3) p → (∀ j, j < p → okL (I 3) j) → Po (some (.int (nI p))) (hp I J P)) (h2 : (∀ j, j < n → okL (I 3) j) → ended n → Po (some (.int (-9))) (hp I J P)) (h3 : (∀ j, j < n → okL (I 3) j) → ¬ ended n → Po (some (.int (nI n))) (hp I J P)) : xj yText_firstFault (mG yText_firstFault Po) 0 [some (.ref 2), none] [] (hp I J P) 0 0 := by
  refine x_iconst 0 (by decide) cText_firstFault_0 ?_
  refine x_istore_1 cText_firstFault_1 rfl (Nat.le_of_ble_eq_true rfl) ?_
  exact s_firstFault_loop hn hn2 h1 h2 h3 n 0 (by omega) (fun j hj => absurd hj (Nat.not_lt_zero j))
