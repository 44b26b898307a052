/-- a line of the model: the page a, the tails t -/
def mdD (I : IT) (a t : Nat) : LD := (fun k => I a (3 + k), fun k => I a (8 + k), I t, I a 1, I a 2, I 90 4, I 90 5)
/-- the leans of D are so near each other that no difference overflows -/
def Rg (D : LD) (c : Nat) : Prop := ∀ k, k < c → farI (fL D k) (fB D k) = absI (fL D k - fB D k)
/-- what the model's lay leaves -/
def LyOut (I I' : IT) (D : LD) (c : Nat) : Prop := (∀ a, a ≠ 90 → a ≠ 103 → a ≠ 104 → a ≠ 105 → I' a = I a) ∧ (∀ j, j ≠ 29 → I' 90 j = I 90 j) ∧ I' 90 29 = fF D c ∧ ∀ k, k < c → I' 103 k = fH D (k + 1) ∧ I' 105 k = fP D (k + 1)
theorem rise_e {d : Int32} (h : 0 ≤ d) : d = if 0 < d then d else 0 := by
  by_cases z : 0 < d
  · rw [if_pos z]
  · rw [if_neg z]; exact Int32.le_antisymm (Int32.not_lt.mp z) h
theorem s_lay_loop {Po : Option Value → HS → Prop} {I : IT} {J : JT} {P : PT} {a t c : Nat} (ha : a = 96 ∨ a = 97) (ht : t = 92 ∨ t = 106) (hc5 : c ≤ 5) (hc : I a 0 = nI c) (hG : Rg (mdD I a t) c) (hq : ∀ I', LyOut I I' (mdD I a t) c → Po none (hp I' J P)) : ∀ m k, k + m = c → ∀ I', (∀ a, a ≠ 90 → a ≠ 103 → a ≠ 104 → a ≠ 105 → I' a = I a) → (∀ j, j ≠ 29 → I' 90 j = I 90 j) → I' 90 29 = fF (mdD I a t) k → (∀ j, j < k → I' 103 j = fH (mdD I a t) (j + 1) ∧ I' 105 j = fP (mdD I a t) (j + 1)) → ∀ g7, xj yM_lay (mG yM_lay Po) 16 [some (.ref 90), some (.ref a), some (.ref t), some (.int (fH (mdD I a t) k)), some (.int (fB (mdD I a t) k)), some (.int (fP (mdD I a t) k)), some (.int (nI k)), g7] [] (hp I' J P) 0 0 := by
  intro m
  induction m with
  | zero =>
    intro k hk I' hf hg e3 ej g7
    obtain rfl : k = c := by omega
    have ea : I' a = I a := hf a (by omega) (by omega) (by omega) (by omega)
    have sa : shp a = (1, 13) := by rcases ha with rfl | rfl <;> rfl
    have st : shp t = (1, 5) := by rcases ht with rfl | rfl <;> rfl
    refine x_iload_6 cM_lay_16 ?_
    refine x_aload_1 cM_lay_18 ?_
    refine x_iconst 0 (by decide) cM_lay_19 ?_
    refine x_al (0) cM_lay_20 sa rfl (by decide) (by decide) ?_
    refine x_icmp_ge cM_lay_21 (fun q21 => ?_) (fun q21 => absurd q21 (fun z => z (by rw [ea, hc]; exact Int32.le_refl _)))
    refine x_return cM_lay_163 rfl (Nat.zero_le _) (Nat.zero_le _) ?_
    exact hq I' ⟨hf, hg, e3, ej⟩
  | succ m ih =>
    intro k hk I' hf hg e3 ej g7
    have hkc : k < c := by omega
    have ea : I' a = I a := hf a (by omega) (by omega) (by omega) (by omega)
    have et : I' t = I t := hf t (by omega) (by omega) (by omega) (by omega)
    have sa : shp a = (1, 13) := by rcases ha with rfl | rfl <;> rfl
    have st : shp t = (1, 5) := by rcases ht with rfl | rfl <;> rfl
    generalize hD : mdD I a t = D at *
    have hy : I' a (3 + k) = dY D k := by rw [ea, ← hD]; rfl
    have hb : I' a (8 + k) = dB D k := by rw [ea, ← hD]; rfl
    have htt : I' t = dT D := by rw [et, ← hD]; rfl
    have hlo : I' a 1 = dLo D := by rw [ea, ← hD]; rfl
    have hhi : I' a 2 = dHi D := by rw [ea, ← hD]; rfl
    have hbo : I' 90 4 = dBo D := by rw [hg 4 (by decide), ← hD]; rfl
    have hfo : I' 90 5 = dFo D := by rw [hg 5 (by decide), ← hD]; rfl
    have J144 : ∀ x, (x = if absI (fL D k - fB D k) ≤ dFo D then 0 else (1 : Int32) <<< (nI k &&& 31)) → xj yM_lay (mG yM_lay Po) 144 [some (.ref 90), some (.ref a), some (.ref t), some (.int (fH D (k + 1))), some (.int (fB D k)), some (.int (fP D (k + 1))), some (.int (nI k)), some (.int (dY D k - dT D k))] [.int x, .int (fF D k), .ref 90] (hp (u2 (u2 (u2 I' 103 k (fH D (k + 1))) 104 k (fL D k)) 105 k (fP D (k + 1))) J P) 0 0 := by
      intro x hx
      refine x_ior cM_lay_144 ?_
      refine x_pI cM_lay_145 fM_114 rfl rfl ?_
      refine x_aload_0 cM_lay_148 ?_
      refine x_gR (b := 104) cM_lay_149 fM_54 rfl rfl rfl ?_
      refine x_iload_6 cM_lay_152 ?_
      refine x_al (k) cM_lay_154 rfl rfl (by omega) (by decide) ?_
      rw [u2_n (show 104 ≠ 90 by decide), u2_n (show 104 ≠ 105 by decide), u2_ss]
      refine x_istore_4 cM_lay_155 rfl (Nat.le_of_ble_eq_true rfl) ?_
      refine x_iinc_6 (nI (k + 1)) cM_lay_157 rfl (nI_inc k) (Nat.le_of_ble_eq_true rfl) ?_
      refine x_goto cM_lay_160 ?_
      refine ih (k + 1) (by omega) _ (fun b h1 h2 h3 h4 => by rw [u2_n h1, u2_n h4, u2_n h3, u2_n h2]; exact hf b h1 h2 h3 h4) (fun j hj => by rw [u2_sn hj, u2_n (by decide), u2_n (by decide), u2_n (by decide)]; exact hg j hj) ?_ (fun j hj => ?_) _
      · rw [u2_ss, hx]
        show _ = if absI (fL D k - fB D k) ≤ dFo D then _ else _
        by_cases z : absI (fL D k - fB D k) ≤ dFo D
        · rw [if_pos z, if_pos z, Int32.or_zero]
        · rw [if_neg z, if_neg z]
      · rw [u2_n (show 103 ≠ 90 by decide), u2_n (show 103 ≠ 105 by decide), u2_n (show 103 ≠ 104 by decide), u2_n (show 105 ≠ 90 by decide), u2_g, u2_g, u2_n (show 105 ≠ 104 by decide), u2_n (show 105 ≠ 103 by decide)]
        by_cases hjk : j = k
        · subst hjk; exact ⟨by simp, by simp⟩
        · rw [if_neg (fun z => hjk z.2), if_neg (fun z => hjk z.2)]
          exact ej j (by omega)
    have J90 : ∀ v, v = fL D k → xj yM_lay (mG yM_lay Po) 90 [some (.ref 90), some (.ref a), some (.ref t), some (.int (fH D (k + 1))), some (.int (fB D k)), some (.int (fP D k)), some (.int (nI k)), some (.int (dY D k - dT D k))] [.int v, .int (nI k), .ref 104] (hp (u2 I' 103 k (fH D (k + 1))) J P) 0 0 := by
      intro v hv
      subst hv
      refine x_as (k) cM_lay_90 rfl rfl (by omega) (by decide) ?_
      refine x_iload_5 cM_lay_91 ?_
      refine x_aload_0 cM_lay_93 ?_
      refine x_gR (b := 104) cM_lay_94 fM_54 rfl rfl rfl ?_
      refine x_iload_6 cM_lay_97 ?_
      refine x_al (k) cM_lay_99 rfl rfl (by omega) (by decide) ?_
      rw [u2_ss]
      refine x_iadd cM_lay_100 ?_
      refine x_top (fP D (k + 1)) rfl ?_
      refine x_istore_5 cM_lay_101 rfl (Nat.le_of_ble_eq_true rfl) ?_
      refine x_aload_0 cM_lay_103 ?_
      refine x_gR (b := 105) cM_lay_104 fM_57 rfl rfl rfl ?_
      refine x_iload_6 cM_lay_107 ?_
      refine x_iload_5 cM_lay_109 ?_
      refine x_as (k) cM_lay_111 rfl rfl (by omega) (by decide) ?_
      refine x_aload_0 cM_lay_112 ?_
      refine x_dup rfl cM_lay_113 ?_
      refine x_gI cM_lay_114 fM_114 rfl rfl ?_
      refine x_top (fF D k) (by rw [u2_n (by decide), u2_n (by decide), u2_n (by decide)]; exact e3) ?_
      refine x_aload_0 cM_lay_117 ?_
      refine x_gR (b := 104) cM_lay_118 fM_54 rfl rfl rfl ?_
      refine x_iload_6 cM_lay_121 ?_
      refine x_al (k) cM_lay_123 rfl rfl (by omega) (by decide) ?_
      rw [u2_n (show 104 ≠ 105 by decide), u2_ss]
      refine x_iload_4 cM_lay_124 ?_
      refine x_s2 (ls0 := [some _, some _]) cM_lay_126 kM_117 okM_far ⟨(Nat.le_of_ble_eq_true rfl), (Nat.le_of_ble_eq_true rfl)⟩ (Nat.le_of_ble_eq_true rfl) rfl (Nat.le_of_ble_eq_true rfl) rfl rfl (Nat.zero_le _) (Nat.zero_le _) ?_
      refine s_far ?_
      dsimp only [pushR]
      refine x_aload_0 cM_lay_129 ?_
      refine x_gI cM_lay_130 fM_13 rfl rfl ?_
      refine x_icmp_le cM_lay_133 (fun q133 => ?_) (fun q133 => ?_)
      · refine x_iconst 0 (by decide) cM_lay_143 ?_
        refine J144 0 (by rw [u2_n (show 90 ≠ 105 by decide), u2_n (show 90 ≠ 104 by decide), u2_n (show 90 ≠ 103 by decide), hfo, hG k hkc] at q133; rw [if_pos q133])
      · refine x_iconst 1 (by decide) cM_lay_136 ?_
        refine x_iload_6 cM_lay_137 ?_
        refine x_ishl cM_lay_139 ?_
        refine x_goto cM_lay_140 ?_
        refine J144 ((1 : Int32) <<< (nI k &&& 31)) (by rw [u2_n (show 90 ≠ 105 by decide), u2_n (show 90 ≠ 104 by decide), u2_n (show 90 ≠ 103 by decide), hfo, hG k hkc] at q133; rw [if_neg q133])
    have J50 : ∀ v, v = fH D (k + 1) → xj yM_lay (mG yM_lay Po) 50 [some (.ref 90), some (.ref a), some (.ref t), some (.int (fH D k)), some (.int (fB D k)), some (.int (fP D k)), some (.int (nI k)), some (.int (dY D k - dT D k))] [.int v] (hp I' J P) 0 0 := by
      intro v hv
      subst hv
      refine x_istore_3 cM_lay_50 rfl (Nat.le_of_ble_eq_true rfl) ?_
      refine x_aload_0 cM_lay_51 ?_
      refine x_gR (b := 103) cM_lay_52 fM_51 rfl rfl rfl ?_
      refine x_iload_6 cM_lay_55 ?_
      refine x_iload_3 cM_lay_57 ?_
      refine x_as (k) cM_lay_58 rfl rfl (by omega) (by decide) ?_
      refine x_aload_0 cM_lay_59 ?_
      refine x_gR (b := 104) cM_lay_60 fM_54 rfl rfl rfl ?_
      refine x_iload_6 cM_lay_63 ?_
      refine x_iload_3 cM_lay_65 ?_
      refine x_aload_0 cM_lay_66 ?_
      refine x_gI cM_lay_67 fM_108 rfl rfl ?_
      refine x_icmp_ge cM_lay_70 (fun q70 => ?_) (fun q70 => ?_)
      · rw [u2_n (show 90 ≠ 103 by decide), hbo] at q70
        refine x_aload_1 cM_lay_79 ?_
        refine x_iconst 2 (by decide) cM_lay_80 ?_
        refine x_al (2) cM_lay_81 sa rfl (by decide) (by decide) ?_
        rw [u2_n (show a ≠ 103 by omega), hhi]
        refine x_aload_1 cM_lay_82 ?_
        refine x_bipush 8 (by decide) cM_lay_83 ?_
        refine x_iload_6 cM_lay_85 ?_
        refine x_iadd cM_lay_87 ?_
        refine x_al (8 + k) cM_lay_88 sa (nI_add 8 k) (by omega) (by decide) ?_
        rw [u2_n (show a ≠ 103 by omega), hb]
        refine x_iadd cM_lay_89 ?_
        exact J90 _ (by unfold fL; rw [if_neg (Int32.not_lt.mpr q70)])
      · rw [u2_n (show 90 ≠ 103 by decide), hbo] at q70
        refine x_aload_1 cM_lay_73 ?_
        refine x_iconst 1 (by decide) cM_lay_74 ?_
        refine x_al (1) cM_lay_75 sa rfl (by decide) (by decide) ?_
        rw [u2_n (show a ≠ 103 by omega), hlo]
        refine x_goto cM_lay_76 ?_
        refine x_aload_1 cM_lay_82 ?_
        refine x_bipush 8 (by decide) cM_lay_83 ?_
        refine x_iload_6 cM_lay_85 ?_
        refine x_iadd cM_lay_87 ?_
        refine x_al (8 + k) cM_lay_88 sa (nI_add 8 k) (by omega) (by decide) ?_
        rw [u2_n (show a ≠ 103 by omega), hb]
        refine x_iadd cM_lay_89 ?_
        exact J90 _ (by unfold fL; rw [if_pos (Int32.not_le.mp q70)])
    refine x_iload_6 cM_lay_16 ?_
    refine x_aload_1 cM_lay_18 ?_
    refine x_iconst 0 (by decide) cM_lay_19 ?_
    refine x_al (0) cM_lay_20 sa rfl (by decide) (by decide) ?_
    refine x_icmp_ge cM_lay_21 (fun q21 => absurd q21 (by rw [ea, hc]; exact nI_ge hkc (by omega))) (fun q21 => ?_)
    refine x_aload_1 cM_lay_24 ?_
    refine x_iconst 3 (by decide) cM_lay_25 ?_
    refine x_iload_6 cM_lay_26 ?_
    refine x_iadd cM_lay_28 ?_
    refine x_al (3 + k) cM_lay_29 sa (nI_add 3 k) (by omega) (by decide) ?_
    refine x_aload_2 cM_lay_30 ?_
    refine x_iload_6 cM_lay_31 ?_
    refine x_al (k) cM_lay_33 st rfl (by omega) (by decide) ?_
    refine x_isub cM_lay_34 ?_
    refine x_top (dY D k - dT D k) (by rw [hy, htt]) ?_
    refine x_istore_7 cM_lay_35 rfl (Nat.le_of_ble_eq_true rfl) ?_
    refine x_iload_3 cM_lay_37 ?_
    refine x_iload_7 cM_lay_38 ?_
    refine x_if_ge cM_lay_40 (fun q40 => ?_) (fun q40 => ?_)
    · refine x_iload_7 cM_lay_47 ?_
      refine x_iadd cM_lay_49 ?_
      refine J50 _ ?_
      show _ = fH D k + (if 0 < dY D k - dT D k then dY D k - dT D k else 0)
      rw [← rise_e q40]
    · refine x_iconst 0 (by decide) cM_lay_43 ?_
      refine x_goto cM_lay_44 ?_
      refine x_iadd cM_lay_49 ?_
      refine J50 _ ?_
      show _ = fH D k + (if 0 < dY D k - dT D k then dY D k - dT D k else 0)
      rw [if_neg (fun z => q40 (Int32.le_of_lt z))]
theorem s_lay {Po : Option Value → HS → Prop} {I : IT} {J : JT} {P : PT} {a t c : Nat} (ha : a = 96 ∨ a = 97) (ht : t = 92 ∨ t = 106) (hc5 : c ≤ 5) (hc : I a 0 = nI c) (hG : Rg (mdD I a t) c) (hq : ∀ I', LyOut I I' (mdD I a t) c → Po none (hp I' J P)) : xj yM_lay (mG yM_lay Po) 0 [some (.ref 90), some (.ref a), some (.ref t), none, none, none, none, none] [] (hp I J P) 0 0 := by
  have sa : shp a = (1, 13) := by rcases ha with rfl | rfl <;> rfl
  have st : shp t = (1, 5) := by rcases ht with rfl | rfl <;> rfl
  refine x_aload_0 cM_lay_0 ?_
  refine x_iconst 0 (by decide) cM_lay_1 ?_
  refine x_pI cM_lay_2 fM_114 rfl rfl ?_
  refine x_iconst 0 (by decide) cM_lay_5 ?_
  refine x_istore_3 cM_lay_6 rfl (Nat.le_of_ble_eq_true rfl) ?_
  refine x_iconst 0 (by decide) cM_lay_7 ?_
  refine x_istore_4 cM_lay_8 rfl (Nat.le_of_ble_eq_true rfl) ?_
  refine x_iconst 0 (by decide) cM_lay_10 ?_
  refine x_istore_5 cM_lay_11 rfl (Nat.le_of_ble_eq_true rfl) ?_
  refine x_iconst 0 (by decide) cM_lay_13 ?_
  refine x_istore_6 cM_lay_14 rfl (Nat.le_of_ble_eq_true rfl) ?_
  exact s_lay_loop (I := I) ha ht hc5 hc hG hq c 0 (by omega) _ (fun b h1 _ _ _ => u2_n h1) (fun j hj => u2_sn hj) (by rw [u2_ss]; rfl) (fun j hj => absurd hj (Nat.not_lt_zero j)) _
theorem s_layPage {Po : Option Value → HS → Prop} {I : IT} {J : JT} {P : PT} {c : Nat} (hc5 : c ≤ 5) (hc : I 96 0 = nI c) (hG : Rg (mdD I 96 92) c) (hq : ∀ I', LyOut I I' (mdD I 96 92) c → Po none (hp I' J P)) : xj yM_layPage (mG yM_layPage Po) 0 [some (.ref 90)] [] (hp I J P) 0 0 := by
  refine x_aload_0 cM_layPage_0 ?_
  refine x_aload_0 cM_layPage_1 ?_
  refine x_gR (b := 96) cM_layPage_2 fM_29 rfl rfl rfl ?_
  refine x_aload_0 cM_layPage_5 ?_
  refine x_gR (b := 92) cM_layPage_6 fM_17 rfl rfl rfl ?_
  refine x_v2 (ls0 := [some _, some _, some _, none, none, none, none, none]) cM_layPage_9 kM_120 okM_lay ⟨(Nat.le_of_ble_eq_true rfl), (Nat.le_of_ble_eq_true rfl)⟩ (Nat.le_of_ble_eq_true rfl) rfl (Nat.le_of_ble_eq_true rfl) rfl ⟨_, rfl, rfl⟩ rfl rfl (Nat.zero_le _) (Nat.zero_le _) ?_
  refine s_lay (Or.inl rfl) (Or.inl rfl) hc5 hc hG (fun I1 hL => ?_)
  dsimp only [pushR]
  refine x_return cM_layPage_12 rfl (Nat.zero_le _) (Nat.zero_le _) ?_
  exact hq _ hL
