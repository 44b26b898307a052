/-- the model's three cells of the winds beside what the class counts -/
def WM (n f l many first low : Int32) (t : Nat) : Prop := many = n ∧ first = f ∧ ∃ K L, K ≤ t ∧ L < 32 ∧ n = nI K ∧ l = nI L ∧ ((K = 0 ∧ L = 0 ∧ low = -9) ∨ (0 < K ∧ ∃ a, a < 5 ∧ L = 2 ^ a ∧ low = nI a ∧ f / 10 = nI a) ∨ (0 < K ∧ 2 ≤ popc L ∧ low = -9))
theorem pop_1 : ∀ a, a < 5 → popc (2 ^ a) = 1 := by decide +kernel
theorem pop_2 : ∀ a, a < 5 → ∀ b, b < 5 → ¬ b = a → popc (2 ^ a ||| 2 ^ b) = 2 := by decide +kernel
theorem pop_or : ∀ L, L < 32 → ∀ b, b < 5 → 2 ≤ popc L → 2 ≤ popc (L ||| 2 ^ b) := by decide +kernel
theorem pow_lt5 : ∀ a, a < 5 → 2 ^ a < 32 := by decide +kernel
theorem t5_div : ∀ t, t < 25 → nI (10 * (t / 5) + t % 5) / 10 = nI (t / 5) := by decide +kernel
theorem pop_lt : ∀ L, L < 32 → popc L < 6 := by decide +kernel
theorem WM.up {n f l m1 m2 m3 : Int32} {t : Nat} (h : WM n f l m1 m2 m3 t) : WM n f l m1 m2 m3 (t + 1) := by
  obtain ⟨h1, h2, K, L, h3, h4⟩ := h
  exact ⟨h1, h2, K, L, by omega, h4⟩
theorem WM.low {n f l m1 m2 m3 : Int32} {t : Nat} (h : WM n f l m1 m2 m3 t) : (bcE l = 1 → m3 = f / 10) ∧ (¬ bcE l = 1 → m3 = -9) := by
  obtain ⟨-, -, K, L, -, hL, -, h4, h5⟩ := h
  rw [h4, bcE_n L hL]
  rcases h5 with ⟨-, e, h6⟩ | ⟨-, a, ha, e, h6, h7⟩ | ⟨-, h6, h7⟩
  · subst e
    exact ⟨fun z => absurd z (by decide), fun _ => h6⟩
  · subst e
    rw [pop_1 a ha]
    exact ⟨fun _ => by rw [h6, h7], fun z => absurd rfl z⟩
  · have hp : popc L < 6 := pop_lt L hL
    refine ⟨fun z => ?_, fun _ => h7⟩
    have := (nI_eq (b := 1) (by omega) (by decide)).mp z
    omega
theorem s_winds_agree {I : IT} {J : JT} {P : PT} {G : GT} {c sn t : Nat} {kp : Nat → Nat} (hc : I 96 0 = nI c) (hc5 : c ≤ 5) (hsn : I 90 21 = nI sn) (hs6 : sn ≤ 6) (hkp : ∀ r, r < sn → I 101 r = nI (kp r) ∧ kp r < 5) (K : ∀ v r, ((v = 1 ∧ (∀ r, r < sn → kp r < c → I 105 (kp r) = I 102 r)) ∨ (v = 0 ∧ ¬ (∀ r, r < sn → kp r < c → I 105 (kp r) = I 102 r))) → xj yM_findWinds G 126 [some (.ref 90), some (.int (nI t)), some (.int v), some (.int r)] [] (hp I J P) 0 0) : ∀ n k, k + n = sn → ∀ v, ((v = 1 ∧ (∀ r, r < k → kp r < c → I 105 (kp r) = I 102 r)) ∨ (v = 0 ∧ ¬ (∀ r, r < sn → kp r < c → I 105 (kp r) = I 102 r))) → xj yM_findWinds G 67 [some (.ref 90), some (.int (nI t)), some (.int v), some (.int (nI k))] [] (hp I J P) 0 0 := by
  intro n
  induction n with
  | zero =>
    intro k hk v hv
    obtain rfl : k = sn := by omega
    refine x_iload_3 cM_findWinds_67 ?_
    refine x_aload_0 cM_findWinds_68 ?_
    refine x_gI cM_findWinds_69 fM_131 rfl rfl ?_
    refine x_icmp_ge cM_findWinds_72 (fun q72 => ?_) (fun q72 => absurd q72 (fun z => z (by rw [hsn]; exact Int32.le_refl _)))
    exact K v _ hv
  | succ n ih =>
    intro k hk v hv
    have hks : k < sn := by omega
    obtain ⟨k1, k2⟩ := hkp k hks
    refine x_iload_3 cM_findWinds_67 ?_
    refine x_aload_0 cM_findWinds_68 ?_
    refine x_gI cM_findWinds_69 fM_131 rfl rfl ?_
    refine x_icmp_ge cM_findWinds_72 (fun q72 => absurd q72 (by rw [hsn]; exact nI_ge hks (by omega))) (fun q72 => ?_)
    refine x_iload_2 cM_findWinds_75 ?_
    refine x_if_eq cM_findWinds_76 (fun q76 => ?_) (fun q76 => ?_)
    · exact K v _ (hv.elim (fun z => absurd (z.1.symm.trans (by simpa using q76)) (by decide)) Or.inr)
    · have hv1 := hv.resolve_right (fun z => q76 z.1)
      refine x_aload_0 cM_findWinds_79 ?_
      refine x_gR (b := 101) cM_findWinds_80 fM_45 rfl rfl rfl ?_
      refine x_iload_3 cM_findWinds_83 ?_
      refine x_al (k) cM_findWinds_84 rfl rfl (by omega) (by decide) ?_
      refine x_aload_0 cM_findWinds_85 ?_
      refine x_gR (b := 96) cM_findWinds_86 fM_29 rfl rfl rfl ?_
      refine x_iconst 0 (by decide) cM_findWinds_89 ?_
      refine x_al (0) cM_findWinds_90 rfl rfl (by decide) (by decide) ?_
      refine x_icmp_ge cM_findWinds_91 (fun q91 => ?_) (fun q91 => ?_)
      · have hge : ¬ kp k < c := fun z => by
          rw [hc, k1] at q91
          exact absurd q91 (nI_ge z (by omega))
        refine x_iconst 1 (by decide) cM_findWinds_114 ?_
        refine x_goto cM_findWinds_115 ?_
        refine x_istore_2 cM_findWinds_119 rfl (Nat.le_of_ble_eq_true rfl) ?_
        refine x_iinc_3 (nI (k + 1)) cM_findWinds_120 rfl (nI_inc k) (Nat.le_of_ble_eq_true rfl) ?_
        refine x_goto cM_findWinds_123 ?_
        exact ih (k + 1) (by omega) 1 (Or.inl ⟨rfl, fun r hr hrc => by
          rcases Nat.lt_or_ge r k with z | z
          · exact hv1.2 r z hrc
          · obtain rfl : r = k := by omega
            exact absurd hrc hge⟩)
      · have hlt : kp k < c := by
          rw [hc, k1] at q91
          rcases Nat.lt_or_ge (kp k) c with z | z
          · exact z
          · exact absurd (nI_le z (by omega)) q91
        refine x_aload_0 cM_findWinds_94 ?_
        refine x_gR (b := 105) cM_findWinds_95 fM_57 rfl rfl rfl ?_
        refine x_aload_0 cM_findWinds_98 ?_
        refine x_gR (b := 101) cM_findWinds_99 fM_45 rfl rfl rfl ?_
        refine x_iload_3 cM_findWinds_102 ?_
        refine x_al (k) cM_findWinds_103 rfl rfl (by omega) (by decide) ?_
        refine x_al (kp k) cM_findWinds_104 rfl k1 k2 (by decide) ?_
        refine x_aload_0 cM_findWinds_105 ?_
        refine x_gR (b := 102) cM_findWinds_106 fM_48 rfl rfl rfl ?_
        refine x_iload_3 cM_findWinds_109 ?_
        refine x_al (k) cM_findWinds_110 rfl rfl (by omega) (by decide) ?_
        refine x_icmp_ne cM_findWinds_111 (fun q111 => ?_) (fun q111 => ?_)
        · refine x_iconst 0 (by decide) cM_findWinds_118 ?_
          refine x_istore_2 cM_findWinds_119 rfl (Nat.le_of_ble_eq_true rfl) ?_
          refine x_iinc_3 (nI (k + 1)) cM_findWinds_120 rfl (nI_inc k) (Nat.le_of_ble_eq_true rfl) ?_
          refine x_goto cM_findWinds_123 ?_
          exact ih (k + 1) (by omega) 0 (Or.inr ⟨rfl, fun z => q111 (z k hks hlt)⟩)
        · refine x_iconst 1 (by decide) cM_findWinds_114 ?_
          refine x_goto cM_findWinds_115 ?_
          refine x_istore_2 cM_findWinds_119 rfl (Nat.le_of_ble_eq_true rfl) ?_
          refine x_iinc_3 (nI (k + 1)) cM_findWinds_120 rfl (nI_inc k) (Nat.le_of_ble_eq_true rfl) ?_
          refine x_goto cM_findWinds_123 ?_
          exact ih (k + 1) (by omega) 1 (Or.inl ⟨rfl, fun r hr hrc => by
            rcases Nat.lt_or_ge r k with z | z
            · exact hv1.2 r z hrc
            · obtain rfl : r = k := by omega
              exact q111⟩)
theorem s_findWinds_loop {Po : Option Value → HS → Prop} {I : IT} {J : JT} {P : PT} {c sn : Nat} {kp : Nat → Nat} (hc : I 96 0 = nI c) (hc5 : c ≤ 5) (hsn : I 90 21 = nI sn) (hs6 : sn ≤ 6) (hkp : ∀ r, r < sn → I 101 r = nI (kp r) ∧ kp r < 5) (hG : ∀ t, t < 25 → Rg (wD (mdD I 96 92) (lw (t / 5)) (lw (t % 5))) c) (hq : ∀ I' n f l, SameM I I' → Wn (okW (mdD I 96 92) kp (I 102) c sn) 25 n f l → WM n f l (I' 90 32) (I' 90 33) (I' 90 34) 25 → Po none (hp I' J P)) : ∀ m t, t + m = 25 → ∀ I0, SameM I I0 → (∃ n f l, Wn (okW (mdD I 96 92) kp (I 102) c sn) t n f l ∧ WM n f l (I0 90 32) (I0 90 33) (I0 90 34) t) → ∀ g2 g3, isC2 g2 = false → xj yM_findWinds (mG yM_findWinds Po) 19 [some (.ref 90), some (.int (nI t)), g2, g3] [] (hp I0 J P) 0 0 := by
  intro m
  induction m with
  | zero =>
    intro t ht I0 hS ⟨n, f, l, h1, h2⟩ g2 g3 _
    obtain rfl : t = 25 := by omega
    refine x_iload_1 cM_findWinds_19 ?_
    refine x_bipush 25 (by decide) cM_findWinds_20 ?_
    refine x_icmp_ge cM_findWinds_22 (fun q22 => ?_) (fun q22 => absurd q22 (fun z => z (by decide)))
    refine x_return cM_findWinds_203 rfl (Nat.zero_le _) (Nat.zero_le _) ?_
    exact hq I0 n f l hS h1 h2
  | succ m ih =>
    intro t ht I0 hS ⟨n0, f0, l0, hWn, hWM⟩ g2 g3 hg2
    have ht25 : t < 25 := by omega
    have ht5 : t / 5 < 5 := by omega
    have c1 : I0 96 0 = nI c := by rw [hS.1 96 (by omega)]; exact hc
    have eD : mdD I0 96 92 = mdD I 96 92 := hS.md
    refine x_iload_1 cM_findWinds_19 ?_
    refine x_bipush 25 (by decide) cM_findWinds_20 ?_
    refine x_icmp_ge cM_findWinds_22 (fun q22 => absurd q22 (nI_ge ht25 (by decide))) (fun q22 => ?_)
    refine x_aload_0 cM_findWinds_25 ?_
    refine x_v0 (ls0 := [some _, none]) cM_findWinds_26 kM_168 okM_begin ⟨(Nat.le_of_ble_eq_true rfl), (Nat.le_of_ble_eq_true rfl)⟩ (Nat.le_of_ble_eq_true rfl) rfl (Nat.le_of_ble_eq_true rfl) rfl ⟨_, rfl, rfl⟩ rfl rfl (Nat.zero_le _) (Nat.zero_le _) ?_
    refine s_begin (fun I1 b1 b2 => ?_)
    dsimp only [pushR]
    refine x_aload_0 cM_findWinds_29 ?_
    refine x_gR (b := 97) cM_findWinds_30 fM_32 rfl rfl rfl ?_
    refine x_iconst 1 (by decide) cM_findWinds_33 ?_
    refine x_iload_1 cM_findWinds_34 ?_
    refine x_iconst 5 (by decide) cM_findWinds_35 ?_
    refine x_idiv (by decide) cM_findWinds_36 ?_
    refine x_top (nI (t / 5)) (pk_div (d := 5) (by omega) (by decide) (by decide)) ?_
    refine x_iconst 2 (by decide) cM_findWinds_37 ?_
    refine x_isub cM_findWinds_38 ?_
    refine x_as (1) cM_findWinds_39 rfl rfl (by decide) (by decide) ?_
    refine x_aload_0 cM_findWinds_40 ?_
    refine x_gR (b := 97) cM_findWinds_41 fM_32 rfl rfl rfl ?_
    refine x_iconst 2 (by decide) cM_findWinds_44 ?_
    refine x_iload_1 cM_findWinds_45 ?_
    refine x_iconst 5 (by decide) cM_findWinds_46 ?_
    refine x_irem (by decide) cM_findWinds_47 ?_
    refine x_top (nI (t % 5)) (pk_rem (d := 5) (by omega) (by decide) (by decide)) ?_
    refine x_iconst 2 (by decide) cM_findWinds_48 ?_
    refine x_isub cM_findWinds_49 ?_
    refine x_as (2) cM_findWinds_50 rfl rfl (by decide) (by decide) ?_
    refine x_aload_0 cM_findWinds_51 ?_
    refine x_aload_0 cM_findWinds_52 ?_
    refine x_gR (b := 97) cM_findWinds_53 fM_32 rfl rfl rfl ?_
    refine x_aload_0 cM_findWinds_56 ?_
    refine x_gR (b := 92) cM_findWinds_57 fM_17 rfl rfl rfl ?_
    refine x_v2 (ls0 := [some _, some _, some _, none, none, none, none, none]) cM_findWinds_60 kM_120 okM_lay ⟨(Nat.le_of_ble_eq_true rfl), (Nat.le_of_ble_eq_true rfl)⟩ (Nat.le_of_ble_eq_true rfl) rfl (Nat.le_of_ble_eq_true rfl) rfl ⟨_, rfl, rfl⟩ rfl rfl (Nat.zero_le _) (Nat.zero_le _) ?_
    have hLE := trl_leq (c := c) b1 b2 (E := wD (mdD I0 96 92) (lw (t / 5)) (lw (t % 5))) rfl hc5
    refine s_lay (Or.inr rfl) (Or.inl rfl) hc5 (trl_0 b2 c1) (Rg.leq hLE (by rw [eD]; exact hG t ht25)) (fun I3 hL => ?_)
    have hS3 := trl_same b1 hL
    obtain ⟨-, -, -, l4⟩ := hLE.fl c (Nat.le_refl c)
    dsimp only [pushR]
    refine x_iconst 1 (by decide) cM_findWinds_63 ?_
    refine x_istore_2 cM_findWinds_64 rfl (Nat.le_of_ble_eq_true rfl) ?_
    refine x_iconst 0 (by decide) cM_findWinds_65 ?_
    refine x_istore_3 cM_findWinds_66 rfl (Nat.le_of_ble_eq_true rfl) ?_
    have hS4 : SameM I I3 := hS.tr hS3
    have keep : ∀ j, j ≠ 29 → I3 90 j = I0 90 j := fun j hj => by rw [hL.2.1 j hj, u2_n (by decide), u2_n (by decide), b1 90 (by decide)]
    refine s_winds_agree (I := I3) (c := c) (sn := sn) (kp := kp) (by rw [hS4.1 96 (by omega)]; exact hc) hc5 (by rw [hS4.2 21 (by omega)]; exact hsn) hs6 (by rw [hS4.1 101 (by omega)]; exact hkp) (fun v r hv => ?_) sn 0 (by omega) 1 (Or.inl ⟨rfl, fun r hr => absurd hr (Nat.not_lt_zero r)⟩)
    have hokk : (∀ r, r < sn → kp r < c → I3 105 (kp r) = I3 102 r) ↔ okW (mdD I 96 92) kp (I 102) c sn t := by
      have e5 : ∀ r, kp r < c → I3 105 (kp r) = fP (wD (mdD I 96 92) (lw (t / 5)) (lw (t % 5))) (kp r + 1) := fun r hr => by
        rw [(hL.2.2.2 (kp r) hr).2, ← eD]
        exact (hLE.fl (kp r + 1) (by omega)).2.1
      rw [hS4.1 102 (by omega)]
      exact ⟨fun z r hr hrc => (e5 r hrc).symm.trans (z r hr hrc), fun z r hr hrc => (e5 r hrc).trans (z r hr hrc)⟩
    refine x_iload_2 cM_findWinds_126 ?_
    refine x_if_eq cM_findWinds_127 (fun q127 => ?_) (fun q127 => ?_)
    · have hnok : ¬ okW (mdD I 96 92) kp (I 102) c sn t := fun z => hv.elim (fun w => absurd (w.1.symm.trans (by simpa using q127)) (by decide)) (fun w => w.2 (hokk.mpr z))
      refine x_iinc_1 (nI (t + 1)) cM_findWinds_197 rfl (nI_inc t) (Nat.le_of_ble_eq_true rfl) ?_
      refine x_goto cM_findWinds_200 ?_
      refine ih (t + 1) (by omega) _ hS4 ⟨n0, f0, l0, ⟨n0, f0, l0, hWn, fun z => absurd z hnok, fun _ => ⟨rfl, rfl, rfl⟩⟩, ?_⟩ _ _ rfl
      rw [keep 32 (by decide), keep 33 (by decide), keep 34 (by decide)]
      exact hWM.up
    · have hok : okW (mdD I 96 92) kp (I 102) c sn t := hokk.mp (hv.elim (fun z => z.2) (fun z => absurd z.1 q127))
      have k32 : I3 90 32 = n0 := by rw [keep 32 (by decide)]; exact hWM.1
      have k33 : I3 90 33 = f0 := by rw [keep 33 (by decide)]; exact hWM.2.1
      have k34 : I3 90 34 = I0 90 34 := keep 34 (by decide)
      obtain ⟨-, -, K, L, hKt, hL32, hn, hl, hcase⟩ := hWM
      rcases hcase with ⟨hK, hL0, hlow⟩ | ⟨hK, a, ha5, hLa, hlow, hf10⟩ | ⟨hK, hp2, hlow⟩
      · refine x_aload_0 cM_findWinds_130 ?_
        refine x_aload_0 cM_findWinds_131 ?_
        refine x_gI cM_findWinds_132 fM_212 rfl rfl ?_
        refine x_if_ne cM_findWinds_135 (fun q135 => absurd q135 (by rw [k32, hn, hK]; simp [nI_0])) (fun q135 => ?_)
        refine x_bipush 10 (by decide) cM_findWinds_138 ?_
        refine x_iload_1 cM_findWinds_140 ?_
        refine x_iconst 5 (by decide) cM_findWinds_141 ?_
        refine x_idiv (by decide) cM_findWinds_142 ?_
        refine x_top (nI (t / 5)) (pk_div (d := 5) (by omega) (by decide) (by decide)) ?_
        refine x_imul cM_findWinds_143 ?_
        refine x_top (nI (10 * (t / 5))) (pk_mul 10 _) ?_
        refine x_iload_1 cM_findWinds_144 ?_
        refine x_iconst 5 (by decide) cM_findWinds_145 ?_
        refine x_irem (by decide) cM_findWinds_146 ?_
        refine x_top (nI (t % 5)) (pk_rem (d := 5) (by omega) (by decide) (by decide)) ?_
        refine x_iadd cM_findWinds_147 ?_
        refine x_top (nI (10 * (t / 5) + t % 5)) (nI_add _ _) ?_
        refine x_goto cM_findWinds_148 ?_
        refine x_pI cM_findWinds_155 fM_215 rfl rfl ?_
        refine x_aload_0 cM_findWinds_158 ?_
        refine x_aload_0 cM_findWinds_159 ?_
        refine x_gI cM_findWinds_160 fM_212 rfl rfl ?_
        refine x_if_eq cM_findWinds_163 (fun q163 => ?_) (fun q163 => absurd q163 (fun z => z (by rw [u2_sn (by decide), k32, hn, hK]; rfl)))
        refine x_iload_1 cM_findWinds_176 ?_
        refine x_iconst 5 (by decide) cM_findWinds_177 ?_
        refine x_idiv (by decide) cM_findWinds_178 ?_
        refine x_top (nI (t / 5)) (pk_div (d := 5) (by omega) (by decide) (by decide)) ?_
        refine x_goto cM_findWinds_179 ?_
        refine x_pI cM_findWinds_184 fM_218 rfl rfl ?_
        refine x_aload_0 cM_findWinds_187 ?_
        refine x_dup rfl cM_findWinds_188 ?_
        refine x_gI cM_findWinds_189 fM_212 rfl rfl ?_
        refine x_iconst 1 (by decide) cM_findWinds_192 ?_
        refine x_iadd cM_findWinds_193 ?_
        refine x_top (nI (K + 1)) (by rw [u2_sn (by decide), u2_sn (by decide), k32, hn, nI_1]) ?_
        refine x_pI cM_findWinds_194 fM_212 rfl rfl ?_
        refine x_iinc_1 (nI (t + 1)) cM_findWinds_197 rfl (nI_inc t) (Nat.le_of_ble_eq_true rfl) ?_
        refine x_goto cM_findWinds_200 ?_
        refine ih (t + 1) (by omega) _ (hS.tr (hS3.tr ⟨fun a ha => by rw [u2_n (by omega), u2_n (by omega), u2_n (by omega)], fun j hj => by rw [u2_sn (by omega), u2_sn (by omega), u2_sn (by omega)]⟩)) ⟨_, _, _, ⟨n0, f0, l0, hWn, fun _ => ⟨rfl, rfl, rfl⟩, fun z => absurd hok z⟩, ?_⟩ _ _ rfl
        refine ⟨by rw [u2_ss, hn, nI_1], by rw [u2_sn (by decide), u2_sn (by decide), u2_ss, if_pos (by rw [hn, hK]; rfl)], K + 1, L ||| 2 ^ (t / 5), by omega, (orO L hL32 (t / 5) ht5).2, by rw [hn, nI_1], by rw [hl]; exact (orO L hL32 (t / 5) ht5).1, Or.inr (Or.inl ⟨by omega, t / 5, ht5, by rw [hL0, Nat.zero_or], by rw [u2_sn (by decide), u2_ss], by rw [if_pos (by rw [hn, hK]; rfl)]; exact t5_div t ht25⟩)⟩
      · refine x_aload_0 cM_findWinds_130 ?_
        refine x_aload_0 cM_findWinds_131 ?_
        refine x_gI cM_findWinds_132 fM_212 rfl rfl ?_
        refine x_if_ne cM_findWinds_135 (fun q135 => ?_) (fun q135 => absurd q135 (by rw [k32, hn]; exact nI_ne0 hK (by omega)))
        refine x_aload_0 cM_findWinds_151 ?_
        refine x_gI cM_findWinds_152 fM_215 rfl rfl ?_
        refine x_top f0 k33 ?_
        refine x_pI cM_findWinds_155 fM_215 rfl rfl ?_
        refine x_aload_0 cM_findWinds_158 ?_
        refine x_aload_0 cM_findWinds_159 ?_
        refine x_gI cM_findWinds_160 fM_212 rfl rfl ?_
        refine x_if_eq cM_findWinds_163 (fun q163 => absurd q163 (by rw [u2_sn (by decide), k32, hn]; exact nI_ne0 hK (by omega))) (fun q163 => ?_)
        refine x_aload_0 cM_findWinds_166 ?_
        refine x_gI cM_findWinds_167 fM_218 rfl rfl ?_
        refine x_iload_1 cM_findWinds_170 ?_
        refine x_iconst 5 (by decide) cM_findWinds_171 ?_
        refine x_idiv (by decide) cM_findWinds_172 ?_
        refine x_top (nI (t / 5)) (pk_div (d := 5) (by omega) (by decide) (by decide)) ?_
        refine x_icmp_ne cM_findWinds_173 (fun q173 => ?_) (fun q173 => ?_)
        · refine x_bipush (-9) (by decide) cM_findWinds_182 ?_
          refine x_pI cM_findWinds_184 fM_218 rfl rfl ?_
          refine x_aload_0 cM_findWinds_187 ?_
          refine x_dup rfl cM_findWinds_188 ?_
          refine x_gI cM_findWinds_189 fM_212 rfl rfl ?_
          refine x_iconst 1 (by decide) cM_findWinds_192 ?_
          refine x_iadd cM_findWinds_193 ?_
          refine x_top (nI (K + 1)) (by rw [u2_sn (by decide), u2_sn (by decide), k32, hn, nI_1]) ?_
          refine x_pI cM_findWinds_194 fM_212 rfl rfl ?_
          refine x_iinc_1 (nI (t + 1)) cM_findWinds_197 rfl (nI_inc t) (Nat.le_of_ble_eq_true rfl) ?_
          refine x_goto cM_findWinds_200 ?_
          refine ih (t + 1) (by omega) _ (hS.tr (hS3.tr ⟨fun a ha => by rw [u2_n (by omega), u2_n (by omega), u2_n (by omega)], fun j hj => by rw [u2_sn (by omega), u2_sn (by omega), u2_sn (by omega)]⟩)) ⟨_, _, _, ⟨n0, f0, l0, hWn, fun _ => ⟨rfl, rfl, rfl⟩, fun z => absurd hok z⟩, ?_⟩ _ _ rfl
          have hne : ¬ t / 5 = a := fun z => by
            have q := q173
            rw [u2_sn (by decide), k34, hlow, z] at q
            exact q rfl
          refine ⟨by rw [u2_ss, hn, nI_1], by rw [u2_sn (by decide), u2_sn (by decide), u2_ss, if_neg (by rw [hn]; exact nI_ne0 hK (by omega))], K + 1, L ||| 2 ^ (t / 5), by omega, (orO L hL32 (t / 5) ht5).2, by rw [hn, nI_1], by rw [hl]; exact (orO L hL32 (t / 5) ht5).1, Or.inr (Or.inr ⟨by omega, by rw [hLa, pop_2 a ha5 (t / 5) ht5 hne]; exact Nat.le_refl 2, by rw [u2_sn (by decide), u2_ss]⟩)⟩
        · refine x_iload_1 cM_findWinds_176 ?_
          refine x_iconst 5 (by decide) cM_findWinds_177 ?_
          refine x_idiv (by decide) cM_findWinds_178 ?_
          refine x_top (nI (t / 5)) (pk_div (d := 5) (by omega) (by decide) (by decide)) ?_
          refine x_goto cM_findWinds_179 ?_
          refine x_pI cM_findWinds_184 fM_218 rfl rfl ?_
          refine x_aload_0 cM_findWinds_187 ?_
          refine x_dup rfl cM_findWinds_188 ?_
          refine x_gI cM_findWinds_189 fM_212 rfl rfl ?_
          refine x_iconst 1 (by decide) cM_findWinds_192 ?_
          refine x_iadd cM_findWinds_193 ?_
          refine x_top (nI (K + 1)) (by rw [u2_sn (by decide), u2_sn (by decide), k32, hn, nI_1]) ?_
          refine x_pI cM_findWinds_194 fM_212 rfl rfl ?_
          refine x_iinc_1 (nI (t + 1)) cM_findWinds_197 rfl (nI_inc t) (Nat.le_of_ble_eq_true rfl) ?_
          refine x_goto cM_findWinds_200 ?_
          refine ih (t + 1) (by omega) _ (hS.tr (hS3.tr ⟨fun a ha => by rw [u2_n (by omega), u2_n (by omega), u2_n (by omega)], fun j hj => by rw [u2_sn (by omega), u2_sn (by omega), u2_sn (by omega)]⟩)) ⟨_, _, _, ⟨n0, f0, l0, hWn, fun _ => ⟨rfl, rfl, rfl⟩, fun z => absurd hok z⟩, ?_⟩ _ _ rfl
          obtain rfl : t / 5 = a := by
            have q := q173
            rw [u2_sn (by decide), k34, hlow] at q
            exact ((nI_eq (by omega) (by omega)).mp q).symm
          refine ⟨by rw [u2_ss, hn, nI_1], by rw [u2_sn (by decide), u2_sn (by decide), u2_ss, if_neg (by rw [hn]; exact nI_ne0 hK (by omega))], K + 1, L ||| 2 ^ (t / 5), by omega, (orO L hL32 (t / 5) ht5).2, by rw [hn, nI_1], by rw [hl]; exact (orO L hL32 (t / 5) ht5).1, Or.inr (Or.inl ⟨by omega, t / 5, ht5, by rw [hLa, Nat.or_self], by rw [u2_sn (by decide), u2_ss], by rw [if_neg (by rw [hn]; exact nI_ne0 hK (by omega))]; exact hf10⟩)⟩
      · refine x_aload_0 cM_findWinds_130 ?_
        refine x_aload_0 cM_findWinds_131 ?_
        refine x_gI cM_findWinds_132 fM_212 rfl rfl ?_
        refine x_if_ne cM_findWinds_135 (fun q135 => ?_) (fun q135 => absurd q135 (by rw [k32, hn]; exact nI_ne0 hK (by omega)))
        refine x_aload_0 cM_findWinds_151 ?_
        refine x_gI cM_findWinds_152 fM_215 rfl rfl ?_
        refine x_top f0 k33 ?_
        refine x_pI cM_findWinds_155 fM_215 rfl rfl ?_
        refine x_aload_0 cM_findWinds_158 ?_
        refine x_aload_0 cM_findWinds_159 ?_
        refine x_gI cM_findWinds_160 fM_212 rfl rfl ?_
        refine x_if_eq cM_findWinds_163 (fun q163 => absurd q163 (by rw [u2_sn (by decide), k32, hn]; exact nI_ne0 hK (by omega))) (fun q163 => ?_)
        refine x_aload_0 cM_findWinds_166 ?_
        refine x_gI cM_findWinds_167 fM_218 rfl rfl ?_
        refine x_iload_1 cM_findWinds_170 ?_
        refine x_iconst 5 (by decide) cM_findWinds_171 ?_
        refine x_idiv (by decide) cM_findWinds_172 ?_
        refine x_top (nI (t / 5)) (pk_div (d := 5) (by omega) (by decide) (by decide)) ?_
        refine x_icmp_ne cM_findWinds_173 (fun q173 => ?_) (fun q173 => absurd q173 (by rw [u2_sn (by decide), k34, hlow]; exact fun w => nI_n9 (show t / 5 < 100 by omega) w.symm))
        refine x_bipush (-9) (by decide) cM_findWinds_182 ?_
        refine x_pI cM_findWinds_184 fM_218 rfl rfl ?_
        refine x_aload_0 cM_findWinds_187 ?_
        refine x_dup rfl cM_findWinds_188 ?_
        refine x_gI cM_findWinds_189 fM_212 rfl rfl ?_
        refine x_iconst 1 (by decide) cM_findWinds_192 ?_
        refine x_iadd cM_findWinds_193 ?_
        refine x_top (nI (K + 1)) (by rw [u2_sn (by decide), u2_sn (by decide), k32, hn, nI_1]) ?_
        refine x_pI cM_findWinds_194 fM_212 rfl rfl ?_
        refine x_iinc_1 (nI (t + 1)) cM_findWinds_197 rfl (nI_inc t) (Nat.le_of_ble_eq_true rfl) ?_
        refine x_goto cM_findWinds_200 ?_
        refine ih (t + 1) (by omega) _ (hS.tr (hS3.tr ⟨fun a ha => by rw [u2_n (by omega), u2_n (by omega), u2_n (by omega)], fun j hj => by rw [u2_sn (by omega), u2_sn (by omega), u2_sn (by omega)]⟩)) ⟨_, _, _, ⟨n0, f0, l0, hWn, fun _ => ⟨rfl, rfl, rfl⟩, fun z => absurd hok z⟩, ?_⟩ _ _ rfl
        refine ⟨by rw [u2_ss, hn, nI_1], by rw [u2_sn (by decide), u2_sn (by decide), u2_ss, if_neg (by rw [hn]; exact nI_ne0 hK (by omega))], K + 1, L ||| 2 ^ (t / 5), by omega, (orO L hL32 (t / 5) ht5).2, by rw [hn, nI_1], by rw [hl]; exact (orO L hL32 (t / 5) ht5).1, Or.inr (Or.inr ⟨by omega, pop_or L hL32 (t / 5) ht5 hp2, by rw [u2_sn (by decide), u2_ss]⟩)⟩
theorem s_findWinds {Po : Option Value → HS → Prop} {I : IT} {J : JT} {P : PT} {c sn : Nat} {kp : Nat → Nat} (hc : I 96 0 = nI c) (hc5 : c ≤ 5) (hsn : I 90 21 = nI sn) (hs6 : sn ≤ 6) (hkp : ∀ r, r < sn → I 101 r = nI (kp r) ∧ kp r < 5) (hG : ∀ t, t < 25 → Rg (wD (mdD I 96 92) (lw (t / 5)) (lw (t % 5))) c) (hq : ∀ I' n f l, SameM I I' → Wn (okW (mdD I 96 92) kp (I 102) c sn) 25 n f l → WM n f l (I' 90 32) (I' 90 33) (I' 90 34) 25 → Po none (hp I' J P)) : xj yM_findWinds (mG yM_findWinds Po) 0 [some (.ref 90), none, none, none] [] (hp I J P) 0 0 := by
  refine x_aload_0 cM_findWinds_0 ?_
  refine x_iconst 0 (by decide) cM_findWinds_1 ?_
  refine x_pI cM_findWinds_2 fM_212 rfl rfl ?_
  refine x_aload_0 cM_findWinds_5 ?_
  refine x_bipush (-9) (by decide) cM_findWinds_6 ?_
  refine x_pI cM_findWinds_8 fM_215 rfl rfl ?_
  refine x_aload_0 cM_findWinds_11 ?_
  refine x_bipush (-9) (by decide) cM_findWinds_12 ?_
  refine x_pI cM_findWinds_14 fM_218 rfl rfl ?_
  refine x_iconst 0 (by decide) cM_findWinds_17 ?_
  refine x_istore_1 cM_findWinds_18 rfl (Nat.le_of_ble_eq_true rfl) ?_
  exact s_findWinds_loop (I := I) hc hc5 hsn hs6 hkp hG hq 25 0 (by decide) _ ⟨fun a ha => by rw [u2_n (by omega), u2_n (by omega), u2_n (by omega)], fun j hj => by rw [u2_sn (by omega), u2_sn (by omega), u2_sn (by omega)]⟩ ⟨0, -9, 0, ⟨rfl, rfl, rfl⟩, by rw [u2_sn (by decide), u2_sn (by decide), u2_ss], by rw [u2_sn (by decide), u2_ss], 0, 0, by decide, by decide, rfl, rfl, Or.inl ⟨rfl, rfl, by rw [u2_ss]⟩⟩ _ _ rfl
