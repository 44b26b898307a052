theorem or_lt {m c j : Nat} (h : m < 2 ^ c) (hj : j < c) : m ||| 2 ^ j < 2 ^ c := Nat.or_lt_two_pow h (Nat.pow_lt_pow_right (by decide) hj)
theorem SameM.md {I I' : IT} (h : SameM I I') : mdD I' 96 92 = mdD I 96 92 := by
  unfold mdD
  rw [h.1 96 (by omega), h.1 92 (by omega), h.2 4 (by omega), h.2 5 (by omega)]
theorem s_share_worth {I : IT} {J : JT} {P : PT} {c j : Nat} {u : Int32} {G : GT} (hc : I 96 0 = nI c) (hc5 : c ≤ 5) (hw : ∀ m, m < 2 ^ c → Rg (dpk (mdD I 96 92) c m) (sel m c) ∧ (∀ n, n < 19 → Rv (dpk (mdD I 96 92) c m) (sel m c) (nI n - 9)) ∧ cvI (dpk (mdD I 96 92) c m) (sel m c) 19 = voI (mdD I 96 92) c m) (hq : ∀ I', SameM I I' → (∀ i, i < 2 ^ c → I' 107 i = voI (mdD I 96 92) c i) → xj yM_share G 52 [some (.ref 90), some (.int (nI j)), some (.int u), some (.int (nI c)), some (.int (nI (2 ^ c))), none, none] [] (hp I' J P) 0 0) : ∀ n m, m + n = 2 ^ c → ∀ I', SameM I I' → (∀ i, i < m → I' 107 i = voI (mdD I 96 92) c i) → xj yM_share G 25 [some (.ref 90), some (.int (nI j)), some (.int u), some (.int (nI c)), some (.int (nI m)), none, none] [] (hp I' J P) 0 0 := by
  have h32 := (shO c hc5).2
  intro n
  induction n with
  | zero =>
    intro m hm I' hS ha
    obtain rfl : m = 2 ^ c := by omega
    refine x_iload_4 cM_share_25 ?_
    refine x_iconst 1 (by decide) cM_share_27 ?_
    refine x_iload_3 cM_share_28 ?_
    refine x_ishl cM_share_29 ?_
    refine x_top (nI (2 ^ c)) (shO c hc5).1 ?_
    refine x_icmp_ge cM_share_30 (fun q30 => ?_) (fun q30 => absurd q30 (fun z => z (Int32.le_refl _)))
    exact hq I' hS ha
  | succ n ih =>
    intro m hm I' hS ha
    have hmc : m < 2 ^ c := by omega
    obtain ⟨w1, w2, w3⟩ := hw m hmc
    refine x_iload_4 cM_share_25 ?_
    refine x_iconst 1 (by decide) cM_share_27 ?_
    refine x_iload_3 cM_share_28 ?_
    refine x_ishl cM_share_29 ?_
    refine x_top (nI (2 ^ c)) (shO c hc5).1 ?_
    refine x_icmp_ge cM_share_30 (fun q30 => absurd q30 (nI_ge hmc (by omega))) (fun q30 => ?_)
    refine x_aload_0 cM_share_33 ?_
    refine x_gR (b := 107) cM_share_34 fM_63 rfl rfl rfl ?_
    refine x_iload_4 cM_share_37 ?_
    refine x_aload_0 cM_share_39 ?_
    refine x_iload_4 cM_share_40 ?_
    refine x_v1 (ls0 := [some _, some _, none, none, none]) cM_share_42 kM_185 okM_worthOf ⟨(Nat.le_of_ble_eq_true rfl), (Nat.le_of_ble_eq_true rfl)⟩ (Nat.le_of_ble_eq_true rfl) rfl (Nat.le_of_ble_eq_true rfl) rfl ⟨_, rfl, rfl⟩ rfl rfl (Nat.zero_le _) (Nat.zero_le _) ?_
    refine s_worthOf (c := c) (m := m) hc5 (by rw [hS.1 96 (by omega)]; exact hc) (by omega) (by rw [hS.md]; exact w1) (by rw [hS.md]; exact w2) (by rw [hS.md]; exact w3) (fun I2 hS2 h107 => ?_)
    dsimp only [pushR]
    refine x_as (m) cM_share_45 rfl rfl (by omega) (by decide) ?_
    refine x_iinc_4 (nI (m + 1)) cM_share_46 rfl (nI_inc m) (Nat.le_of_ble_eq_true rfl) ?_
    refine x_goto cM_share_49 ?_
    refine ih (m + 1) (by omega) _ ((hS.tr hS2).tr ⟨fun a ha => u2_n (by omega), fun j hj => by rw [u2_n (by decide)]⟩) (fun i hi => ?_)
    rcases Nat.lt_or_ge i m with z | z
    · rw [u2_sn (by omega), h107]; exact ha i z
    · obtain rfl : i = m := by omega
      rw [u2_ss, hS.md]
theorem s_share_sum {Po : Option Value → HS → Prop} {I : IT} {J : JT} {P : PT} {c j : Nat} {u : Int32} (hc : I 96 0 = nI c) (hc5 : c ≤ 5) (hj : j < c) {D : LD} (h107 : ∀ i, i < 2 ^ c → I 107 i = voI D c i) (hab : ∃ a, a < 2 ^ 31 ∧ absI (shS D c j (2 ^ c)) = nI a) (hq : ∀ r, RShare D c (nI j) u r → Po (some (.int r)) (hp I J P)) : ∀ n m, m + n = 2 ^ c → ∀ g6, isC2 g6 = false → xj yM_share (mG yM_share Po) 58 [some (.ref 90), some (.int (nI j)), some (.int u), some (.int (nI c)), some (.int (shS D c j m)), some (.int (nI m)), g6] [] (hp I J P) 0 0 := by
  have h32 := (shO c hc5).2
  intro n
  induction n with
  | zero =>
    intro m hm g6 _
    obtain rfl : m = 2 ^ c := by omega
    obtain ⟨a, ha, hxa⟩ := hab
    refine x_iload_5 cM_share_58 ?_
    refine x_iconst 1 (by decide) cM_share_60 ?_
    refine x_iload_3 cM_share_61 ?_
    refine x_ishl cM_share_62 ?_
    refine x_top (nI (2 ^ c)) (shO c hc5).1 ?_
    refine x_icmp_ge cM_share_63 (fun q63 => ?_) (fun q63 => absurd q63 (fun z => z (Int32.le_refl _)))
    refine x_iload_4 cM_share_128 ?_
    refine x_iload_3 cM_share_130 ?_
    refine x_s1 (ls0 := [some _, none, none]) cM_share_131 kM_191 okM_orders ⟨(Nat.le_of_ble_eq_true rfl), (Nat.le_of_ble_eq_true rfl)⟩ (Nat.le_of_ble_eq_true rfl) rfl (Nat.le_of_ble_eq_true rfl) rfl rfl (Nat.zero_le _) (Nat.zero_le _) ?_
    refine s_morders hc5 ?_
    dsimp only [pushR]
    refine x_iload_2 cM_share_134 ?_
    refine x_s3 (ls0 := [some _, some _, some _, none]) cM_share_135 kM_194 okM_fraction ⟨(Nat.le_of_ble_eq_true rfl), (Nat.le_of_ble_eq_true rfl)⟩ (Nat.le_of_ble_eq_true rfl) rfl (Nat.le_of_ble_eq_true rfl) rfl rfl (Nat.zero_le _) (Nat.zero_le _) ?_
    refine s_mfraction hxa ha (fctO c hc5).1 (fctO c hc5).2 (fun hu => ?_) (fun hu => ?_)
    · dsimp only [pushR]
      refine x_ireturn cM_share_138 rfl rfl (Nat.zero_le _) (Nat.zero_le _) ?_
      refine hq _ ⟨fun z => absurd ⟨j, hj, rfl⟩ z, fun k hk ek a2 ha2 hxa2 => ?_⟩
      obtain rfl := (nI_one hc5 hj rfl hk ek).symm
      obtain rfl : a2 = a := (nI_eq ha2 ha).mp (hxa2.symm.trans hxa)
      exact ⟨fun _ => rfl, fun z => absurd z hu⟩
    · dsimp only [pushR]
      refine x_ireturn cM_share_138 rfl rfl (Nat.zero_le _) (Nat.zero_le _) ?_
      refine hq _ ⟨fun z => absurd ⟨j, hj, rfl⟩ z, fun k hk ek a2 ha2 hxa2 => ?_⟩
      obtain rfl := (nI_one hc5 hj rfl hk ek).symm
      obtain rfl : a2 = a := (nI_eq ha2 ha).mp (hxa2.symm.trans hxa)
      exact ⟨fun z => absurd hu z, fun _ => rfl⟩
  | succ n ih =>
    intro m hm g6 hg6
    have hmc : m < 2 ^ c := by omega
    have hm32 : m < 32 := by omega
    obtain ⟨o1, o2⟩ := orO m hm32 j (by omega)
    refine x_iload_5 cM_share_58 ?_
    refine x_iconst 1 (by decide) cM_share_60 ?_
    refine x_iload_3 cM_share_61 ?_
    refine x_ishl cM_share_62 ?_
    refine x_top (nI (2 ^ c)) (shO c hc5).1 ?_
    refine x_icmp_ge cM_share_63 (fun q63 => absurd q63 (nI_ge hmc (by omega))) (fun q63 => ?_)
    refine x_iload_5 cM_share_66 ?_
    refine x_iload_1 cM_share_68 ?_
    refine x_s2 (ls0 := [some _, some _]) cM_share_69 kM_179 okM_has ⟨(Nat.le_of_ble_eq_true rfl), (Nat.le_of_ble_eq_true rfl)⟩ (Nat.le_of_ble_eq_true rfl) rfl (Nat.le_of_ble_eq_true rfl) rfl rfl (Nat.zero_le _) (Nat.zero_le _) ?_
    refine s_mhas hm32 (by omega) (fun hb => ?_) (fun hb => ?_)
    · dsimp only [pushR]
      refine x_if_ne cM_share_72 (fun _ => ?_) (fun q => absurd q (by decide))
      refine x_iinc_5 (nI (m + 1)) cM_share_122 rfl (nI_inc m) (Nat.le_of_ble_eq_true rfl) ?_
      refine x_goto cM_share_125 ?_
      have e : shS D c j (m + 1) = shS D c j m := by simp only [shS]; rw [if_pos hb]
      rw [← e]
      exact ih (m + 1) (by omega) _ hg6
    · dsimp only [pushR]
      have hpo := popO c hc5 m hmc j hj hb
      refine x_if_ne cM_share_72 (fun q => absurd rfl q) (fun _ => ?_)
      refine x_iload_5 cM_share_75 ?_
      refine x_s1 (ls0 := [some _, none, none]) cM_share_77 kM_188 okM_many ⟨(Nat.le_of_ble_eq_true rfl), (Nat.le_of_ble_eq_true rfl)⟩ (Nat.le_of_ble_eq_true rfl) rfl (Nat.le_of_ble_eq_true rfl) rfl rfl (Nat.zero_le _) (Nat.zero_le _) ?_
      refine s_many ?_
      dsimp only [pushR]
      refine x_top (nI (popc m)) (mnE_n m hm32) ?_
      refine x_istore_6 cM_share_80 rfl (Nat.le_of_ble_eq_true rfl) ?_
      refine x_iload_4 cM_share_82 ?_
      refine x_iload_6 cM_share_84 ?_
      refine x_s1 (ls0 := [some _, none, none]) cM_share_86 kM_191 okM_orders ⟨(Nat.le_of_ble_eq_true rfl), (Nat.le_of_ble_eq_true rfl)⟩ (Nat.le_of_ble_eq_true rfl) rfl (Nat.le_of_ble_eq_true rfl) rfl rfl (Nat.zero_le _) (Nat.zero_le _) ?_
      refine s_morders (by omega) ?_
      dsimp only [pushR]
      refine x_iload_3 cM_share_89 ?_
      refine x_iconst 1 (by decide) cM_share_90 ?_
      refine x_isub cM_share_91 ?_
      refine x_top (nI (c - 1)) (pk_sub (b := 1) (by omega)) ?_
      refine x_iload_6 cM_share_92 ?_
      refine x_isub cM_share_94 ?_
      refine x_top (nI (c - 1 - popc m)) (pk_sub (by omega)) ?_
      refine x_s1 (ls0 := [some _, none, none]) cM_share_95 kM_191 okM_orders ⟨(Nat.le_of_ble_eq_true rfl), (Nat.le_of_ble_eq_true rfl)⟩ (Nat.le_of_ble_eq_true rfl) rfl (Nat.le_of_ble_eq_true rfl) rfl rfl (Nat.zero_le _) (Nat.zero_le _) ?_
      refine s_morders (k := c - 1 - popc m) (by omega) ?_
      dsimp only [pushR]
      refine x_imul cM_share_98 ?_
      refine x_aload_0 cM_share_99 ?_
      refine x_gR (b := 107) cM_share_100 fM_63 rfl rfl rfl ?_
      refine x_iload_5 cM_share_103 ?_
      refine x_iconst 1 (by decide) cM_share_105 ?_
      refine x_iload_1 cM_share_106 ?_
      refine x_ishl cM_share_107 ?_
      refine x_ior cM_share_108 ?_
      refine x_top (nI (m ||| 2 ^ j)) o1 ?_
      refine x_al (m ||| 2 ^ j) cM_share_109 rfl rfl (by omega) (by decide) ?_
      refine x_top (voI D c (m ||| 2 ^ j)) (h107 _ (or_lt hmc hj)) ?_
      refine x_aload_0 cM_share_110 ?_
      refine x_gR (b := 107) cM_share_111 fM_63 rfl rfl rfl ?_
      refine x_iload_5 cM_share_114 ?_
      refine x_al (m) cM_share_116 rfl rfl (by omega) (by decide) ?_
      refine x_top (voI D c m) (h107 m hmc) ?_
      refine x_isub cM_share_117 ?_
      refine x_imul cM_share_118 ?_
      refine x_iadd cM_share_119 ?_
      refine x_top (shS D c j (m + 1)) (by simp only [shS]; rw [if_neg (by rw [hb]; decide)]) ?_
      refine x_istore_4 cM_share_120 rfl (Nat.le_of_ble_eq_true rfl) ?_
      refine x_iinc_5 (nI (m + 1)) cM_share_122 rfl (nI_inc m) (Nat.le_of_ble_eq_true rfl) ?_
      refine x_goto cM_share_125 ?_
      exact ih (m + 1) (by omega) _ rfl
theorem m_share {Po : Option Value → HS → Prop} {I : IT} {J : JT} {P : PT} {c : Nat} {i u : Int32} (hc : I 96 0 = nI c) (hc5 : c ≤ 5) (hw : ∀ m, m < 2 ^ c → Rg (dpk (mdD I 96 92) c m) (sel m c) ∧ (∀ n, n < 19 → Rv (dpk (mdD I 96 92) c m) (sel m c) (nI n - 9)) ∧ cvI (dpk (mdD I 96 92) c m) (sel m c) 19 = voI (mdD I 96 92) c m) (hab : ∀ j, j < c → ∃ a, a < 2 ^ 31 ∧ absI (shS (mdD I 96 92) c j (2 ^ c)) = nI a) (hq : ∀ (r : Int32) (I' : IT), (RShare (mdD I 96 92) c i u r ∧ SameM I I') → Po (some (.int r)) (hp I' J P)) : xj yM_share (mG yM_share Po) 0 [some (.ref 90), some (.int i), some (.int u), none, none, none, none] [] (hp I J P) 0 0 := by
  refine x_aload_0 cM_share_0 ?_
  refine x_iconst 0 (by decide) cM_share_1 ?_
  refine x_pI cM_share_2 fM_66 rfl rfl ?_
  refine x_aload_0 cM_share_5 ?_
  refine x_iload_1 cM_share_6 ?_
  refine x_v1 (ls0 := [some _, some _]) cM_share_7 kM_134 okM_noKite ⟨(Nat.le_of_ble_eq_true rfl), (Nat.le_of_ble_eq_true rfl)⟩ (Nat.le_of_ble_eq_true rfl) rfl (Nat.le_of_ble_eq_true rfl) rfl ⟨_, rfl, rfl⟩ rfl rfl (Nat.zero_le _) (Nat.zero_le _) ?_
  refine s_noKite (by rw [u2_n (by decide)]; exact hc) hc5 (fun hno => ?_) (fun j hj ej => ?_)
  · dsimp only [pushR]
    refine x_if_eq cM_share_10 (fun q => absurd q (by decide)) (fun _ => ?_)
    refine x_iconst (-1) (by decide) cM_share_13 ?_
    refine x_ireturn cM_share_14 rfl rfl (Nat.zero_le _) (Nat.zero_le _) ?_
    exact hq _ _ ⟨⟨fun _ => rfl, fun j hj e => absurd ⟨j, hj, e⟩ hno⟩, SameM.th I⟩
  · dsimp only [pushR]
    subst ej
    refine x_if_eq cM_share_10 (fun _ => ?_) (fun q => absurd rfl q)
    refine x_aload_0 cM_share_15 ?_
    refine x_gR (b := 96) cM_share_16 fM_29 rfl rfl rfl ?_
    refine x_iconst 0 (by decide) cM_share_19 ?_
    refine x_al (0) cM_share_20 rfl rfl (by decide) (by decide) ?_
    refine x_top (nI c) (by rw [u2_n (by decide)]; exact hc) ?_
    refine x_istore_3 cM_share_21 rfl (Nat.le_of_ble_eq_true rfl) ?_
    refine x_iconst 0 (by decide) cM_share_22 ?_
    refine x_istore_4 cM_share_23 rfl (Nat.le_of_ble_eq_true rfl) ?_
    refine s_share_worth (c := c) (j := j) (I := I) hc hc5 hw (fun I2 hS h107 => ?_) (2 ^ c) 0 (by omega) _ (SameM.th I) (fun i hi => absurd hi (Nat.not_lt_zero i))
    refine x_iconst 0 (by decide) cM_share_52 ?_
    refine x_istore_4 cM_share_53 rfl (Nat.le_of_ble_eq_true rfl) ?_
    refine x_iconst 0 (by decide) cM_share_55 ?_
    refine x_istore_5 cM_share_56 rfl (Nat.le_of_ble_eq_true rfl) ?_
    exact s_share_sum (D := mdD I 96 92) (by rw [hS.1 96 (by omega)]; exact hc) hc5 hj h107 (hab j hj) (fun r hr => hq r I2 ⟨hr, hS⟩) (2 ^ c) 0 (by omega) _ rfl
def KpOut (I I' : IT) (s : Nat) : Prop := (∀ a, a ≠ 90 → a ≠ 99 → a ≠ 100 → I' a = I a) ∧ (∀ j, j ≠ 0 → I' 90 j = I 90 j) ∧ (∀ j, I' 100 j = u2 I 100 s 1 100 j) ∧ (∀ i, (i < 13 * s ∨ 13 * s + 13 ≤ i) → I' 99 i = I 99 i) ∧ ∀ j, j < 13 → I' 99 (13 * s + j) = I 96 j
def RKeepM (I I' : IT) (c : Nat) (i r : Int32) : Prop := (¬ (0 ≤ i ∧ i ≤ 1) → r = -1 ∧ SameM I I') ∧ ∀ s, s < 2 → i = nI s → r = nI c ∧ KpOut I I' s
def RAgainM (I I' : IT) (i r : Int32) : Prop := (¬ (0 ≤ i ∧ i ≤ 1) → r = -1 ∧ SameM I I') ∧ ∀ s, s < 2 → i = nI s → (I 100 s = 0 → r = -3 ∧ SameM I I') ∧ (¬ I 100 s = 0 → r = I 99 (13 * s) ∧ (∀ a, a ≠ 90 → a ≠ 96 → I' a = I a) ∧ (∀ j, j ≠ 0 → j ≠ 18 → I' 90 j = I 90 j) ∧ I' 90 18 = 0 ∧ ∀ j, j < 13 → I' 96 j = I 99 (13 * s + j))
theorem in01 {i : Int32} (h : 0 ≤ i ∧ i ≤ 1) : ∃ s, s < 2 ∧ i = nI s := by
  rcases w01.mp h with rfl | rfl
  · exact ⟨0, by decide, rfl⟩
  · exact ⟨1, by decide, rfl⟩
theorem in01' {i : Int32} {s : Nat} (hs : s < 2) (e : i = nI s) : 0 ≤ i ∧ i ≤ 1 := by
  subst e
  rcases (show s = 0 ∨ s = 1 by omega) with rfl | rfl <;> decide
theorem s_mkeep_loop {Po : Option Value → HS → Prop} {I : IT} {J : JT} {P : PT} {s : Nat} (hs : s < 2) (hq : ∀ I', (∀ a, a ≠ 99 → I' a = I a) → (∀ i, (i < 13 * s ∨ 13 * s + 13 ≤ i) → I' 99 i = I 99 i) → (∀ j, j < 13 → I' 99 (13 * s + j) = I 96 j) → Po (some (.int (I 96 0))) (hp I' J P)) : ∀ n k, k + n = 13 → ∀ I', (∀ a, a ≠ 99 → I' a = I a) → (∀ i, (i < 13 * s ∨ 13 * s + 13 ≤ i) → I' 99 i = I 99 i) → (∀ j, j < k → I' 99 (13 * s + j) = I 96 j) → xj yM_keep (mG yM_keep Po) 26 [some (.ref 90), some (.int (nI s)), some (.int (nI k))] [] (hp I' J P) 0 0 := by
  intro n
  induction n with
  | zero =>
    intro k hk I' hf hl ha
    obtain rfl : k = 13 := by omega
    refine x_iload_2 cM_keep_26 ?_
    refine x_bipush 13 (by decide) cM_keep_27 ?_
    refine x_icmp_ge cM_keep_29 (fun q29 => ?_) (fun q29 => absurd q29 (fun z => z (by decide)))
    refine x_aload_0 cM_keep_55 ?_
    refine x_gR (b := 96) cM_keep_56 fM_29 rfl rfl rfl ?_
    refine x_iconst 0 (by decide) cM_keep_59 ?_
    refine x_al (0) cM_keep_60 rfl rfl (by decide) (by decide) ?_
    refine x_ireturn cM_keep_61 rfl rfl (Nat.zero_le _) (Nat.zero_le _) ?_
    rw [hf 96 (by decide)]
    exact hq I' hf hl ha
  | succ n ih =>
    intro k hk I' hf hl ha
    have hk13 : k < 13 := by omega
    refine x_iload_2 cM_keep_26 ?_
    refine x_bipush 13 (by decide) cM_keep_27 ?_
    refine x_icmp_ge cM_keep_29 (fun q29 => absurd q29 (nI_ge hk13 (by decide))) (fun q29 => ?_)
    refine x_aload_0 cM_keep_32 ?_
    refine x_gR (b := 99) cM_keep_33 fM_38 rfl rfl rfl ?_
    refine x_bipush 13 (by decide) cM_keep_36 ?_
    refine x_iload_1 cM_keep_38 ?_
    refine x_imul cM_keep_39 ?_
    refine x_top (nI (13 * s)) (pk_mul 13 s) ?_
    refine x_iload_2 cM_keep_40 ?_
    refine x_iadd cM_keep_41 ?_
    refine x_top (nI (13 * s + k)) (nI_add (13 * s) k) ?_
    refine x_aload_0 cM_keep_42 ?_
    refine x_gR (b := 96) cM_keep_43 fM_29 rfl rfl rfl ?_
    refine x_iload_2 cM_keep_46 ?_
    refine x_al (k) cM_keep_47 rfl rfl (by omega) (by decide) ?_
    rw [hf 96 (by decide)]
    refine x_as (13 * s + k) cM_keep_48 rfl rfl (by omega) (by decide) ?_
    refine x_iinc_2 (nI (k + 1)) cM_keep_49 rfl (nI_inc k) (Nat.le_of_ble_eq_true rfl) ?_
    refine x_goto cM_keep_52 ?_
    refine ih (k + 1) (by omega) _ (fun a h => by rw [u2_n h]; exact hf a h) (fun i hi => by rw [u2_sn (by omega)]; exact hl i hi) (fun j hj => ?_)
    rcases Nat.lt_or_ge j k with z | z
    · rw [u2_sn (by omega)]; exact ha j z
    · obtain rfl : j = k := by omega
      rw [u2_ss]
theorem m_keep {Po : Option Value → HS → Prop} {I : IT} {J : JT} {P : PT} {c : Nat} {i : Int32} (hc : I 96 0 = nI c) (hq : ∀ (r : Int32) (I' : IT), (RKeepM I I' c i r) → Po (some (.int r)) (hp I' J P)) : xj yM_keep (mG yM_keep Po) 0 [some (.ref 90), some (.int i), none] [] (hp I J P) 0 0 := by
  refine x_aload_0 cM_keep_0 ?_
  refine x_iconst 0 (by decide) cM_keep_1 ?_
  refine x_pI cM_keep_2 fM_66 rfl rfl ?_
  refine x_iload_1 cM_keep_5 ?_
  refine x_i2l cM_keep_6 ?_
  refine x_lconst 0 (by decide) cM_keep_7 ?_
  refine x_lconst 1 (by decide) cM_keep_8 ?_
  refine x_s3 (ls0 := [some _, none, some _, none, some _, none]) cM_keep_9 kM_69 okM_in ⟨(Nat.le_of_ble_eq_true rfl), (Nat.le_of_ble_eq_true rfl)⟩ (Nat.le_of_ble_eq_true rfl) rfl (Nat.le_of_ble_eq_true rfl) rfl rfl (Nat.zero_le _) (Nat.zero_le _) ?_
  refine s_in (a := 0) (b := 1) (by decide) (by decide) (fun hi => ?_) (fun hi => ?_)
  · dsimp only [pushR]
    obtain ⟨s, hs, es⟩ := in01 hi
    subst es
    refine x_if_ne cM_keep_12 (fun _ => ?_) (fun q => absurd q (by decide))
    refine x_aload_0 cM_keep_17 ?_
    refine x_gR (b := 100) cM_keep_18 fM_41 rfl rfl rfl ?_
    refine x_iload_1 cM_keep_21 ?_
    refine x_iconst 1 (by decide) cM_keep_22 ?_
    refine x_zs (s) cM_keep_23 rfl rfl (by omega) (by decide) rfl ?_
    refine x_iconst 0 (by decide) cM_keep_24 ?_
    refine x_istore_2 cM_keep_25 rfl (Nat.le_of_ble_eq_true rfl) ?_
    refine s_mkeep_loop hs (fun I2 k1 k2 k3 => ?_) 13 0 (by decide) _ (fun _ _ => rfl) (fun _ _ => rfl) (fun j hj => absurd hj (Nat.not_lt_zero j))
    rw [u2_n (show 96 ≠ 100 by decide), u2_n (show 96 ≠ 90 by decide)]
    refine hq _ _ ⟨fun z => absurd hi z, fun t ht et => ?_⟩
    obtain rfl : t = s := (nI_eq (by omega) (by omega)).mp et.symm
    refine ⟨hc, fun a a1 a2 a3 => by rw [k1 a a2, u2_n a3, u2_n a1], fun j hj => by rw [k1 90 (by decide), u2_n (by decide), u2_sn hj], fun j => ?_, fun i hi => by rw [k2 i hi, u2_n (by decide), u2_n (by decide)], fun j hj => by rw [k3 j hj, u2_n (by decide), u2_n (by decide)]⟩
    rw [k1 100 (by decide)]
    simp [u2_g]
  · dsimp only [pushR]
    refine x_if_ne cM_keep_12 (fun q => absurd rfl q) (fun _ => ?_)
    refine x_iconst (-1) (by decide) cM_keep_15 ?_
    refine x_ireturn cM_keep_16 rfl rfl (Nat.zero_le _) (Nat.zero_le _) ?_
    exact hq _ _ ⟨fun _ => ⟨rfl, SameM.th I⟩, fun s hs e => absurd (in01' hs e) hi⟩
theorem s_magain_loop {Po : Option Value → HS → Prop} {I : IT} {J : JT} {P : PT} {s : Nat} (hs : s < 2) (hq : ∀ I', (∀ a, a ≠ 90 → a ≠ 96 → I' a = I a) → (∀ j, j ≠ 18 → I' 90 j = I 90 j) → I' 90 18 = 0 → (∀ j, j < 13 → I' 96 j = I 99 (13 * s + j)) → Po (some (.int (I 99 (13 * s)))) (hp I' J P)) : ∀ n k, k + n = 13 → ∀ I', (∀ a, a ≠ 96 → I' a = I a) → (∀ j, j < k → I' 96 j = I 99 (13 * s + j)) → xj yM_again (mG yM_again Po) 31 [some (.ref 90), some (.int (nI s)), some (.int (nI k))] [] (hp I' J P) 0 0 := by
  intro n
  induction n with
  | zero =>
    intro k hk I' hf ha
    obtain rfl : k = 13 := by omega
    refine x_iload_2 cM_again_31 ?_
    refine x_bipush 13 (by decide) cM_again_32 ?_
    refine x_icmp_ge cM_again_34 (fun q34 => ?_) (fun q34 => absurd q34 (fun z => z (by decide)))
    refine x_aload_0 cM_again_60 ?_
    refine x_iconst 0 (by decide) cM_again_61 ?_
    refine x_pI cM_again_62 fM_111 rfl rfl ?_
    refine x_aload_0 cM_again_65 ?_
    refine x_gR (b := 96) cM_again_66 fM_29 rfl rfl rfl ?_
    refine x_iconst 0 (by decide) cM_again_69 ?_
    refine x_al (0) cM_again_70 rfl rfl (by decide) (by decide) ?_
    refine x_ireturn cM_again_71 rfl rfl (Nat.zero_le _) (Nat.zero_le _) ?_
    rw [u2_n (show 96 ≠ 90 by decide), ha 0 (by decide)]
    exact hq _ (fun a a1 a2 => by rw [u2_n a1]; exact hf a a2) (fun j hj => by rw [u2_sn hj, hf 90 (by decide)]) (by rw [u2_ss]) (fun j hj => by rw [u2_n (by decide)]; exact ha j hj)
  | succ n ih =>
    intro k hk I' hf ha
    have hk13 : k < 13 := by omega
    refine x_iload_2 cM_again_31 ?_
    refine x_bipush 13 (by decide) cM_again_32 ?_
    refine x_icmp_ge cM_again_34 (fun q34 => absurd q34 (nI_ge hk13 (by decide))) (fun q34 => ?_)
    refine x_aload_0 cM_again_37 ?_
    refine x_gR (b := 96) cM_again_38 fM_29 rfl rfl rfl ?_
    refine x_iload_2 cM_again_41 ?_
    refine x_aload_0 cM_again_42 ?_
    refine x_gR (b := 99) cM_again_43 fM_38 rfl rfl rfl ?_
    refine x_bipush 13 (by decide) cM_again_46 ?_
    refine x_iload_1 cM_again_48 ?_
    refine x_imul cM_again_49 ?_
    refine x_top (nI (13 * s)) (pk_mul 13 s) ?_
    refine x_iload_2 cM_again_50 ?_
    refine x_iadd cM_again_51 ?_
    refine x_top (nI (13 * s + k)) (nI_add (13 * s) k) ?_
    refine x_al (13 * s + k) cM_again_52 rfl rfl (by omega) (by decide) ?_
    rw [hf 99 (by decide)]
    refine x_as (k) cM_again_53 rfl rfl (by omega) (by decide) ?_
    refine x_iinc_2 (nI (k + 1)) cM_again_54 rfl (nI_inc k) (Nat.le_of_ble_eq_true rfl) ?_
    refine x_goto cM_again_57 ?_
    refine ih (k + 1) (by omega) _ (fun a h => by rw [u2_n h]; exact hf a h) (fun j hj => ?_)
    rcases Nat.lt_or_ge j k with z | z
    · rw [u2_sn (by omega)]; exact ha j z
    · obtain rfl : j = k := by omega
      rw [u2_ss]
theorem m_again {Po : Option Value → HS → Prop} {I : IT} {J : JT} {P : PT} {i : Int32}  (hq : ∀ (r : Int32) (I' : IT), (RAgainM I I' i r) → Po (some (.int r)) (hp I' J P)) : xj yM_again (mG yM_again Po) 0 [some (.ref 90), some (.int i), none] [] (hp I J P) 0 0 := by
  refine x_aload_0 cM_again_0 ?_
  refine x_iconst 0 (by decide) cM_again_1 ?_
  refine x_pI cM_again_2 fM_66 rfl rfl ?_
  refine x_iload_1 cM_again_5 ?_
  refine x_i2l cM_again_6 ?_
  refine x_lconst 0 (by decide) cM_again_7 ?_
  refine x_lconst 1 (by decide) cM_again_8 ?_
  refine x_s3 (ls0 := [some _, none, some _, none, some _, none]) cM_again_9 kM_69 okM_in ⟨(Nat.le_of_ble_eq_true rfl), (Nat.le_of_ble_eq_true rfl)⟩ (Nat.le_of_ble_eq_true rfl) rfl (Nat.le_of_ble_eq_true rfl) rfl rfl (Nat.zero_le _) (Nat.zero_le _) ?_
  refine s_in (a := 0) (b := 1) (by decide) (by decide) (fun hi => ?_) (fun hi => ?_)
  · dsimp only [pushR]
    obtain ⟨s, hs, es⟩ := in01 hi
    subst es
    refine x_if_ne cM_again_12 (fun _ => ?_) (fun q => absurd q (by decide))
    refine x_aload_0 cM_again_17 ?_
    refine x_gR (b := 100) cM_again_18 fM_41 rfl rfl rfl ?_
    refine x_iload_1 cM_again_21 ?_
    refine x_zl (s) cM_again_22 rfl rfl (by omega) (by decide) ?_
    rw [u2_n (show 100 ≠ 90 by decide)]
    refine x_if_ne cM_again_23 (fun q23 => ?_) (fun q23 => ?_)
    · refine x_iconst 0 (by decide) cM_again_29 ?_
      refine x_istore_2 cM_again_30 rfl (Nat.le_of_ble_eq_true rfl) ?_
      refine s_magain_loop hs (fun I2 k1 k2 k3 k4 => ?_) 13 0 (by decide) _ (fun _ _ => rfl) (fun j hj => absurd hj (Nat.not_lt_zero j))
      rw [u2_n (show 99 ≠ 90 by decide)]
      refine hq _ _ ⟨fun z => absurd hi z, fun t ht et => ?_⟩
      obtain rfl : t = s := (nI_eq (by omega) (by omega)).mp et.symm
      exact ⟨fun z => absurd z (by simpa using q23), fun _ => ⟨rfl, fun a a1 a2 => by rw [k1 a a1 a2, u2_n a1], fun j j1 j2 => by rw [k2 j j2, u2_sn j1], k3, fun j hj => by rw [k4 j hj, u2_n (by decide)]⟩⟩
    · refine x_bipush (-3) (by decide) cM_again_26 ?_
      refine x_ireturn cM_again_28 rfl rfl (Nat.zero_le _) (Nat.zero_le _) ?_
      refine hq _ _ ⟨fun z => absurd hi z, fun t ht et => ?_⟩
      obtain rfl : t = s := (nI_eq (by omega) (by omega)).mp et.symm
      exact ⟨fun _ => ⟨rfl, SameM.th I⟩, fun z => absurd (by simpa using q23) z⟩
  · dsimp only [pushR]
    refine x_if_ne cM_again_12 (fun q => absurd rfl q) (fun _ => ?_)
    refine x_iconst (-1) (by decide) cM_again_15 ?_
    refine x_ireturn cM_again_16 rfl rfl (Nat.zero_le _) (Nat.zero_le _) ?_
    exact hq _ _ ⟨fun _ => ⟨rfl, SameM.th I⟩, fun s hs e => absurd (in01' hs e) hi⟩
def RSeeAtM (I I' : IT) (c n : Nat) (i x r : Int32) : Prop :=
  ((¬ ∃ j, j < c ∧ i = nI j) → r = -1 ∧ SameM I I') ∧ ((∃ j, j < c ∧ i = nI j) → (¬ (-30 ≤ x ∧ x ≤ 30) → r = -2 ∧ SameM I I') ∧ ((-30 ≤ x ∧ x ≤ 30) → (n = 6 → r = -4 ∧ SameM I I') ∧ (n < 6 → r = nI (n + 1) ∧ I' = u2 (u2 (u2 (u2 I 90 0 0) 101 n i) 102 n x) 90 21 (nI (n + 1)))))
theorem m_seeAt {Po : Option Value → HS → Prop} {I : IT} {J : JT} {P : PT} {c n : Nat} {i x : Int32} (hc : I 96 0 = nI c) (hc5 : c ≤ 5) (hn : I 90 21 = nI n) (hn6 : n ≤ 6) (hq : ∀ (r : Int32) (I' : IT), (RSeeAtM I I' c n i x r) → Po (some (.int r)) (hp I' J P)) : xj yM_seeAt (mG yM_seeAt Po) 0 [some (.ref 90), some (.int i), some (.int x)] [] (hp I J P) 0 0 := by
  refine x_aload_0 cM_seeAt_0 ?_
  refine x_iconst 0 (by decide) cM_seeAt_1 ?_
  refine x_pI cM_seeAt_2 fM_66 rfl rfl ?_
  refine x_aload_0 cM_seeAt_5 ?_
  refine x_iload_1 cM_seeAt_6 ?_
  refine x_v1 (ls0 := [some _, some _]) cM_seeAt_7 kM_134 okM_noKite ⟨(Nat.le_of_ble_eq_true rfl), (Nat.le_of_ble_eq_true rfl)⟩ (Nat.le_of_ble_eq_true rfl) rfl (Nat.le_of_ble_eq_true rfl) rfl ⟨_, rfl, rfl⟩ rfl rfl (Nat.zero_le _) (Nat.zero_le _) ?_
  refine s_noKite (by rw [u2_n (by decide)]; exact hc) hc5 (fun hno => ?_) (fun j hj ej => ?_)
  · dsimp only [pushR]
    refine x_if_eq cM_seeAt_10 (fun q => absurd q (by decide)) (fun _ => ?_)
    refine x_iconst (-1) (by decide) cM_seeAt_13 ?_
    refine x_ireturn cM_seeAt_14 rfl rfl (Nat.zero_le _) (Nat.zero_le _) ?_
    exact hq _ _ ⟨fun _ => ⟨rfl, SameM.th I⟩, fun z => absurd z hno⟩
  · dsimp only [pushR]
    refine x_if_eq cM_seeAt_10 (fun _ => ?_) (fun q => absurd rfl q)
    refine x_iload_2 cM_seeAt_15 ?_
    refine x_i2l cM_seeAt_16 ?_
    refine x_ldc2 cM_seeAt_17 qM_210 ?_
    refine x_ldc2 cM_seeAt_20 qM_142 ?_
    refine x_s3 (ls0 := [some _, none, some _, none, some _, none]) cM_seeAt_23 kM_69 okM_in ⟨(Nat.le_of_ble_eq_true rfl), (Nat.le_of_ble_eq_true rfl)⟩ (Nat.le_of_ble_eq_true rfl) rfl (Nat.le_of_ble_eq_true rfl) rfl rfl (Nat.zero_le _) (Nat.zero_le _) ?_
    refine s_in (a := -30) (b := 30) (by decide) (by decide) (fun hx => ?_) (fun hx => ?_)
    · dsimp only [pushR]
      refine x_if_ne cM_seeAt_26 (fun _ => ?_) (fun q => absurd q (by decide))
      refine x_aload_0 cM_seeAt_32 ?_
      refine x_gI cM_seeAt_33 fM_131 rfl rfl ?_
      refine x_bipush 6 (by decide) cM_seeAt_36 ?_
      refine x_icmp_ne cM_seeAt_38 (fun q38 => ?_) (fun q38 => ?_)
      · rw [u2_sn (by decide), hn] at q38
        have hlt : n < 6 := Nat.lt_of_le_of_ne hn6 (fun z => q38 (by rw [z]; rfl))
        refine x_aload_0 cM_seeAt_44 ?_
        refine x_gR (b := 101) cM_seeAt_45 fM_45 rfl rfl rfl ?_
        refine x_aload_0 cM_seeAt_48 ?_
        refine x_gI cM_seeAt_49 fM_131 rfl rfl ?_
        refine x_iload_1 cM_seeAt_52 ?_
        refine x_as (n) cM_seeAt_53 rfl (by rw [u2_sn (by decide)]; exact hn) (by omega) (by decide) ?_
        refine x_aload_0 cM_seeAt_54 ?_
        refine x_gR (b := 102) cM_seeAt_55 fM_48 rfl rfl rfl ?_
        refine x_aload_0 cM_seeAt_58 ?_
        refine x_gI cM_seeAt_59 fM_131 rfl rfl ?_
        refine x_iload_2 cM_seeAt_62 ?_
        refine x_as (n) cM_seeAt_63 rfl (by rw [u2_n (by decide), u2_sn (by decide)]; exact hn) (by omega) (by decide) ?_
        refine x_aload_0 cM_seeAt_64 ?_
        refine x_dup rfl cM_seeAt_65 ?_
        refine x_gI cM_seeAt_66 fM_131 rfl rfl ?_
        refine x_iconst 1 (by decide) cM_seeAt_69 ?_
        refine x_iadd cM_seeAt_70 ?_
        refine x_top (nI (n + 1)) (by rw [u2_n (by decide), u2_n (by decide), u2_sn (by decide), hn, nI_1]) ?_
        refine x_pI cM_seeAt_71 fM_131 rfl rfl ?_
        refine x_aload_0 cM_seeAt_74 ?_
        refine x_gI cM_seeAt_75 fM_131 rfl rfl ?_
        refine x_top (nI (n + 1)) (by rw [u2_ss]) ?_
        refine x_ireturn cM_seeAt_78 rfl rfl (Nat.zero_le _) (Nat.zero_le _) ?_
        exact hq _ _ ⟨fun z => absurd ⟨j, hj, ej⟩ z, fun _ => ⟨fun z => absurd hx z, fun _ => ⟨fun z => absurd z (by omega), fun _ => ⟨rfl, rfl⟩⟩⟩⟩
      · rw [u2_sn (by decide), hn] at q38
        have he : n = 6 := (nI_eq (b := 6) (by omega) (by decide)).mp q38
        refine x_bipush (-4) (by decide) cM_seeAt_41 ?_
        refine x_ireturn cM_seeAt_43 rfl rfl (Nat.zero_le _) (Nat.zero_le _) ?_
        exact hq _ _ ⟨fun z => absurd ⟨j, hj, ej⟩ z, fun _ => ⟨fun z => absurd hx z, fun _ => ⟨fun _ => ⟨rfl, SameM.th I⟩, fun z => absurd z (by omega)⟩⟩⟩
    · dsimp only [pushR]
      refine x_if_ne cM_seeAt_26 (fun q => absurd rfl q) (fun _ => ?_)
      refine x_bipush (-2) (by decide) cM_seeAt_29 ?_
      refine x_ireturn cM_seeAt_31 rfl rfl (Nat.zero_le _) (Nat.zero_le _) ?_
      exact hq _ _ ⟨fun z => absurd ⟨j, hj, ej⟩ z, fun _ => ⟨fun _ => ⟨rfl, SameM.th I⟩, fun z => absurd z hx⟩⟩
theorem m_unsee {Po : Option Value → HS → Prop} {I : IT} {J : JT} {P : PT}   (hq : ∀ (r : Int32) (I' : IT), (r = I 90 21 ∧ I' = u2 (u2 I 90 0 0) 90 21 0) → Po (some (.int r)) (hp I' J P)) : xj yM_unsee (mG yM_unsee Po) 0 [some (.ref 90), none] [] (hp I J P) 0 0 := by
  refine x_aload_0 cM_unsee_0 ?_
  refine x_iconst 0 (by decide) cM_unsee_1 ?_
  refine x_pI cM_unsee_2 fM_66 rfl rfl ?_
  refine x_aload_0 cM_unsee_5 ?_
  refine x_gI cM_unsee_6 fM_131 rfl rfl ?_
  refine x_top (I 90 21) (by rw [u2_sn (by decide)]) ?_
  refine x_istore_1 cM_unsee_9 rfl (Nat.le_of_ble_eq_true rfl) ?_
  refine x_aload_0 cM_unsee_10 ?_
  refine x_iconst 0 (by decide) cM_unsee_11 ?_
  refine x_pI cM_unsee_12 fM_131 rfl rfl ?_
  refine x_iload_1 cM_unsee_15 ?_
  refine x_ireturn cM_unsee_16 rfl rfl (Nat.zero_le _) (Nat.zero_le _) ?_
  exact hq _ _ ⟨rfl, rfl⟩
