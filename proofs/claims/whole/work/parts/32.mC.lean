theorem nI_n9 {p : Nat} (h : p < 100) : ¬ nI p = -9 := fun z => by
  have := congrArg Int32.toInt z
  rw [nI_toInt (by omega)] at this
  have e : (-9 : Int32).toInt = -9 := by decide
  omega
theorem RdF.sm {I I' : IT} (h : RdF I I') : SameM I I' := ⟨fun a ha => h.1 a (by omega) (by omega) (by omega) (by omega), fun j hj => h.2 j (by omega) (by omega) (by omega) (by omega) (by omega) (by omega)⟩
theorem rd_fault {t : Nat → Int32} {n p : Nat} (h1 : p ≤ n) (h2 : p < n → ¬ okL t p) (h3 : p = n → ¬ ended n) (h4 : ∀ j, j < p → okL t j) : RFault t n (nI p) := by
  rcases Nat.lt_or_ge p n with z | z
  · exact fault_first z (h2 z) h4
  · obtain rfl : p = n := by omega
    exact fault_end h4 (h3 rfl)
theorem rd_ended {n k : Nat} (h : n = 4 * k + 6) : ended n := ⟨by omega, by omega⟩
theorem rd_bad {t : Nat → Int32} {n p : Nat} (h1 : p ≤ n) (h2 : p < n → ¬ okL t p) (h3 : p = n → ¬ ended n) : ¬ ((∀ j, j < n → okL t j) ∧ ended n) := fun z => by
  rcases Nat.lt_or_ge p n with w | w
  · exact h2 w (z.1 p w)
  · exact h3 (by omega) z.2
theorem m_fault {Po : Option Value → HS → Prop} {I : IT} {J : JT} {P : PT} {n : Nat} (hn : I 90 2 = nI n) (hn2 : n ≤ 32) (hB : Byt (I 91) n) (hq : ∀ (r : Int32) (I' : IT), (RFault (I 91) n r ∧ SameM I I') → Po (some (.int r)) (hp I' J P)) : xj yM_fault (mG yM_fault Po) 0 [some (.ref 90)] [] (hp I J P) 0 0 := by
  refine x_aload_0 cM_fault_0 ?_
  refine x_iconst 0 (by decide) cM_fault_1 ?_
  refine x_pI cM_fault_2 fM_66 rfl rfl ?_
  refine x_aload_0 cM_fault_5 ?_
  refine x_v0 (ls0 := [some _, none, none, none]) cM_fault_6 kM_104 okM_readString ⟨(Nat.le_of_ble_eq_true rfl), (Nat.le_of_ble_eq_true rfl)⟩ (Nat.le_of_ble_eq_true rfl) rfl (Nat.le_of_ble_eq_true rfl) rfl ⟨_, rfl, rfl⟩ rfl rfl (Nat.zero_le _) (Nat.zero_le _) ?_
  refine s_readString (n := n) (by rw [u2_sn (by decide)]; exact hn) hn2 (by rw [u2_n (show 91 ≠ 90 by decide)]; exact hB) (fun k I1 e6 ek ha hR => ?_) (fun p I1 hp1 hp2 hp3 hp4 hF => ?_)
  · dsimp only [pushR]
    rw [u2_n (show 91 ≠ 90 by decide)] at ha
    refine x_ireturn cM_fault_9 rfl rfl (Nat.zero_le _) (Nat.zero_le _) ?_
    exact hq _ _ ⟨fault_none ha (rd_ended e6), (SameM.th I).tr hR.1.sm⟩
  · dsimp only [pushR]
    rw [u2_n (show 91 ≠ 90 by decide)] at hp2 hp4
    refine x_ireturn cM_fault_9 rfl rfl (Nat.zero_le _) (Nat.zero_le _) ?_
    exact hq _ _ ⟨rd_fault hp1 hp2 hp3 hp4, (SameM.th I).tr hF.sm⟩
/-- what a flight lays on the page -/
def FyOut (I I' : IT) (c : Nat) : Prop := (∀ a, ((a ≤ 91 ∧ a ≠ 90) ∨ a = 98 ∨ a = 99 ∨ a = 101 ∨ a = 102) → I' a = I a) ∧ I' 90 2 = I 90 2 ∧ I' 90 21 = I 90 21 ∧ I' 90 18 = 0 ∧ I' 100 0 = 0 ∧ I' 100 1 = 0 ∧ (∀ j, 2 ≤ j → I' 100 j = I 100 j) ∧ I' 96 0 = nI c ∧ I' 96 1 = I 91 1 - 48 - 2 ∧ I' 96 2 = I 91 2 - 48 - 2 ∧ I' 90 4 = 10 * (I 91 3 - 48) + (I 91 4 - 48) ∧ I' 90 5 = I 91 5 - 48 ∧ ∀ k, k < 5 → I' 96 (3 + k) = (if k < c then I 91 (4 * k + 7) - 48 else 0) ∧ I' 96 (8 + k) = (if k < c then I 91 (4 * k + 8) - 48 - 2 else 0) ∧ I' 92 k = (if k < c then I 91 (4 * k + 9) - 48 else 0)
theorem s_mfly_loop {Po : Option Value → HS → Prop} {I : IT} {J : JT} {P : PT} {c : Nat} {Y B T : Nat → Int32} (h1 : I 90 7 = nI c) (hc5 : c ≤ 5) (hR : ∀ i, i < c → I 93 i = Y i ∧ I 94 i = B i ∧ I 95 i = T i) (hq : ∀ I', (∀ a j, (a ≠ 92 ∧ (a ≠ 96 ∨ j < 3)) → I' a j = I a j) → (∀ k, k < 5 → I' 96 (3 + k) = (if k < c then Y k else 0) ∧ I' 96 (8 + k) = (if k < c then B k else 0) ∧ I' 92 k = (if k < c then T k else 0)) → Po (some (.int (nI c))) (hp (u2 (u2 (u2 I' 90 18 0) 100 0 0) 100 1 0) J P)) : ∀ m k, k + m = 5 → ∀ I', (∀ a j, (a ≠ 92 ∧ (a ≠ 96 ∨ j < 3)) → I' a j = I a j) → (∀ i, i < k → I' 96 (3 + i) = (if i < c then Y i else 0) ∧ I' 96 (8 + i) = (if i < c then B i else 0) ∧ I' 92 i = (if i < c then T i else 0)) → xj yM_fly (mG yM_fly Po) 65 [some (.ref 90), some (.int (nI k))] [] (hp I' J P) 0 0 := by
  intro m
  induction m with
  | zero =>
    intro k hk I' hf ha
    obtain rfl : k = 5 := by omega
    refine x_iload_1 cM_fly_65 ?_
    refine x_iconst 5 (by decide) cM_fly_66 ?_
    refine x_icmp_ge cM_fly_67 (fun q67 => ?_) (fun q67 => absurd q67 (fun z => z (by decide)))
    refine x_aload_0 cM_fly_153 ?_
    refine x_iconst 0 (by decide) cM_fly_154 ?_
    refine x_pI cM_fly_155 fM_111 rfl rfl ?_
    refine x_aload_0 cM_fly_158 ?_
    refine x_gR (b := 100) cM_fly_159 fM_41 rfl rfl rfl ?_
    refine x_iconst 0 (by decide) cM_fly_162 ?_
    refine x_iconst 0 (by decide) cM_fly_163 ?_
    refine x_zs (0) cM_fly_164 rfl rfl (by decide) (by decide) rfl ?_
    refine x_aload_0 cM_fly_165 ?_
    refine x_gR (b := 100) cM_fly_166 fM_41 rfl rfl rfl ?_
    refine x_iconst 1 (by decide) cM_fly_169 ?_
    refine x_iconst 0 (by decide) cM_fly_170 ?_
    refine x_zs (1) cM_fly_171 rfl rfl (by decide) (by decide) rfl ?_
    refine x_aload_0 cM_fly_172 ?_
    refine x_gI cM_fly_173 fM_97 rfl rfl ?_
    refine x_top (nI c) (by rw [u2_n (by decide), u2_n (by decide), u2_sn (by decide), hf 90 7 (by omega)]; exact h1) ?_
    refine x_ireturn cM_fly_176 rfl rfl (Nat.zero_le _) (Nat.zero_le _) ?_
    exact hq I' hf ha
  | succ m ih =>
    intro k hk I' hf ha
    have ek : I' 90 7 = nI c := by rw [hf 90 7 (by omega)]; exact h1
    by_cases hkc : k < c
    · refine x_iload_1 cM_fly_65 ?_
      refine x_iconst 5 (by decide) cM_fly_66 ?_
      refine x_icmp_ge cM_fly_67 (fun q67 => absurd q67 (nI_ge (show k < 5 by omega) (by decide))) (fun q67 => ?_)
      refine x_aload_0 cM_fly_70 ?_
      refine x_gR (b := 96) cM_fly_71 fM_29 rfl rfl rfl ?_
      refine x_iconst 3 (by decide) cM_fly_74 ?_
      refine x_iload_1 cM_fly_75 ?_
      refine x_iadd cM_fly_76 ?_
      refine x_iload_1 cM_fly_77 ?_
      refine x_aload_0 cM_fly_78 ?_
      refine x_gI cM_fly_79 fM_97 rfl rfl ?_
      refine x_icmp_ge cM_fly_82 (fun q82 => absurd q82 (by skip; rw [ek]; exact nI_ge hkc (by omega))) (fun q82 => ?_)
      refine x_aload_0 cM_fly_85 ?_
      refine x_gR (b := 93) cM_fly_86 fM_20 rfl rfl rfl ?_
      refine x_iload_1 cM_fly_89 ?_
      refine x_al (k) cM_fly_90 rfl rfl (by omega) (by decide) ?_
      refine x_goto cM_fly_91 ?_
      refine x_as (3 + k) cM_fly_95 rfl (nI_add 3 k) (by omega) (by decide) ?_
      refine x_aload_0 cM_fly_96 ?_
      refine x_gR (b := 96) cM_fly_97 fM_29 rfl rfl rfl ?_
      refine x_bipush 8 (by decide) cM_fly_100 ?_
      refine x_iload_1 cM_fly_102 ?_
      refine x_iadd cM_fly_103 ?_
      refine x_iload_1 cM_fly_104 ?_
      refine x_aload_0 cM_fly_105 ?_
      refine x_gI cM_fly_106 fM_97 rfl rfl ?_
      refine x_icmp_ge cM_fly_109 (fun q109 => absurd q109 (by rw [u2_n (by decide)]; rw [ek]; exact nI_ge hkc (by omega))) (fun q109 => ?_)
      refine x_aload_0 cM_fly_112 ?_
      refine x_gR (b := 94) cM_fly_113 fM_23 rfl rfl rfl ?_
      refine x_iload_1 cM_fly_116 ?_
      refine x_al (k) cM_fly_117 rfl rfl (by omega) (by decide) ?_
      refine x_goto cM_fly_118 ?_
      refine x_as (8 + k) cM_fly_122 rfl (nI_add 8 k) (by omega) (by decide) ?_
      refine x_aload_0 cM_fly_123 ?_
      refine x_gR (b := 92) cM_fly_124 fM_17 rfl rfl rfl ?_
      refine x_iload_1 cM_fly_127 ?_
      refine x_iload_1 cM_fly_128 ?_
      refine x_aload_0 cM_fly_129 ?_
      refine x_gI cM_fly_130 fM_97 rfl rfl ?_
      refine x_icmp_ge cM_fly_133 (fun q133 => absurd q133 (by rw [u2_n (by decide), u2_n (by decide)]; rw [ek]; exact nI_ge hkc (by omega))) (fun q133 => ?_)
      refine x_aload_0 cM_fly_136 ?_
      refine x_gR (b := 95) cM_fly_137 fM_26 rfl rfl rfl ?_
      refine x_iload_1 cM_fly_140 ?_
      refine x_al (k) cM_fly_141 rfl rfl (by omega) (by decide) ?_
      refine x_goto cM_fly_142 ?_
      refine x_as (k) cM_fly_146 rfl rfl (by omega) (by decide) ?_
      refine x_iinc_1 (nI (k + 1)) cM_fly_147 rfl (nI_inc k) (Nat.le_of_ble_eq_true rfl) ?_
      refine x_goto cM_fly_150 ?_
      refine ih (k + 1) (by omega) _ (fun a j h => ?_) (fun i hi => ?_)
      · simp [u2_g, show ¬ (a = 96 ∧ j = 8 + k) by omega, show ¬ (a = 96 ∧ j = 3 + k) by omega, show ¬ (a = 92 ∧ j = k) by omega]
        exact hf a j (by omega)
      · rcases Nat.lt_or_ge i k with z | z
        · have := ha i z
          simp [u2_g, show ¬ 3 + i = 8 + k by omega, show ¬ 3 + i = 3 + k by omega, show ¬ 8 + i = 8 + k by omega, show ¬ 8 + i = 3 + k by omega, show ¬ i = k by omega]
          exact this
        · obtain rfl : k = i := by omega
          simp [u2_g, show ¬ 3 + k = 8 + k by omega, show ¬ 8 + k = 3 + k by omega, hkc]
          rw [hf 93 k (by omega), hf 94 k (by omega), hf 95 k (by omega)]
          exact hR k hkc
    · refine x_iload_1 cM_fly_65 ?_
      refine x_iconst 5 (by decide) cM_fly_66 ?_
      refine x_icmp_ge cM_fly_67 (fun q67 => absurd q67 (nI_ge (show k < 5 by omega) (by decide))) (fun q67 => ?_)
      refine x_aload_0 cM_fly_70 ?_
      refine x_gR (b := 96) cM_fly_71 fM_29 rfl rfl rfl ?_
      refine x_iconst 3 (by decide) cM_fly_74 ?_
      refine x_iload_1 cM_fly_75 ?_
      refine x_iadd cM_fly_76 ?_
      refine x_iload_1 cM_fly_77 ?_
      refine x_aload_0 cM_fly_78 ?_
      refine x_gI cM_fly_79 fM_97 rfl rfl ?_
      refine x_icmp_ge cM_fly_82 (fun q82 => ?_) (fun q82 => absurd q82 (fun z => z (by skip; rw [ek]; exact nI_le (by omega) (by omega))))
      refine x_iconst 0 (by decide) cM_fly_94 ?_
      refine x_as (3 + k) cM_fly_95 rfl (nI_add 3 k) (by omega) (by decide) ?_
      refine x_aload_0 cM_fly_96 ?_
      refine x_gR (b := 96) cM_fly_97 fM_29 rfl rfl rfl ?_
      refine x_bipush 8 (by decide) cM_fly_100 ?_
      refine x_iload_1 cM_fly_102 ?_
      refine x_iadd cM_fly_103 ?_
      refine x_iload_1 cM_fly_104 ?_
      refine x_aload_0 cM_fly_105 ?_
      refine x_gI cM_fly_106 fM_97 rfl rfl ?_
      refine x_icmp_ge cM_fly_109 (fun q109 => ?_) (fun q109 => absurd q109 (fun z => z (by rw [u2_n (by decide)]; rw [ek]; exact nI_le (by omega) (by omega))))
      refine x_iconst 0 (by decide) cM_fly_121 ?_
      refine x_as (8 + k) cM_fly_122 rfl (nI_add 8 k) (by omega) (by decide) ?_
      refine x_aload_0 cM_fly_123 ?_
      refine x_gR (b := 92) cM_fly_124 fM_17 rfl rfl rfl ?_
      refine x_iload_1 cM_fly_127 ?_
      refine x_iload_1 cM_fly_128 ?_
      refine x_aload_0 cM_fly_129 ?_
      refine x_gI cM_fly_130 fM_97 rfl rfl ?_
      refine x_icmp_ge cM_fly_133 (fun q133 => ?_) (fun q133 => absurd q133 (fun z => z (by rw [u2_n (by decide), u2_n (by decide)]; rw [ek]; exact nI_le (by omega) (by omega))))
      refine x_iconst 0 (by decide) cM_fly_145 ?_
      refine x_as (k) cM_fly_146 rfl rfl (by omega) (by decide) ?_
      refine x_iinc_1 (nI (k + 1)) cM_fly_147 rfl (nI_inc k) (Nat.le_of_ble_eq_true rfl) ?_
      refine x_goto cM_fly_150 ?_
      refine ih (k + 1) (by omega) _ (fun a j h => ?_) (fun i hi => ?_)
      · simp [u2_g, show ¬ (a = 96 ∧ j = 8 + k) by omega, show ¬ (a = 96 ∧ j = 3 + k) by omega, show ¬ (a = 92 ∧ j = k) by omega]
        exact hf a j (by omega)
      · rcases Nat.lt_or_ge i k with z | z
        · have := ha i z
          simp [u2_g, show ¬ 3 + i = 8 + k by omega, show ¬ 3 + i = 3 + k by omega, show ¬ 8 + i = 8 + k by omega, show ¬ 8 + i = 3 + k by omega, show ¬ i = k by omega]
          exact this
        · obtain rfl : k = i := by omega
          simp [u2_g, show ¬ 3 + k = 8 + k by omega, show ¬ 8 + k = 3 + k by omega, hkc]
theorem m_fly {Po : Option Value → HS → Prop} {I : IT} {J : JT} {P : PT} {n : Nat} (hn : I 90 2 = nI n) (hn2 : n ≤ 32) (hB : Byt (I 91) n) (hq : ∀ (r : Int32) (I' : IT), ((¬ ((∀ j, j < n → okL (I 91) j) ∧ ended n) → r = -3 ∧ SameM I I') ∧ (((∀ j, j < n → okL (I 91) j) ∧ ended n) → n ≤ 26 → r = nI ((n - 6) / 4) ∧ FyOut I I' ((n - 6) / 4))) → Po (some (.int r)) (hp I' J P)) : xj yM_fly (mG yM_fly Po) 0 [some (.ref 90), none] [] (hp I J P) 0 0 := by
  refine x_aload_0 cM_fly_0 ?_
  refine x_iconst 0 (by decide) cM_fly_1 ?_
  refine x_pI cM_fly_2 fM_66 rfl rfl ?_
  refine x_aload_0 cM_fly_5 ?_
  refine x_v0 (ls0 := [some _, none, none, none]) cM_fly_6 kM_104 okM_readString ⟨(Nat.le_of_ble_eq_true rfl), (Nat.le_of_ble_eq_true rfl)⟩ (Nat.le_of_ble_eq_true rfl) rfl (Nat.le_of_ble_eq_true rfl) rfl ⟨_, rfl, rfl⟩ rfl rfl (Nat.zero_le _) (Nat.zero_le _) ?_
  refine s_readString (n := n) (by rw [u2_sn (by decide)]; exact hn) hn2 (by rw [u2_n (show 91 ≠ 90 by decide)]; exact hB) (fun k I1 e6 ek ha hR => ?_) (fun p I1 hp1 hp2 hp3 hp4 hF => ?_)
  · dsimp only [pushR]
    rw [u2_n (show 91 ≠ 90 by decide)] at ha
    refine x_bipush (-9) (by decide) cM_fly_9 ?_
    refine x_icmp_eq cM_fly_11 (fun q11 => ?_) (fun q11 => absurd q11 (fun z => z rfl))
    refine x_aload_0 cM_fly_17 ?_
    refine x_gR (b := 96) cM_fly_18 fM_29 rfl rfl rfl ?_
    refine x_iconst 0 (by decide) cM_fly_21 ?_
    refine x_aload_0 cM_fly_22 ?_
    refine x_gI cM_fly_23 fM_97 rfl rfl ?_
    refine x_as (0) cM_fly_26 rfl rfl (by decide) (by decide) ?_
    refine x_aload_0 cM_fly_27 ?_
    refine x_gR (b := 96) cM_fly_28 fM_29 rfl rfl rfl ?_
    refine x_iconst 1 (by decide) cM_fly_31 ?_
    refine x_aload_0 cM_fly_32 ?_
    refine x_gI cM_fly_33 fM_85 rfl rfl ?_
    refine x_as (1) cM_fly_36 rfl rfl (by decide) (by decide) ?_
    refine x_aload_0 cM_fly_37 ?_
    refine x_gR (b := 96) cM_fly_38 fM_29 rfl rfl rfl ?_
    refine x_iconst 2 (by decide) cM_fly_41 ?_
    refine x_aload_0 cM_fly_42 ?_
    refine x_gI cM_fly_43 fM_88 rfl rfl ?_
    refine x_as (2) cM_fly_46 rfl rfl (by decide) (by decide) ?_
    refine x_aload_0 cM_fly_47 ?_
    refine x_aload_0 cM_fly_48 ?_
    refine x_gI cM_fly_49 fM_91 rfl rfl ?_
    refine x_pI cM_fly_52 fM_108 rfl rfl ?_
    refine x_aload_0 cM_fly_55 ?_
    refine x_aload_0 cM_fly_56 ?_
    refine x_gI cM_fly_57 fM_94 rfl rfl ?_
    refine x_pI cM_fly_60 fM_13 rfl rfl ?_
    refine x_iconst 0 (by decide) cM_fly_63 ?_
    refine x_istore_1 cM_fly_64 rfl (Nat.le_of_ble_eq_true rfl) ?_
    obtain ⟨r1, r2, r3, r4, r5, r6, r7⟩ := hR
    rw [u2_n (show 91 ≠ 90 by decide)] at r3 r4 r5 r6 r7
    refine s_mfly_loop (c := k) (Y := fun k => I 91 (4 * k + 7) - 48) (B := fun k => I 91 (4 * k + 8) - 48 - 2) (T := fun k => I 91 (4 * k + 9) - 48) ?_ ek (fun i hi => ?_) (fun I2 hf h5 => ?_) 5 0 (by decide) _ (fun _ _ _ => rfl) (fun i hi => absurd hi (Nat.not_lt_zero i))
    · simp [u2_g]; exact r2
    · simp [u2_g]; exact r7 i hi
    · obtain rfl : k = (n - 6) / 4 := by omega
      refine hq _ _ ⟨fun z => absurd ⟨ha, rd_ended e6⟩ z, fun _ _ => ⟨rfl, fun a ha => ?_, ?_, ?_, ?_, ?_, ?_, ?_, ?_, ?_, ?_, ?_, ?_, ?_⟩⟩
      · funext j
        rw [u2_n (by omega), u2_n (by omega), u2_n (by omega), hf a j (by omega)]
        rw [u2_n (by omega), u2_n (by omega), u2_n (by omega), u2_n (by omega), u2_n (by omega), r1.1 a (by omega) (by omega) (by omega) (by omega), u2_n (by omega)]
      · simp [u2_g]; rw [hf 90 2 (by omega)]; simp [u2_g]; rw [r1.2 2 (by decide) (by decide) (by decide) (by decide) (by decide) (by decide), u2_sn (by decide)]
      · simp [u2_g]; rw [hf 90 21 (by omega)]; simp [u2_g]; rw [r1.2 21 (by decide) (by decide) (by decide) (by decide) (by decide) (by decide), u2_sn (by decide)]
      · simp [u2_g]
      · simp [u2_g]
      · simp [u2_g]
      · intro j hj
        rw [u2_sn (by omega), u2_sn (by omega), u2_n (by omega), hf 100 j (by omega)]
        rw [u2_n (by omega), u2_n (by omega), u2_n (by omega), u2_n (by omega), u2_n (by omega), r1.1 100 (by omega) (by omega) (by omega) (by omega), u2_n (by omega)]
      · simp [u2_g]; rw [hf 96 0 (by omega)]; simp [u2_g]; exact r2
      · simp [u2_g]; rw [hf 96 1 (by omega)]; simp [u2_g]; exact r3
      · simp [u2_g]; rw [hf 96 2 (by omega)]; simp [u2_g]; exact r4
      · simp [u2_g]; rw [hf 90 4 (by omega)]; simp [u2_g]; exact r5
      · simp [u2_g]; rw [hf 90 5 (by omega)]; simp [u2_g]; exact r6
      · intro i hi
        rw [u2_n (show 96 ≠ 100 by decide), u2_n (show 96 ≠ 100 by decide), u2_n (show 96 ≠ 90 by decide), u2_n (show 92 ≠ 100 by decide), u2_n (show 92 ≠ 100 by decide), u2_n (show 92 ≠ 90 by decide)]
        exact h5 i hi
  · dsimp only [pushR]
    rw [u2_n (show 91 ≠ 90 by decide)] at hp2 hp4
    refine x_bipush (-9) (by decide) cM_fly_9 ?_
    refine x_icmp_eq cM_fly_11 (fun q11 => absurd q11 (nI_n9 (by omega))) (fun q11 => ?_)
    refine x_bipush (-3) (by decide) cM_fly_14 ?_
    refine x_ireturn cM_fly_16 rfl rfl (Nat.zero_le _) (Nat.zero_le _) ?_
    exact hq _ _ ⟨fun _ => ⟨rfl, (SameM.th I).tr hF.sm⟩, fun z => absurd z (rd_bad hp1 hp2 hp3)⟩
