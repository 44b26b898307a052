/-- what the model's note leaves -/
def NtOut (I I' : IT) (n : Nat) : Prop := (∀ a, a ≠ 90 → a ≠ 98 → I' a = I a) ∧ (∀ j, j ≠ 0 → j ≠ 18 → I' 90 j = I 90 j) ∧ ∃ m, ((n < 14 ∧ m = n ∧ ∀ i, i < 13 * n → I' 98 i = I 98 i) ∨ (n = 14 ∧ m = 13 ∧ ∀ i, i < 169 → I' 98 i = I 98 (i + 13))) ∧ I' 90 18 = nI (m + 1) ∧ ∀ j, j < 13 → I' 98 (13 * m + j) = I 96 j
theorem NtOut.th {I I' : IT} {n : Nat} (h : NtOut (u2 I 90 0 0) I' n) : NtOut I I' n := by
  obtain ⟨h1, h2, m, h3, h4, h5⟩ := h
  refine ⟨fun a a1 a2 => by rw [h1 a a1 a2, u2_n a1], fun j j1 j2 => by rw [h2 j j1 j2, u2_sn j1], m, ?_, h4, h5⟩
  rw [u2_n (show 98 ≠ 90 by decide)] at h3
  exact h3
theorem s_note_copy {Po : Option Value → HS → Prop} {I : IT} {J : JT} {P : PT} {m : Nat} (hm : m ≤ 13) (h18 : I 90 18 = nI m) (hq : ∀ I', (∀ a, a ≠ 90 → a ≠ 98 → I' a = I a) → (∀ j, j ≠ 18 → I' 90 j = I 90 j) → I' 90 18 = nI (m + 1) → (∀ i, i < 13 * m → I' 98 i = I 98 i) → (∀ j, j < 13 → I' 98 (13 * m + j) = I 96 j) → Po none (hp I' J P)) : ∀ n k, k + n = 13 → ∀ I', (∀ a, a ≠ 98 → I' a = I a) → (∀ i, i < 13 * m → I' 98 i = I 98 i) → (∀ j, j < k → I' 98 (13 * m + j) = I 96 j) → xj yM_note (mG yM_note Po) 51 [some (.ref 90), some (.int (nI k))] [] (hp I' J P) 0 0 := by
  intro n
  induction n with
  | zero =>
    intro k hk I' hf hl ha
    obtain rfl : k = 13 := by omega
    refine x_iload_1 cM_note_51 ?_
    refine x_bipush 13 (by decide) cM_note_52 ?_
    refine x_icmp_ge cM_note_54 (fun q54 => ?_) (fun q54 => absurd q54 (fun z => z (by decide)))
    refine x_aload_0 cM_note_83 ?_
    refine x_dup rfl cM_note_84 ?_
    refine x_gI cM_note_85 fM_111 rfl rfl ?_
    refine x_iconst 1 (by decide) cM_note_88 ?_
    refine x_iadd cM_note_89 ?_
    refine x_top (nI (m + 1)) (by rw [hf 90 (by decide), h18, nI_1]) ?_
    refine x_pI cM_note_90 fM_111 rfl rfl ?_
    refine x_return cM_note_93 rfl (Nat.zero_le _) (Nat.zero_le _) ?_
    exact hq _ (fun a a1 a2 => by rw [u2_n a1]; exact hf a a2) (fun j hj => by rw [u2_sn hj, hf 90 (by decide)]) (by rw [u2_ss]) (fun i hi => by rw [u2_n (by decide)]; exact hl i hi) (fun j hj => by rw [u2_n (by decide)]; exact ha j hj)
  | succ n ih =>
    intro k hk I' hf hl ha
    have hk13 : k < 13 := by omega
    refine x_iload_1 cM_note_51 ?_
    refine x_bipush 13 (by decide) cM_note_52 ?_
    refine x_icmp_ge cM_note_54 (fun q54 => absurd q54 (nI_ge hk13 (by decide))) (fun q54 => ?_)
    refine x_aload_0 cM_note_57 ?_
    refine x_gR (b := 98) cM_note_58 fM_35 rfl rfl rfl ?_
    refine x_bipush 13 (by decide) cM_note_61 ?_
    refine x_aload_0 cM_note_63 ?_
    refine x_gI cM_note_64 fM_111 rfl rfl ?_
    refine x_imul cM_note_67 ?_
    refine x_top (nI (13 * m)) (by rw [hf 90 (by decide), h18]; exact pk_mul 13 m) ?_
    refine x_iload_1 cM_note_68 ?_
    refine x_iadd cM_note_69 ?_
    refine x_top (nI (13 * m + k)) (by exact nI_add (13 * m) k) ?_
    refine x_aload_0 cM_note_70 ?_
    refine x_gR (b := 96) cM_note_71 fM_29 rfl rfl rfl ?_
    refine x_iload_1 cM_note_74 ?_
    refine x_al (k) cM_note_75 rfl rfl (by omega) (by decide) ?_
    rw [hf 96 (by decide)]
    refine x_as (13 * m + k) cM_note_76 rfl rfl (by omega) (by decide) ?_
    refine x_iinc_1 (nI (k + 1)) cM_note_77 rfl (nI_inc k) (Nat.le_of_ble_eq_true rfl) ?_
    refine x_goto cM_note_80 ?_
    refine ih (k + 1) (by omega) _ (fun a h => by rw [u2_n h]; exact hf a h) (fun i hi => by rw [u2_sn (by omega)]; exact hl i hi) (fun j hj => ?_)
    rcases Nat.lt_or_ge j k with z | z
    · rw [u2_sn (by omega)]; exact ha j z
    · obtain rfl : j = k := by omega
      rw [u2_ss]
theorem s_note_shift {Po : Option Value → HS → Prop} {I : IT} {J : JT} {P : PT} (hq : ∀ I', (∀ a, a ≠ 98 → I' a = I a) → (∀ i, i < 169 → I' 98 i = I 98 (i + 13)) → xj yM_note (mG yM_note Po) 39 [some (.ref 90), some (.int (nI 169))] [] (hp I' J P) 0 0) : ∀ n k, k + n = 169 → ∀ I', (∀ a, a ≠ 98 → I' a = I a) → (∀ i, i < k → I' 98 i = I 98 (i + 13)) → (∀ i, k ≤ i → I' 98 i = I 98 i) → xj yM_note (mG yM_note Po) 11 [some (.ref 90), some (.int (nI k))] [] (hp I' J P) 0 0 := by
  intro n
  induction n with
  | zero =>
    intro k hk I' hf hl ha
    obtain rfl : k = 169 := by omega
    refine x_iload_1 cM_note_11 ?_
    refine x_sipush 169 (by decide) cM_note_12 ?_
    refine x_icmp_ge cM_note_15 (fun q15 => ?_) (fun q15 => absurd q15 (fun z => z (by decide)))
    exact hq I' hf hl
  | succ n ih =>
    intro k hk I' hf hl ha
    have hk13 : k < 169 := by omega
    refine x_iload_1 cM_note_11 ?_
    refine x_sipush 169 (by decide) cM_note_12 ?_
    refine x_icmp_ge cM_note_15 (fun q15 => absurd q15 (nI_ge hk13 (by decide))) (fun q15 => ?_)
    refine x_aload_0 cM_note_18 ?_
    refine x_gR (b := 98) cM_note_19 fM_35 rfl rfl rfl ?_
    refine x_iload_1 cM_note_22 ?_
    refine x_aload_0 cM_note_23 ?_
    refine x_gR (b := 98) cM_note_24 fM_35 rfl rfl rfl ?_
    refine x_iload_1 cM_note_27 ?_
    refine x_bipush 13 (by decide) cM_note_28 ?_
    refine x_iadd cM_note_30 ?_
    refine x_al (k + 13) cM_note_31 rfl (nI_add k 13) (by omega) (by decide) ?_
    rw [ha (k + 13) (by omega)]
    refine x_as (k) cM_note_32 rfl rfl (by omega) (by decide) ?_
    refine x_iinc_1 (nI (k + 1)) cM_note_33 rfl (nI_inc k) (Nat.le_of_ble_eq_true rfl) ?_
    refine x_goto cM_note_36 ?_
    refine ih (k + 1) (by omega) _ (fun a h => by rw [u2_n h]; exact hf a h) (fun i hi => ?_) (fun i hi => by rw [u2_sn (by omega)]; exact ha i (by omega))
    rcases Nat.lt_or_ge i k with z | z
    · rw [u2_sn (by omega)]; exact hl i z
    · obtain rfl : i = k := by omega
      rw [u2_ss]
theorem s_note {Po : Option Value → HS → Prop} {I : IT} {J : JT} {P : PT} {n : Nat} (hn : I 90 18 = nI n) (hn14 : n ≤ 14) (hq : ∀ I', NtOut I I' n → Po none (hp I' J P)) : xj yM_note (mG yM_note Po) 0 [some (.ref 90), none] [] (hp I J P) 0 0 := by
  refine x_aload_0 cM_note_0 ?_
  refine x_gI cM_note_1 fM_111 rfl rfl ?_
  refine x_bipush 14 (by decide) cM_note_4 ?_
  refine x_icmp_ne cM_note_6 (fun q6 => ?_) (fun q6 => ?_)
  · have hlt : n < 14 := Nat.lt_of_le_of_ne hn14 (fun z => q6 (by rw [hn, z]; rfl))
    refine x_iconst 0 (by decide) cM_note_49 ?_
    refine x_istore_1 cM_note_50 rfl (Nat.le_of_ble_eq_true rfl) ?_
    exact s_note_copy (m := n) (by omega) hn (fun I1 a1 a2 a3 a4 a5 => hq _ ⟨a1, fun j _ hj => a2 j hj, n, Or.inl ⟨hlt, rfl, a4⟩, a3, a5⟩) 13 0 (by decide) _ (fun _ _ => rfl) (fun _ _ => rfl) (fun j hj => absurd hj (Nat.not_lt_zero j))
  · have he : n = 14 := by
      rw [hn] at q6
      exact (nI_eq (b := 14) (by omega) (by decide)).mp q6
    refine x_iconst 0 (by decide) cM_note_9 ?_
    refine x_istore_1 cM_note_10 rfl (Nat.le_of_ble_eq_true rfl) ?_
    refine s_note_shift (I := I) (fun I1 b1 b2 => ?_) 169 0 (by decide) _ (fun _ _ => rfl) (fun i hi => absurd hi (Nat.not_lt_zero i)) (fun _ _ => rfl)
    refine x_aload_0 cM_note_39 ?_
    refine x_dup rfl cM_note_40 ?_
    refine x_gI cM_note_41 fM_111 rfl rfl ?_
    refine x_iconst 1 (by decide) cM_note_44 ?_
    refine x_isub cM_note_45 ?_
    refine x_top (nI 13) (by rw [b1 90 (by decide), hn, he]; rfl) ?_
    refine x_pI cM_note_46 fM_111 rfl rfl ?_
    refine x_iconst 0 (by decide) cM_note_49 ?_
    refine x_istore_1 cM_note_50 rfl (Nat.le_of_ble_eq_true rfl) ?_
    exact s_note_copy (m := 13) (by decide) (by rw [u2_ss]) (fun I2 a1 a2 a3 a4 a5 => hq _ ⟨fun a x1 x2 => by rw [a1 a x1 x2, u2_n x1, b1 a x2], fun j _ hj => by rw [a2 j hj, u2_sn hj, b1 90 (by decide)], 13, Or.inr ⟨he, rfl, fun i hi => by rw [a4 i hi, u2_n (by decide)]; exact b2 i hi⟩, a3, fun j hj => by rw [a5 j hj, u2_n (by decide), b1 96 (by decide)]⟩) 13 0 (by decide) _ (fun _ _ => rfl) (fun _ _ => rfl) (fun j hj => absurd hj (Nat.not_lt_zero j))
def RLetOutM (I I' : IT) (c n : Nat) (i d r : Int32) : Prop :=
  ((¬ ∃ j, j < c ∧ i = nI j) → r = -1 ∧ SameM I I') ∧ ∀ j, j < c → i = nI j →
    ((d = 0 ∨ ¬ (-9 ≤ d ∧ d ≤ 9)) → r = -2 ∧ SameM I I') ∧ (¬ (d = 0 ∨ ¬ (-9 ≤ d ∧ d ≤ 9)) →
      (¬ (1 ≤ I 96 (3 + j) + d ∧ I 96 (3 + j) + d ≤ 30) → r = -3 ∧ SameM I I') ∧ ((1 ≤ I 96 (3 + j) + d ∧ I 96 (3 + j) + d ≤ 30) → r = I 96 (3 + j) + d ∧ ∃ I1, NtOut I I1 n ∧ I' = u2 I1 96 (3 + j) (I 96 (3 + j) + d)))
def RSetM (I I' : IT) (c n : Nat) (i d r : Int32) : Prop :=
  ((¬ ∃ j, j < c ∧ i = nI j) → r = -1 ∧ SameM I I') ∧ ∀ j, j < c → i = nI j →
    (¬ (-2 ≤ d ∧ d ≤ 2) → r = -2 ∧ SameM I I') ∧ ((-2 ≤ d ∧ d ≤ 2) →
      (I 96 (8 + j) = d → r = -3 ∧ SameM I I') ∧ (¬ I 96 (8 + j) = d → r = I 96 (8 + j) + 2 ∧ ∃ I1, NtOut I I1 n ∧ I' = u2 I1 96 (8 + j) d))
def RCutM (I I' : IT) (c n : Nat) (i r : Int32) : Prop :=
  ((¬ ∃ j, j < c ∧ i = nI j) → r = -1 ∧ SameM I I') ∧ ∀ j, j < c → i = nI j → r = nI j ∧ ∃ I1, NtOut I I1 n ∧ I' = u2 I1 96 0 (nI j)
def RTurnM (I I' : IT) (n : Nat) (l h r : Int32) : Prop :=
  (¬ ((-2 ≤ l ∧ l ≤ 2) ∧ (-2 ≤ h ∧ h ≤ 2)) → r = -2 ∧ SameM I I') ∧ (((-2 ≤ l ∧ l ≤ 2) ∧ (-2 ≤ h ∧ h ≤ 2)) →
    ((l = I 96 1 ∧ h = I 96 2) → r = -3 ∧ SameM I I') ∧ (¬ (l = I 96 1 ∧ h = I 96 2) → r = 10 * (I 96 1 + 2) + I 96 2 + 2 ∧ ∃ I1, NtOut I I1 n ∧ I' = u2 (u2 I1 96 1 l) 96 2 h))
def RUndoM (I I' : IT) (n : Nat) (r : Int32) : Prop := (n = 0 → r = -3 ∧ SameM I I') ∧ ∀ m, n = m + 1 → r = nI m ∧ (∀ a, a ≠ 90 → a ≠ 96 → I' a = I a) ∧ (∀ j, j ≠ 0 → j ≠ 18 → I' 90 j = I 90 j) ∧ I' 90 18 = nI m ∧ ∀ j, j < 13 → I' 96 j = I 98 (13 * m + j)
theorem m_letOut {Po : Option Value → HS → Prop} {I : IT} {J : JT} {P : PT} {c n : Nat} {i d : Int32} (hc : I 96 0 = nI c) (hc5 : c ≤ 5) (hn : I 90 18 = nI n) (hn14 : n ≤ 14) (hq : ∀ (r : Int32) (I' : IT), (RLetOutM I I' c n i d r) → Po (some (.int r)) (hp I' J P)) : xj yM_letOut (mG yM_letOut Po) 0 [some (.ref 90), some (.int i), some (.int d)] [] (hp I J P) 0 0 := by
  refine x_aload_0 cM_letOut_0 ?_
  refine x_iconst 0 (by decide) cM_letOut_1 ?_
  refine x_pI cM_letOut_2 fM_66 rfl rfl ?_
  refine x_aload_0 cM_letOut_5 ?_
  refine x_iload_1 cM_letOut_6 ?_
  refine x_v1 (ls0 := [some _, some _]) cM_letOut_7 kM_134 okM_noKite ⟨(Nat.le_of_ble_eq_true rfl), (Nat.le_of_ble_eq_true rfl)⟩ (Nat.le_of_ble_eq_true rfl) rfl (Nat.le_of_ble_eq_true rfl) rfl ⟨_, rfl, rfl⟩ rfl rfl (Nat.zero_le _) (Nat.zero_le _) ?_
  refine s_noKite (by rw [u2_n (by decide)]; exact hc) hc5 (fun hno => ?_) (fun j hj ej => ?_)
  · dsimp only [pushR]
    refine x_if_eq cM_letOut_10 (fun q => absurd q (by decide)) (fun _ => ?_)
    refine x_iconst (-1) (by decide) cM_letOut_13 ?_
    refine x_ireturn cM_letOut_14 rfl rfl (Nat.zero_le _) (Nat.zero_le _) ?_
    exact hq _ _ ⟨fun _ => ⟨rfl, SameM.th I⟩, fun j hj e => absurd ⟨j, hj, e⟩ hno⟩
  · dsimp only [pushR]
    subst ej
    refine x_if_eq cM_letOut_10 (fun _ => ?_) (fun q => absurd rfl q)
    refine x_iload_2 cM_letOut_15 ?_
    refine x_i2l cM_letOut_16 ?_
    refine x_ldc2 cM_letOut_17 qM_138 ?_
    refine x_ldc2 cM_letOut_20 qM_140 ?_
    refine x_s3 (ls0 := [some _, none, some _, none, some _, none]) cM_letOut_23 kM_69 okM_in ⟨(Nat.le_of_ble_eq_true rfl), (Nat.le_of_ble_eq_true rfl)⟩ (Nat.le_of_ble_eq_true rfl) rfl (Nat.le_of_ble_eq_true rfl) rfl rfl (Nat.zero_le _) (Nat.zero_le _) ?_
    refine s_in (a := -9) (b := 9) (by decide) (by decide) (fun hr => ?_) (fun hr => ?_)
    · dsimp only [pushR]
      refine x_if_eq cM_letOut_26 (fun q => absurd q (by decide)) (fun _ => ?_)
      refine x_iload_2 cM_letOut_29 ?_
      refine x_if_ne cM_letOut_30 (fun q30 => ?_) (fun q30 => ?_)
      · refine x_aload_0 cM_letOut_36 ?_
        refine x_gR (b := 96) cM_letOut_37 fM_29 rfl rfl rfl ?_
        refine x_iconst 3 (by decide) cM_letOut_40 ?_
        refine x_iload_1 cM_letOut_41 ?_
        refine x_iadd cM_letOut_42 ?_
        refine x_al (3 + j) cM_letOut_43 rfl (nI_add 3 j) (by omega) (by decide) ?_
        refine x_iload_2 cM_letOut_44 ?_
        refine x_iadd cM_letOut_45 ?_
        refine x_i2l cM_letOut_46 ?_
        refine x_lconst 1 (by decide) cM_letOut_47 ?_
        refine x_ldc2 cM_letOut_48 qM_142 ?_
        refine x_s3 (ls0 := [some _, none, some _, none, some _, none]) cM_letOut_51 kM_69 okM_in ⟨(Nat.le_of_ble_eq_true rfl), (Nat.le_of_ble_eq_true rfl)⟩ (Nat.le_of_ble_eq_true rfl) rfl (Nat.le_of_ble_eq_true rfl) rfl rfl (Nat.zero_le _) (Nat.zero_le _) ?_
        rw [u2_n (show 96 ≠ 90 by decide)]
        refine s_in (a := 1) (b := 30) (by decide) (by decide) (fun hy => ?_) (fun hy => ?_)
        · dsimp only [pushR]
          refine x_if_ne cM_letOut_54 (fun _ => ?_) (fun q => absurd q (by decide))
          refine x_aload_0 cM_letOut_60 ?_
          refine x_v0 (ls0 := [some _, none]) cM_letOut_61 kM_144 okM_note ⟨(Nat.le_of_ble_eq_true rfl), (Nat.le_of_ble_eq_true rfl)⟩ (Nat.le_of_ble_eq_true rfl) rfl (Nat.le_of_ble_eq_true rfl) rfl ⟨_, rfl, rfl⟩ rfl rfl (Nat.zero_le _) (Nat.zero_le _) ?_
          refine s_note (n := n) (by rw [u2_sn (by decide)]; exact hn) hn14 (fun I1 hN0 => ?_)
          have hN : NtOut I I1 n := hN0.th
          have e96 : I1 96 = I 96 := hN.1 96 (by decide) (by decide)
          dsimp only [pushR]
          refine x_aload_0 cM_letOut_64 ?_
          refine x_gR (b := 96) cM_letOut_65 fM_29 rfl rfl rfl ?_
          refine x_iconst 3 (by decide) cM_letOut_68 ?_
          refine x_iload_1 cM_letOut_69 ?_
          refine x_iadd cM_letOut_70 ?_
          refine x_dup2 rfl rfl cM_letOut_71 ?_
          refine x_al (3 + j) cM_letOut_72 rfl (nI_add 3 j) (by omega) (by decide) ?_
          rw [e96]
          refine x_iload_2 cM_letOut_73 ?_
          refine x_iadd cM_letOut_74 ?_
          refine x_as (3 + j) cM_letOut_75 rfl (nI_add 3 j) (by omega) (by decide) ?_
          refine x_aload_0 cM_letOut_76 ?_
          refine x_gR (b := 96) cM_letOut_77 fM_29 rfl rfl rfl ?_
          refine x_iconst 3 (by decide) cM_letOut_80 ?_
          refine x_iload_1 cM_letOut_81 ?_
          refine x_iadd cM_letOut_82 ?_
          refine x_al (3 + j) cM_letOut_83 rfl (nI_add 3 j) (by omega) (by decide) ?_
          rw [u2_ss]
          refine x_ireturn cM_letOut_84 rfl rfl (Nat.zero_le _) (Nat.zero_le _) ?_
          refine hq _ _ ⟨fun z => absurd ⟨j, hj, rfl⟩ z, fun k hk ek => ?_⟩
          obtain rfl := (nI_one hc5 hj rfl hk ek).symm
          exact ⟨fun z => absurd z (fun w => w.elim q30 (fun v => v hr)), fun _ => ⟨fun z => absurd hy z, fun _ => ⟨rfl, I1, hN, rfl⟩⟩⟩
        · dsimp only [pushR]
          refine x_if_ne cM_letOut_54 (fun q => absurd rfl q) (fun _ => ?_)
          refine x_bipush (-3) (by decide) cM_letOut_57 ?_
          refine x_ireturn cM_letOut_59 rfl rfl (Nat.zero_le _) (Nat.zero_le _) ?_
          refine hq _ _ ⟨fun z => absurd ⟨j, hj, rfl⟩ z, fun k hk ek => ?_⟩
          obtain rfl := (nI_one hc5 hj rfl hk ek).symm
          exact ⟨fun z => absurd z (fun w => w.elim q30 (fun v => v hr)), fun _ => ⟨fun _ => ⟨rfl, SameM.th I⟩, fun z => absurd z hy⟩⟩
      · refine x_bipush (-2) (by decide) cM_letOut_33 ?_
        refine x_ireturn cM_letOut_35 rfl rfl (Nat.zero_le _) (Nat.zero_le _) ?_
        refine hq _ _ ⟨fun z => absurd ⟨j, hj, rfl⟩ z, fun k hk ek => ?_⟩
        obtain rfl := (nI_one hc5 hj rfl hk ek).symm
        exact ⟨fun _ => ⟨rfl, SameM.th I⟩, fun z => absurd (Or.inl (by simpa using q30)) z⟩
    · dsimp only [pushR]
      refine x_if_eq cM_letOut_26 (fun _ => ?_) (fun q => absurd rfl q)
      refine x_bipush (-2) (by decide) cM_letOut_33 ?_
      refine x_ireturn cM_letOut_35 rfl rfl (Nat.zero_le _) (Nat.zero_le _) ?_
      refine hq _ _ ⟨fun z => absurd ⟨j, hj, rfl⟩ z, fun k hk ek => ?_⟩
      obtain rfl := (nI_one hc5 hj rfl hk ek).symm
      exact ⟨fun _ => ⟨rfl, SameM.th I⟩, fun z => absurd (Or.inr hr) z⟩
theorem m_set {Po : Option Value → HS → Prop} {I : IT} {J : JT} {P : PT} {c n : Nat} {i d : Int32} (hc : I 96 0 = nI c) (hc5 : c ≤ 5) (hn : I 90 18 = nI n) (hn14 : n ≤ 14) (hq : ∀ (r : Int32) (I' : IT), (RSetM I I' c n i d r) → Po (some (.int r)) (hp I' J P)) : xj yM_set (mG yM_set Po) 0 [some (.ref 90), some (.int i), some (.int d), none] [] (hp I J P) 0 0 := by
  refine x_aload_0 cM_set_0 ?_
  refine x_iconst 0 (by decide) cM_set_1 ?_
  refine x_pI cM_set_2 fM_66 rfl rfl ?_
  refine x_aload_0 cM_set_5 ?_
  refine x_iload_1 cM_set_6 ?_
  refine x_v1 (ls0 := [some _, some _]) cM_set_7 kM_134 okM_noKite ⟨(Nat.le_of_ble_eq_true rfl), (Nat.le_of_ble_eq_true rfl)⟩ (Nat.le_of_ble_eq_true rfl) rfl (Nat.le_of_ble_eq_true rfl) rfl ⟨_, rfl, rfl⟩ rfl rfl (Nat.zero_le _) (Nat.zero_le _) ?_
  refine s_noKite (by rw [u2_n (by decide)]; exact hc) hc5 (fun hno => ?_) (fun j hj ej => ?_)
  · dsimp only [pushR]
    refine x_if_eq cM_set_10 (fun q => absurd q (by decide)) (fun _ => ?_)
    refine x_iconst (-1) (by decide) cM_set_13 ?_
    refine x_ireturn cM_set_14 rfl rfl (Nat.zero_le _) (Nat.zero_le _) ?_
    exact hq _ _ ⟨fun _ => ⟨rfl, SameM.th I⟩, fun j hj e => absurd ⟨j, hj, e⟩ hno⟩
  · dsimp only [pushR]
    subst ej
    refine x_if_eq cM_set_10 (fun _ => ?_) (fun q => absurd rfl q)
    refine x_iload_2 cM_set_15 ?_
    refine x_i2l cM_set_16 ?_
    refine x_ldc2 cM_set_17 qM_147 ?_
    refine x_ldc2 cM_set_20 qM_149 ?_
    refine x_s3 (ls0 := [some _, none, some _, none, some _, none]) cM_set_23 kM_69 okM_in ⟨(Nat.le_of_ble_eq_true rfl), (Nat.le_of_ble_eq_true rfl)⟩ (Nat.le_of_ble_eq_true rfl) rfl (Nat.le_of_ble_eq_true rfl) rfl rfl (Nat.zero_le _) (Nat.zero_le _) ?_
    refine s_in (a := -2) (b := 2) (by decide) (by decide) (fun hr => ?_) (fun hr => ?_)
    · dsimp only [pushR]
      refine x_if_ne cM_set_26 (fun _ => ?_) (fun q => absurd q (by decide))
      refine x_aload_0 cM_set_32 ?_
      refine x_gR (b := 96) cM_set_33 fM_29 rfl rfl rfl ?_
      refine x_bipush 8 (by decide) cM_set_36 ?_
      refine x_iload_1 cM_set_38 ?_
      refine x_iadd cM_set_39 ?_
      refine x_al (8 + j) cM_set_40 rfl (nI_add 8 j) (by omega) (by decide) ?_
      rw [u2_n (show 96 ≠ 90 by decide)]
      refine x_istore_3 cM_set_41 rfl (Nat.le_of_ble_eq_true rfl) ?_
      refine x_iload_3 cM_set_42 ?_
      refine x_iload_2 cM_set_43 ?_
      refine x_icmp_ne cM_set_44 (fun q44 => ?_) (fun q44 => ?_)
      · refine x_aload_0 cM_set_50 ?_
        refine x_v0 (ls0 := [some _, none]) cM_set_51 kM_144 okM_note ⟨(Nat.le_of_ble_eq_true rfl), (Nat.le_of_ble_eq_true rfl)⟩ (Nat.le_of_ble_eq_true rfl) rfl (Nat.le_of_ble_eq_true rfl) rfl ⟨_, rfl, rfl⟩ rfl rfl (Nat.zero_le _) (Nat.zero_le _) ?_
        refine s_note (n := n) (by rw [u2_sn (by decide)]; exact hn) hn14 (fun I1 hN0 => ?_)
        have hN : NtOut I I1 n := hN0.th
        have e96 : I1 96 = I 96 := hN.1 96 (by decide) (by decide)
        dsimp only [pushR]
        refine x_aload_0 cM_set_54 ?_
        refine x_gR (b := 96) cM_set_55 fM_29 rfl rfl rfl ?_
        refine x_bipush 8 (by decide) cM_set_58 ?_
        refine x_iload_1 cM_set_60 ?_
        refine x_iadd cM_set_61 ?_
        refine x_iload_2 cM_set_62 ?_
        refine x_as (8 + j) cM_set_63 rfl (nI_add 8 j) (by omega) (by decide) ?_
        refine x_iload_3 cM_set_64 ?_
        refine x_iconst 2 (by decide) cM_set_65 ?_
        refine x_iadd cM_set_66 ?_
        refine x_ireturn cM_set_67 rfl rfl (Nat.zero_le _) (Nat.zero_le _) ?_
        refine hq _ _ ⟨fun z => absurd ⟨j, hj, rfl⟩ z, fun k hk ek => ?_⟩
        obtain rfl := (nI_one hc5 hj rfl hk ek).symm
        exact ⟨fun z => absurd hr z, fun _ => ⟨fun z => absurd z q44, fun _ => ⟨rfl, I1, hN, rfl⟩⟩⟩
      · refine x_bipush (-3) (by decide) cM_set_47 ?_
        refine x_ireturn cM_set_49 rfl rfl (Nat.zero_le _) (Nat.zero_le _) ?_
        refine hq _ _ ⟨fun z => absurd ⟨j, hj, rfl⟩ z, fun k hk ek => ?_⟩
        obtain rfl := (nI_one hc5 hj rfl hk ek).symm
        exact ⟨fun z => absurd hr z, fun _ => ⟨fun _ => ⟨rfl, SameM.th I⟩, fun z => absurd q44 z⟩⟩
    · dsimp only [pushR]
      refine x_if_ne cM_set_26 (fun q => absurd rfl q) (fun _ => ?_)
      refine x_bipush (-2) (by decide) cM_set_29 ?_
      refine x_ireturn cM_set_31 rfl rfl (Nat.zero_le _) (Nat.zero_le _) ?_
      refine hq _ _ ⟨fun z => absurd ⟨j, hj, rfl⟩ z, fun k hk ek => ?_⟩
      obtain rfl := (nI_one hc5 hj rfl hk ek).symm
      exact ⟨fun _ => ⟨rfl, SameM.th I⟩, fun z => absurd z hr⟩
theorem m_cut {Po : Option Value → HS → Prop} {I : IT} {J : JT} {P : PT} {c n : Nat} {i : Int32} (hc : I 96 0 = nI c) (hc5 : c ≤ 5) (hn : I 90 18 = nI n) (hn14 : n ≤ 14) (hq : ∀ (r : Int32) (I' : IT), (RCutM I I' c n i r) → Po (some (.int r)) (hp I' J P)) : xj yM_cut (mG yM_cut Po) 0 [some (.ref 90), some (.int i)] [] (hp I J P) 0 0 := by
  refine x_aload_0 cM_cut_0 ?_
  refine x_iconst 0 (by decide) cM_cut_1 ?_
  refine x_pI cM_cut_2 fM_66 rfl rfl ?_
  refine x_aload_0 cM_cut_5 ?_
  refine x_iload_1 cM_cut_6 ?_
  refine x_v1 (ls0 := [some _, some _]) cM_cut_7 kM_134 okM_noKite ⟨(Nat.le_of_ble_eq_true rfl), (Nat.le_of_ble_eq_true rfl)⟩ (Nat.le_of_ble_eq_true rfl) rfl (Nat.le_of_ble_eq_true rfl) rfl ⟨_, rfl, rfl⟩ rfl rfl (Nat.zero_le _) (Nat.zero_le _) ?_
  refine s_noKite (by rw [u2_n (by decide)]; exact hc) hc5 (fun hno => ?_) (fun j hj ej => ?_)
  · dsimp only [pushR]
    refine x_if_eq cM_cut_10 (fun q => absurd q (by decide)) (fun _ => ?_)
    refine x_iconst (-1) (by decide) cM_cut_13 ?_
    refine x_ireturn cM_cut_14 rfl rfl (Nat.zero_le _) (Nat.zero_le _) ?_
    exact hq _ _ ⟨fun _ => ⟨rfl, SameM.th I⟩, fun j hj e => absurd ⟨j, hj, e⟩ hno⟩
  · dsimp only [pushR]
    subst ej
    refine x_if_eq cM_cut_10 (fun _ => ?_) (fun q => absurd rfl q)
    refine x_aload_0 cM_cut_15 ?_
    refine x_v0 (ls0 := [some _, none]) cM_cut_16 kM_144 okM_note ⟨(Nat.le_of_ble_eq_true rfl), (Nat.le_of_ble_eq_true rfl)⟩ (Nat.le_of_ble_eq_true rfl) rfl (Nat.le_of_ble_eq_true rfl) rfl ⟨_, rfl, rfl⟩ rfl rfl (Nat.zero_le _) (Nat.zero_le _) ?_
    refine s_note (n := n) (by rw [u2_sn (by decide)]; exact hn) hn14 (fun I1 hN0 => ?_)
    have hN : NtOut I I1 n := hN0.th
    have e96 : I1 96 = I 96 := hN.1 96 (by decide) (by decide)
    dsimp only [pushR]
    refine x_aload_0 cM_cut_19 ?_
    refine x_gR (b := 96) cM_cut_20 fM_29 rfl rfl rfl ?_
    refine x_iconst 0 (by decide) cM_cut_23 ?_
    refine x_iload_1 cM_cut_24 ?_
    refine x_as (0) cM_cut_25 rfl rfl (by decide) (by decide) ?_
    refine x_iload_1 cM_cut_26 ?_
    refine x_ireturn cM_cut_27 rfl rfl (Nat.zero_le _) (Nat.zero_le _) ?_
    refine hq _ _ ⟨fun z => absurd ⟨j, hj, rfl⟩ z, fun k hk ek => ?_⟩
    obtain rfl := (nI_one hc5 hj rfl hk ek).symm
    exact ⟨rfl, I1, hN, rfl⟩
theorem m_turn {Po : Option Value → HS → Prop} {I : IT} {J : JT} {P : PT} {n : Nat} {l h : Int32} (hn : I 90 18 = nI n) (hn14 : n ≤ 14) (hq : ∀ (r : Int32) (I' : IT), (RTurnM I I' n l h r) → Po (some (.int r)) (hp I' J P)) : xj yM_turn (mG yM_turn Po) 0 [some (.ref 90), some (.int l), some (.int h), none] [] (hp I J P) 0 0 := by
  refine x_aload_0 cM_turn_0 ?_
  refine x_iconst 0 (by decide) cM_turn_1 ?_
  refine x_pI cM_turn_2 fM_66 rfl rfl ?_
  refine x_iload_1 cM_turn_5 ?_
  refine x_i2l cM_turn_6 ?_
  refine x_ldc2 cM_turn_7 qM_147 ?_
  refine x_ldc2 cM_turn_10 qM_149 ?_
  refine x_s3 (ls0 := [some _, none, some _, none, some _, none]) cM_turn_13 kM_69 okM_in ⟨(Nat.le_of_ble_eq_true rfl), (Nat.le_of_ble_eq_true rfl)⟩ (Nat.le_of_ble_eq_true rfl) rfl (Nat.le_of_ble_eq_true rfl) rfl rfl (Nat.zero_le _) (Nat.zero_le _) ?_
  refine s_in (a := -2) (b := 2) (by decide) (by decide) (fun hl => ?_) (fun hl => ?_)
  · dsimp only [pushR]
    refine x_if_eq cM_turn_16 (fun q => absurd q (by decide)) (fun _ => ?_)
    refine x_iload_2 cM_turn_19 ?_
    refine x_i2l cM_turn_20 ?_
    refine x_ldc2 cM_turn_21 qM_147 ?_
    refine x_ldc2 cM_turn_24 qM_149 ?_
    refine x_s3 (ls0 := [some _, none, some _, none, some _, none]) cM_turn_27 kM_69 okM_in ⟨(Nat.le_of_ble_eq_true rfl), (Nat.le_of_ble_eq_true rfl)⟩ (Nat.le_of_ble_eq_true rfl) rfl (Nat.le_of_ble_eq_true rfl) rfl rfl (Nat.zero_le _) (Nat.zero_le _) ?_
    refine s_in (a := -2) (b := 2) (by decide) (by decide) (fun hh => ?_) (fun hh => ?_)
    · dsimp only [pushR]
      refine x_if_ne cM_turn_30 (fun _ => ?_) (fun q => absurd q (by decide))
      refine x_aload_0 cM_turn_36 ?_
      refine x_gR (b := 96) cM_turn_37 fM_29 rfl rfl rfl ?_
      refine x_iconst 1 (by decide) cM_turn_40 ?_
      refine x_al (1) cM_turn_41 rfl rfl (by decide) (by decide) ?_
      refine x_iload_1 cM_turn_42 ?_
      refine x_icmp_ne cM_turn_43 (fun q43 => ?_) (fun q43 => ?_)
      · refine x_bipush 10 (by decide) cM_turn_59 ?_
        refine x_aload_0 cM_turn_61 ?_
        refine x_gR (b := 96) cM_turn_62 fM_29 rfl rfl rfl ?_
        refine x_iconst 1 (by decide) cM_turn_65 ?_
        refine x_al (1) cM_turn_66 rfl rfl (by decide) (by decide) ?_
        refine x_iconst 2 (by decide) cM_turn_67 ?_
        refine x_iadd cM_turn_68 ?_
        refine x_imul cM_turn_69 ?_
        refine x_aload_0 cM_turn_70 ?_
        refine x_gR (b := 96) cM_turn_71 fM_29 rfl rfl rfl ?_
        refine x_iconst 2 (by decide) cM_turn_74 ?_
        refine x_al (2) cM_turn_75 rfl rfl (by decide) (by decide) ?_
        refine x_iadd cM_turn_76 ?_
        refine x_iconst 2 (by decide) cM_turn_77 ?_
        refine x_iadd cM_turn_78 ?_
        refine x_istore_3 cM_turn_79 rfl (Nat.le_of_ble_eq_true rfl) ?_
        refine x_aload_0 cM_turn_80 ?_
        refine x_v0 (ls0 := [some _, none]) cM_turn_81 kM_144 okM_note ⟨(Nat.le_of_ble_eq_true rfl), (Nat.le_of_ble_eq_true rfl)⟩ (Nat.le_of_ble_eq_true rfl) rfl (Nat.le_of_ble_eq_true rfl) rfl ⟨_, rfl, rfl⟩ rfl rfl (Nat.zero_le _) (Nat.zero_le _) ?_
        refine s_note (n := n) (by rw [u2_sn (by decide)]; exact hn) hn14 (fun I1 hN0 => ?_)
        have hN : NtOut I I1 n := hN0.th
        have e96 : I1 96 = I 96 := hN.1 96 (by decide) (by decide)
        dsimp only [pushR]
        refine x_aload_0 cM_turn_84 ?_
        refine x_gR (b := 96) cM_turn_85 fM_29 rfl rfl rfl ?_
        refine x_iconst 1 (by decide) cM_turn_88 ?_
        refine x_iload_1 cM_turn_89 ?_
        refine x_as (1) cM_turn_90 rfl rfl (by decide) (by decide) ?_
        refine x_aload_0 cM_turn_91 ?_
        refine x_gR (b := 96) cM_turn_92 fM_29 rfl rfl rfl ?_
        refine x_iconst 2 (by decide) cM_turn_95 ?_
        refine x_iload_2 cM_turn_96 ?_
        refine x_as (2) cM_turn_97 rfl rfl (by decide) (by decide) ?_
        refine x_iload_3 cM_turn_98 ?_
        refine x_ireturn cM_turn_99 rfl rfl (Nat.zero_le _) (Nat.zero_le _) ?_
        exact hq _ _ ⟨fun z => absurd ⟨hl, hh⟩ z, fun _ => ⟨fun z => absurd z.1.symm q43, fun _ => ⟨rfl, I1, hN, rfl⟩⟩⟩
      · refine x_aload_0 cM_turn_46 ?_
        refine x_gR (b := 96) cM_turn_47 fM_29 rfl rfl rfl ?_
        refine x_iconst 2 (by decide) cM_turn_50 ?_
        refine x_al (2) cM_turn_51 rfl rfl (by decide) (by decide) ?_
        refine x_iload_2 cM_turn_52 ?_
        refine x_icmp_ne cM_turn_53 (fun q53 => ?_) (fun q53 => ?_)
        · refine x_bipush 10 (by decide) cM_turn_59 ?_
          refine x_aload_0 cM_turn_61 ?_
          refine x_gR (b := 96) cM_turn_62 fM_29 rfl rfl rfl ?_
          refine x_iconst 1 (by decide) cM_turn_65 ?_
          refine x_al (1) cM_turn_66 rfl rfl (by decide) (by decide) ?_
          refine x_iconst 2 (by decide) cM_turn_67 ?_
          refine x_iadd cM_turn_68 ?_
          refine x_imul cM_turn_69 ?_
          refine x_aload_0 cM_turn_70 ?_
          refine x_gR (b := 96) cM_turn_71 fM_29 rfl rfl rfl ?_
          refine x_iconst 2 (by decide) cM_turn_74 ?_
          refine x_al (2) cM_turn_75 rfl rfl (by decide) (by decide) ?_
          refine x_iadd cM_turn_76 ?_
          refine x_iconst 2 (by decide) cM_turn_77 ?_
          refine x_iadd cM_turn_78 ?_
          refine x_istore_3 cM_turn_79 rfl (Nat.le_of_ble_eq_true rfl) ?_
          refine x_aload_0 cM_turn_80 ?_
          refine x_v0 (ls0 := [some _, none]) cM_turn_81 kM_144 okM_note ⟨(Nat.le_of_ble_eq_true rfl), (Nat.le_of_ble_eq_true rfl)⟩ (Nat.le_of_ble_eq_true rfl) rfl (Nat.le_of_ble_eq_true rfl) rfl ⟨_, rfl, rfl⟩ rfl rfl (Nat.zero_le _) (Nat.zero_le _) ?_
          refine s_note (n := n) (by rw [u2_sn (by decide)]; exact hn) hn14 (fun I1 hN0 => ?_)
          have hN : NtOut I I1 n := hN0.th
          have e96 : I1 96 = I 96 := hN.1 96 (by decide) (by decide)
          dsimp only [pushR]
          refine x_aload_0 cM_turn_84 ?_
          refine x_gR (b := 96) cM_turn_85 fM_29 rfl rfl rfl ?_
          refine x_iconst 1 (by decide) cM_turn_88 ?_
          refine x_iload_1 cM_turn_89 ?_
          refine x_as (1) cM_turn_90 rfl rfl (by decide) (by decide) ?_
          refine x_aload_0 cM_turn_91 ?_
          refine x_gR (b := 96) cM_turn_92 fM_29 rfl rfl rfl ?_
          refine x_iconst 2 (by decide) cM_turn_95 ?_
          refine x_iload_2 cM_turn_96 ?_
          refine x_as (2) cM_turn_97 rfl rfl (by decide) (by decide) ?_
          refine x_iload_3 cM_turn_98 ?_
          refine x_ireturn cM_turn_99 rfl rfl (Nat.zero_le _) (Nat.zero_le _) ?_
          exact hq _ _ ⟨fun z => absurd ⟨hl, hh⟩ z, fun _ => ⟨fun z => absurd z.2.symm q53, fun _ => ⟨rfl, I1, hN, rfl⟩⟩⟩
        · refine x_bipush (-3) (by decide) cM_turn_56 ?_
          refine x_ireturn cM_turn_58 rfl rfl (Nat.zero_le _) (Nat.zero_le _) ?_
          exact hq _ _ ⟨fun z => absurd ⟨hl, hh⟩ z, fun _ => ⟨fun _ => ⟨rfl, SameM.th I⟩, fun z => absurd ⟨q43.symm, q53.symm⟩ z⟩⟩
    · dsimp only [pushR]
      refine x_if_ne cM_turn_30 (fun q => absurd rfl q) (fun _ => ?_)
      refine x_bipush (-2) (by decide) cM_turn_33 ?_
      refine x_ireturn cM_turn_35 rfl rfl (Nat.zero_le _) (Nat.zero_le _) ?_
      exact hq _ _ ⟨fun _ => ⟨rfl, SameM.th I⟩, fun z => absurd z.2 hh⟩
  · dsimp only [pushR]
    refine x_if_eq cM_turn_16 (fun _ => ?_) (fun q => absurd rfl q)
    refine x_bipush (-2) (by decide) cM_turn_33 ?_
    refine x_ireturn cM_turn_35 rfl rfl (Nat.zero_le _) (Nat.zero_le _) ?_
    exact hq _ _ ⟨fun _ => ⟨rfl, SameM.th I⟩, fun z => absurd z.1 hl⟩
theorem s_mundo_loop {Po : Option Value → HS → Prop} {I : IT} {J : JT} {P : PT} {m : Nat} (hm : m ≤ 13) (h18 : I 90 18 = nI m) (hq : ∀ I', (∀ a, a ≠ 96 → I' a = I a) → (∀ j, j < 13 → I' 96 j = I 98 (13 * m + j)) → Po (some (.int (nI m))) (hp I' J P)) : ∀ n k, k + n = 13 → ∀ I', (∀ a, a ≠ 96 → I' a = I a) → (∀ j, j < k → I' 96 j = I 98 (13 * m + j)) → xj yM_undo (mG yM_undo Po) 27 [some (.ref 90), some (.int (nI k))] [] (hp I' J P) 0 0 := by
  intro n
  induction n with
  | zero =>
    intro k hk I' hf ha
    obtain rfl : k = 13 := by omega
    refine x_iload_1 cM_undo_27 ?_
    refine x_bipush 13 (by decide) cM_undo_28 ?_
    refine x_icmp_ge cM_undo_30 (fun q30 => ?_) (fun q30 => absurd q30 (fun z => z (by decide)))
    refine x_aload_0 cM_undo_59 ?_
    refine x_gI cM_undo_60 fM_111 rfl rfl ?_
    refine x_top (nI m) (by rw [hf 90 (by decide)]; exact h18) ?_
    refine x_ireturn cM_undo_63 rfl rfl (Nat.zero_le _) (Nat.zero_le _) ?_
    exact hq I' hf ha
  | succ n ih =>
    intro k hk I' hf ha
    have hk13 : k < 13 := by omega
    refine x_iload_1 cM_undo_27 ?_
    refine x_bipush 13 (by decide) cM_undo_28 ?_
    refine x_icmp_ge cM_undo_30 (fun q30 => absurd q30 (nI_ge hk13 (by decide))) (fun q30 => ?_)
    refine x_aload_0 cM_undo_33 ?_
    refine x_gR (b := 96) cM_undo_34 fM_29 rfl rfl rfl ?_
    refine x_iload_1 cM_undo_37 ?_
    refine x_aload_0 cM_undo_38 ?_
    refine x_gR (b := 98) cM_undo_39 fM_35 rfl rfl rfl ?_
    refine x_bipush 13 (by decide) cM_undo_42 ?_
    refine x_aload_0 cM_undo_44 ?_
    refine x_gI cM_undo_45 fM_111 rfl rfl ?_
    refine x_imul cM_undo_48 ?_
    refine x_top (nI (13 * m)) (by rw [hf 90 (by decide), h18]; exact pk_mul 13 m) ?_
    refine x_iload_1 cM_undo_49 ?_
    refine x_iadd cM_undo_50 ?_
    refine x_top (nI (13 * m + k)) (nI_add (13 * m) k) ?_
    refine x_al (13 * m + k) cM_undo_51 rfl rfl (by omega) (by decide) ?_
    rw [hf 98 (by decide)]
    refine x_as (k) cM_undo_52 rfl rfl (by omega) (by decide) ?_
    refine x_iinc_1 (nI (k + 1)) cM_undo_53 rfl (nI_inc k) (Nat.le_of_ble_eq_true rfl) ?_
    refine x_goto cM_undo_56 ?_
    refine ih (k + 1) (by omega) _ (fun a h => by rw [u2_n h]; exact hf a h) (fun j hj => ?_)
    rcases Nat.lt_or_ge j k with z | z
    · rw [u2_sn (by omega)]; exact ha j z
    · obtain rfl : j = k := by omega
      rw [u2_ss]
theorem m_undo {Po : Option Value → HS → Prop} {I : IT} {J : JT} {P : PT} {n : Nat} (hn : I 90 18 = nI n) (hn14 : n ≤ 14) (hq : ∀ (r : Int32) (I' : IT), (RUndoM I I' n r) → Po (some (.int r)) (hp I' J P)) : xj yM_undo (mG yM_undo Po) 0 [some (.ref 90), none] [] (hp I J P) 0 0 := by
  refine x_aload_0 cM_undo_0 ?_
  refine x_iconst 0 (by decide) cM_undo_1 ?_
  refine x_pI cM_undo_2 fM_66 rfl rfl ?_
  refine x_aload_0 cM_undo_5 ?_
  refine x_gI cM_undo_6 fM_111 rfl rfl ?_
  refine x_if_ne cM_undo_9 (fun q9 => ?_) (fun q9 => ?_)
  · have h0 : 0 < n := by
      rw [u2_sn (by decide), hn] at q9
      exact Nat.pos_of_ne_zero (fun z => q9 (by rw [z]; rfl))
    refine x_aload_0 cM_undo_15 ?_
    refine x_dup rfl cM_undo_16 ?_
    refine x_gI cM_undo_17 fM_111 rfl rfl ?_
    refine x_iconst 1 (by decide) cM_undo_20 ?_
    refine x_isub cM_undo_21 ?_
    refine x_top (nI (n - 1)) (by rw [u2_sn (by decide), hn]; exact pk_sub (b := 1) h0) ?_
    refine x_pI cM_undo_22 fM_111 rfl rfl ?_
    refine x_iconst 0 (by decide) cM_undo_25 ?_
    refine x_istore_1 cM_undo_26 rfl (Nat.le_of_ble_eq_true rfl) ?_
    refine s_mundo_loop (m := n - 1) (by omega) (by rw [u2_ss]) (fun I1 b1 b2 => hq _ _ ⟨fun z => absurd z (by omega), fun m hm => ?_⟩) 13 0 (by decide) _ (fun _ _ => rfl) (fun j hj => absurd hj (Nat.not_lt_zero j))
    obtain rfl : m = n - 1 := by omega
    exact ⟨rfl, fun a a1 a2 => by rw [b1 a a2, u2_n a1, u2_n a1], fun j j1 j2 => by rw [b1 90 (by decide), u2_sn j2, u2_sn j1], by rw [b1 90 (by decide), u2_ss], fun j hj => by rw [b2 j hj, u2_n (by decide), u2_n (by decide)]⟩
  · have h0 : n = 0 := by
      rw [u2_sn (by decide), hn] at q9
      exact (nI_eq (b := 0) (by omega) (by decide)).mp (by simpa [nI_0] using q9)
    refine x_bipush (-3) (by decide) cM_undo_12 ?_
    refine x_ireturn cM_undo_14 rfl rfl (Nat.zero_le _) (Nat.zero_le _) ?_
    exact hq _ _ ⟨fun _ => ⟨rfl, SameM.th I⟩, fun m hm => absurd hm (by omega)⟩
