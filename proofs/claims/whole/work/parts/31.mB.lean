/-- the model keeps all but its room for questions -/
def SameM (I I' : IT) : Prop := (∀ a, ((a ≤ 92 ∧ a ≠ 90) ∨ a = 96 ∨ (98 ≤ a ∧ a ≤ 102)) → I' a = I a) ∧ ∀ j, (j = 2 ∨ j = 4 ∨ j = 5 ∨ j = 18 ∨ j = 21) → I' 90 j = I 90 j
theorem SameM.rf {I : IT} : SameM I I := ⟨fun _ _ => rfl, fun _ _ => rfl⟩
theorem SameM.tr {I I1 I2 : IT} (h1 : SameM I I1) (h2 : SameM I1 I2) : SameM I I2 := ⟨fun a ha => by rw [h2.1 a ha, h1.1 a ha], fun j hj => by rw [h2.2 j hj, h1.2 j hj]⟩
theorem SameM.th (I : IT) : SameM I (u2 I 90 0 0) := ⟨fun a ha => u2_n (by omega), fun j hj => u2_sn (by omega)⟩
def RWriteM (I I' : IT) (n : Nat) (v r : Int32) : Prop :=
  (¬ (0 ≤ v ∧ v ≤ 255) → r = -2 ∧ SameM I I') ∧ ((0 ≤ v ∧ v ≤ 255) → (n = 32 → r = -4 ∧ SameM I I') ∧ (n < 32 → r = nI (n + 1) ∧ ∃ I1, SameM I I1 ∧ I' = u2 (u2 I1 91 n v) 90 2 (nI (n + 1))))
theorem m_write {Po : Option Value → HS → Prop} {I : IT} {J : JT} {P : PT} {n : Nat} {v : Int32} (hn : I 90 2 = nI n) (hn2 : n ≤ 32) (hq : ∀ (r : Int32) (I' : IT), (RWriteM I I' n v r) → Po (some (.int r)) (hp I' J P)) : xj yM_write (mG yM_write Po) 0 [some (.ref 90), some (.int v)] [] (hp I J P) 0 0 := by
  refine x_aload_0 cM_write_0 ?_
  refine x_iconst 0 (by decide) cM_write_1 ?_
  refine x_pI cM_write_2 fM_66 rfl rfl ?_
  refine x_iload_1 cM_write_5 ?_
  refine x_i2l cM_write_6 ?_
  refine x_lconst 0 (by decide) cM_write_7 ?_
  refine x_ldc2 cM_write_8 qM_73 ?_
  refine x_s3 (ls0 := [some _, none, some _, none, some _, none]) cM_write_11 kM_69 okM_in ⟨(Nat.le_of_ble_eq_true rfl), (Nat.le_of_ble_eq_true rfl)⟩ (Nat.le_of_ble_eq_true rfl) rfl (Nat.le_of_ble_eq_true rfl) rfl rfl (Nat.zero_le _) (Nat.zero_le _) ?_
  refine s_in (a := 0) (b := 255) (by decide) (by decide) (fun hw => ?_) (fun hw => ?_)
  · dsimp only [pushR]
    refine x_if_ne cM_write_14 (fun _ => ?_) (fun q => absurd q (by decide))
    refine x_aload_0 cM_write_20 ?_
    refine x_gI cM_write_21 fM_75 rfl rfl ?_
    refine x_bipush 32 (by decide) cM_write_24 ?_
    refine x_icmp_ne cM_write_26 (fun q26 => ?_) (fun q26 => ?_)
    · rw [u2_sn (show 2 ≠ 0 by decide), hn] at q26
      have hlt : n < 32 := by
        rcases Nat.lt_or_ge n 32 with z | z
        · exact z
        · exact absurd (show nI n = (32 : Int32) by rw [show n = 32 by omega]; rfl) q26
      refine x_aload_0 cM_write_32 ?_
      refine x_gR (b := 91) cM_write_33 fM_7 rfl rfl rfl ?_
      refine x_aload_0 cM_write_36 ?_
      refine x_gI cM_write_37 fM_75 rfl rfl ?_
      refine x_iload_1 cM_write_40 ?_
      refine x_as (n) cM_write_41 rfl (by rw [u2_sn (show 2 ≠ 0 by decide)]; exact hn) hlt (by decide) ?_
      refine x_aload_0 cM_write_42 ?_
      refine x_dup rfl cM_write_43 ?_
      refine x_gI cM_write_44 fM_75 rfl rfl ?_
      refine x_iconst 1 (by decide) cM_write_47 ?_
      refine x_iadd cM_write_48 ?_
      refine x_top (nI (n + 1)) (by rw [u2_n (show 90 ≠ 91 by decide), u2_sn (show 2 ≠ 0 by decide), hn, nI_1]) ?_
      refine x_pI cM_write_49 fM_75 rfl rfl ?_
      refine x_aload_0 cM_write_52 ?_
      refine x_gI cM_write_53 fM_75 rfl rfl ?_
      refine x_top (nI (n + 1)) (by rw [u2_ss]) ?_
      refine x_ireturn cM_write_56 rfl rfl (Nat.zero_le _) (Nat.zero_le _) ?_
      exact hq _ _ ⟨fun z => absurd hw z, fun _ => ⟨fun z => absurd z (by omega), fun _ => ⟨rfl, _, SameM.th I, rfl⟩⟩⟩
    · rw [u2_sn (show 2 ≠ 0 by decide), hn] at q26
      have heq : n = 32 := (nI_eq (b := 32) (by omega) (by decide)).mp q26
      refine x_bipush (-4) (by decide) cM_write_29 ?_
      refine x_ireturn cM_write_31 rfl rfl (Nat.zero_le _) (Nat.zero_le _) ?_
      exact hq _ _ ⟨fun z => absurd hw z, fun _ => ⟨fun _ => ⟨rfl, SameM.th I⟩, fun z => absurd z (by omega)⟩⟩
  · dsimp only [pushR]
    refine x_if_ne cM_write_14 (fun q => absurd rfl q) (fun _ => ?_)
    refine x_bipush (-2) (by decide) cM_write_17 ?_
    refine x_ireturn cM_write_19 rfl rfl (Nat.zero_le _) (Nat.zero_le _) ?_
    exact hq _ _ ⟨fun _ => ⟨rfl, SameM.th I⟩, fun z => absurd z hw⟩
theorem m_wipe {Po : Option Value → HS → Prop} {I : IT} {J : JT} {P : PT}   (hq : ∀ (r : Int32) (I' : IT), (r = I 90 2 ∧ ∃ I1, SameM I I1 ∧ I' = u2 I1 90 2 0) → Po (some (.int r)) (hp I' J P)) : xj yM_wipe (mG yM_wipe Po) 0 [some (.ref 90), none] [] (hp I J P) 0 0 := by
  refine x_aload_0 cM_wipe_0 ?_
  refine x_iconst 0 (by decide) cM_wipe_1 ?_
  refine x_pI cM_wipe_2 fM_66 rfl rfl ?_
  refine x_aload_0 cM_wipe_5 ?_
  refine x_gI cM_wipe_6 fM_75 rfl rfl ?_
  rw [u2_sn (show 2 ≠ 0 by decide)]
  refine x_istore_1 cM_wipe_9 rfl (Nat.le_of_ble_eq_true rfl) ?_
  refine x_aload_0 cM_wipe_10 ?_
  refine x_iconst 0 (by decide) cM_wipe_11 ?_
  refine x_pI cM_wipe_12 fM_75 rfl rfl ?_
  refine x_iload_1 cM_wipe_15 ?_
  refine x_ireturn cM_wipe_16 rfl rfl (Nat.zero_le _) (Nat.zero_le _) ?_
  exact hq _ _ ⟨rfl, _, SameM.th I, rfl⟩
/-- the bytes of the text are bytes -/
def Byt (t : Nat → Int32) (n : Nat) : Prop := ∀ j, j < n → 0 ≤ (t j).toInt ∧ (t j).toInt ≤ 255
theorem byt_in {v a b : Int32} (h0 : 0 ≤ v.toInt ∧ v.toInt ≤ 255) (ha : 0 ≤ a.toInt ∧ a.toInt ≤ 100) (hb : 0 ≤ b.toInt ∧ b.toInt ≤ 100) : (a ≤ v - 48 ∧ v - 48 ≤ b) ↔ (a + 48 ≤ v ∧ v ≤ b + 48) := by
  have h48 : (48 : Int32).toInt = 48 := by decide
  rw [Int32.le_iff_toInt_le, Int32.le_iff_toInt_le, Int32.le_iff_toInt_le, Int32.le_iff_toInt_le, fb_subI (by omega) (by omega), fb_addI (by omega) (by omega), fb_addI (by omega) (by omega), h48]
  omega
theorem byt_ne {v a : Int32} (h0 : 0 ≤ v.toInt ∧ v.toInt ≤ 255) (ha : 0 ≤ a.toInt) (h : a ≤ v - 48) : ¬ v - 48 = -9 := fun z => by
  rw [z, Int32.le_iff_toInt_le] at h
  have : (-9 : Int32).toInt = -9 := by decide
  omega
/-- what reading may change -/
def RdF (I I' : IT) : Prop := (∀ a, a ≠ 90 → a ≠ 93 → a ≠ 94 → a ≠ 95 → I' a = I a) ∧ ∀ j, j ≠ 3 → j ≠ 7 → j ≠ 8 → j ≠ 9 → j ≠ 10 → j ≠ 11 → I' 90 j = I 90 j
theorem RdF.rf {I : IT} : RdF I I := ⟨fun _ _ _ _ _ => rfl, fun _ _ _ _ _ _ _ => rfl⟩
theorem RdF.pl (I : IT) (v : Int32) : RdF I (u2 I 90 3 v) := ⟨fun a h _ _ _ => u2_n h, fun j h _ _ _ _ _ => u2_sn h⟩
theorem RdF.tr {I I1 I2 : IT} (h1 : RdF I I1) (h2 : RdF I1 I2) : RdF I I2 := ⟨fun a a1 a2 a3 a4 => by rw [h2.1 a a1 a2 a3 a4, h1.1 a a1 a2 a3 a4], fun j a1 a2 a3 a4 a5 a6 => by rw [h2.2 j a1 a2 a3 a4 a5 a6, h1.2 j a1 a2 a3 a4 a5 a6]⟩
theorem s_mfigure {Po : Option Value → HS → Prop} {I : IT} {J : JT} {P : PT} {n p : Nat} {a b A B : Int32} (hA : a + 48 = A) (hB0 : b + 48 = B) (hn : I 90 2 = nI n) (hn2 : n ≤ 32) (hp0 : I 90 3 = nI p) (hpn : p ≤ n) (hB : Byt (I 91) n) (ha : 0 ≤ a.toInt ∧ a.toInt ≤ 100) (hb : 0 ≤ b.toInt ∧ b.toInt ≤ 100)
    (h1 : p < n → (A ≤ I 91 p ∧ I 91 p ≤ B) → ¬ I 91 p - 48 = -9 → Po (some (.int (I 91 p - 48))) (hp (u2 I 90 3 (nI (p + 1))) J P)) (h0 : (p = n ∨ (p < n ∧ ¬ (A ≤ I 91 p ∧ I 91 p ≤ B))) → Po (some (.int (-9))) (hp I J P)) : xj yM_figure (mG yM_figure Po) 0 [some (.ref 90), some (.int a), some (.int b)] [] (hp I J P) 0 0 := by
  subst hA; subst hB0
  refine x_aload_0 cM_figure_0 ?_
  refine x_gI cM_figure_1 fM_78 rfl rfl ?_
  refine x_aload_0 cM_figure_4 ?_
  refine x_gI cM_figure_5 fM_75 rfl rfl ?_
  refine x_icmp_eq cM_figure_8 (fun q8 => ?_) (fun q8 => ?_)
  · rw [hp0, hn] at q8
    have e : p = n := (nI_eq (by omega) (by omega)).mp q8
    refine x_bipush (-9) (by decide) cM_figure_34 ?_
    refine x_ireturn cM_figure_36 rfl rfl (Nat.zero_le _) (Nat.zero_le _) ?_
    exact h0 (Or.inl e)
  · have hlt : p < n := by
      rcases Nat.lt_or_ge p n with z | z
      · exact z
      · exact absurd (by rw [hp0, hn, show p = n by omega]) q8
    refine x_aload_0 cM_figure_11 ?_
    refine x_gR (b := 91) cM_figure_12 fM_7 rfl rfl rfl ?_
    refine x_aload_0 cM_figure_15 ?_
    refine x_gI cM_figure_16 fM_78 rfl rfl ?_
    refine x_al (p) cM_figure_19 rfl hp0 (by omega) (by decide) ?_
    refine x_bipush 48 (by decide) cM_figure_20 ?_
    refine x_isub cM_figure_22 ?_
    refine x_i2l cM_figure_23 ?_
    refine x_iload_1 cM_figure_24 ?_
    refine x_i2l cM_figure_25 ?_
    refine x_iload_2 cM_figure_26 ?_
    refine x_i2l cM_figure_27 ?_
    refine x_s3 (ls0 := [some _, none, some _, none, some _, none]) cM_figure_28 kM_69 okM_in ⟨(Nat.le_of_ble_eq_true rfl), (Nat.le_of_ble_eq_true rfl)⟩ (Nat.le_of_ble_eq_true rfl) rfl (Nat.le_of_ble_eq_true rfl) rfl rfl (Nat.zero_le _) (Nat.zero_le _) ?_
    refine s_in (a := a) (b := b) rfl rfl (fun hw => ?_) (fun hw => ?_)
    · dsimp only [pushR]
      refine x_if_ne cM_figure_31 (fun _ => ?_) (fun q => absurd q (by decide))
      refine x_aload_0 cM_figure_37 ?_
      refine x_dup rfl cM_figure_38 ?_
      refine x_gI cM_figure_39 fM_78 rfl rfl ?_
      refine x_iconst 1 (by decide) cM_figure_42 ?_
      refine x_iadd cM_figure_43 ?_
      refine x_top (nI (p + 1)) (by rw [hp0, nI_1]) ?_
      refine x_pI cM_figure_44 fM_78 rfl rfl ?_
      refine x_aload_0 cM_figure_47 ?_
      refine x_gR (b := 91) cM_figure_48 fM_7 rfl rfl rfl ?_
      refine x_aload_0 cM_figure_51 ?_
      refine x_gI cM_figure_52 fM_78 rfl rfl ?_
      refine x_iconst 1 (by decide) cM_figure_55 ?_
      refine x_isub cM_figure_56 ?_
      refine x_top (nI p) (by rw [u2_ss]; exact nI_pred p) ?_
      refine x_al (p) cM_figure_57 rfl rfl (by omega) (by decide) ?_
      rw [u2_n (show 91 ≠ 90 by decide)]
      refine x_bipush 48 (by decide) cM_figure_58 ?_
      refine x_isub cM_figure_60 ?_
      refine x_ireturn cM_figure_61 rfl rfl (Nat.zero_le _) (Nat.zero_le _) ?_
      exact h1 hlt ((byt_in (hB p hlt) ha hb).mp hw) (byt_ne (hB p hlt) ha.1 hw.1)
    · dsimp only [pushR]
      refine x_if_ne cM_figure_31 (fun q => absurd rfl q) (fun _ => ?_)
      refine x_bipush (-9) (by decide) cM_figure_34 ?_
      refine x_ireturn cM_figure_36 rfl rfl (Nat.zero_le _) (Nat.zero_le _) ?_
      exact h0 (Or.inr ⟨hlt, fun z => hw ((byt_in (hB p hlt) ha hb).mpr z)⟩)
theorem al_0 (t : Nat → Int32) : ∀ j, 1 ≤ j → j < 1 → okL t j := fun j j1 j2 => absurd j2 (by omega)
theorem al_s {t : Nat → Int32} {k : Nat} (h : ∀ j, 1 ≤ j → j < k → okL t j) (hk : okL t k) : ∀ j, 1 ≤ j → j < k + 1 → okL t j := fun j j1 j2 => by
  rcases Nat.lt_or_ge j k with z | z
  · exact h j j1 z
  · rw [show j = k by omega]; exact hk
theorem okp {t : Nat → Int32} {n p : Nat} (hno : p = n ∨ (p < n ∧ ¬ okL t p)) (h0 : okL t 0) (h : ∀ j, 1 ≤ j → j < p → okL t j) : ∀ j, j < p → okL t j := fun j hj => by
  rcases Nat.eq_zero_or_pos j with e | e
  · rw [e]; exact h0
  · exact h j e hj
theorem s_readHead {Po : Option Value → HS → Prop} {I : IT} {J : JT} {P : PT} {n : Nat} (hn : I 90 2 = nI n) (hn2 : n ≤ 32) (hp0 : I 90 3 = nI 1) (hpn : 1 ≤ n) (hB : Byt (I 91) n) (h1 : 6 ≤ n → (∀ j, 1 ≤ j → j < 6 → okL (I 91) j) → ∀ I', RdF I I' → I' 90 3 = nI 6 → I' 90 7 = I 90 7 → I' 90 8 = I 91 1 - 48 - 2 → I' 90 9 = I 91 2 - 48 - 2 → I' 90 10 = 10 * (I 91 3 - 48) + (I 91 4 - 48) → I' 90 11 = I 91 5 - 48 → Po (some (.int 1)) (hp I' J P)) (h0 : ∀ p, 1 ≤ p → p < 6 → (∀ j, 1 ≤ j → j < p → okL (I 91) j) → (p = n ∨ (p < n ∧ ¬ okL (I 91) p)) → ∀ I', RdF I I' → I' 90 3 = nI p → Po (some (.int 0)) (hp I' J P)) : xj yM_readHead (mG yM_readHead Po) 0 [some (.ref 90), none, none, none, none, none] [] (hp I J P) 0 0 := by
  have E : ∀ v, u2 I 90 3 v 90 2 = nI n := fun v => by rw [u2_sn (by decide)]; exact hn
  have uu : ∀ (v w : Int32), u2 (u2 I 90 3 v) 90 3 w = u2 I 90 3 w := fun v w => by
    funext a j
    rw [u2_g, u2_g, u2_g]
    by_cases h : a = 90 ∧ j = 3
    · rw [if_pos h, if_pos h]
    · rw [if_neg h, if_neg h, if_neg h]
  have fin : ∀ (p : Nat) (l h a f : Int32), RdF I (u2 (u2 (u2 (u2 (u2 I 90 3 (nI p)) 90 8 l) 90 9 h) 90 10 a) 90 11 f) ∧ u2 (u2 (u2 (u2 (u2 I 90 3 (nI p)) 90 8 l) 90 9 h) 90 10 a) 90 11 f 90 3 = nI p := fun p l h a f =>
    ⟨⟨fun x x1 _ _ _ => by rw [u2_n x1, u2_n x1, u2_n x1, u2_n x1, u2_n x1], fun j j1 j2 j3 j4 j5 j6 => by rw [u2_sn j6, u2_sn j5, u2_sn j4, u2_sn j3, u2_sn j1]⟩, by rw [u2_sn (by decide), u2_sn (by decide), u2_sn (by decide), u2_sn (by decide), u2_ss]⟩
  have e0 : I = u2 I 90 3 (nI 1) := by
    funext a j
    rw [u2_g]
    by_cases h : a = 90 ∧ j = 3
    · rw [if_pos h, h.1, h.2, hp0]
    · rw [if_neg h]
  refine x_aload_0 cM_readHead_0 ?_
  refine x_iconst 0 (by decide) cM_readHead_1 ?_
  refine x_iconst 4 (by decide) cM_readHead_2 ?_
  refine x_v2 (ls0 := [some _, some _, some _]) cM_readHead_3 kM_81 okM_figure ⟨(Nat.le_of_ble_eq_true rfl), (Nat.le_of_ble_eq_true rfl)⟩ (Nat.le_of_ble_eq_true rfl) rfl (Nat.le_of_ble_eq_true rfl) rfl ⟨_, rfl, rfl⟩ rfl rfl (Nat.zero_le _) (Nat.zero_le _) ?_
  rw [e0]
  refine s_mfigure (p := 1) (a := 0) (b := 4) (A := 48) (B := 52) (n := n) (by decide) (by decide) (E (nI 1)) hn2 (by rw [u2_ss]) (by omega) (by intro j hj; rw [u2_n (by decide)]; exact hB j hj) (by decide) (by decide) (fun hlt1 hin1 hne1 => ?_) (fun hno1 => ?_)
  · dsimp only [pushR]
    rw [u2_n (show 91 ≠ 90 by decide)] at hin1 hne1 ⊢
    rw [uu]
    have ok1 : okL (I 91) 1 := hin1
    refine x_istore_1 cM_readHead_6 rfl (Nat.le_of_ble_eq_true rfl) ?_
    refine x_iload_1 cM_readHead_7 ?_
    refine x_bipush (-9) (by decide) cM_readHead_8 ?_
    refine x_icmp_ne cM_readHead_10 (fun q10 => ?_) (fun q10 => absurd q10 hne1)
    refine x_aload_0 cM_readHead_18 ?_
    refine x_iconst 0 (by decide) cM_readHead_19 ?_
    refine x_iconst 4 (by decide) cM_readHead_20 ?_
    refine x_v2 (ls0 := [some _, some _, some _]) cM_readHead_21 kM_81 okM_figure ⟨(Nat.le_of_ble_eq_true rfl), (Nat.le_of_ble_eq_true rfl)⟩ (Nat.le_of_ble_eq_true rfl) rfl (Nat.le_of_ble_eq_true rfl) rfl ⟨_, rfl, rfl⟩ rfl rfl (Nat.zero_le _) (Nat.zero_le _) ?_
    refine s_mfigure (p := 2) (a := 0) (b := 4) (A := 48) (B := 52) (n := n) (by decide) (by decide) (E (nI 2)) hn2 (by rw [u2_ss]) (by omega) (by intro j hj; rw [u2_n (by decide)]; exact hB j hj) (by decide) (by decide) (fun hlt2 hin2 hne2 => ?_) (fun hno2 => ?_)
    · dsimp only [pushR]
      rw [u2_n (show 91 ≠ 90 by decide)] at hin2 hne2 ⊢
      rw [uu]
      have ok2 : okL (I 91) 2 := hin2
      refine x_istore_2 cM_readHead_24 rfl (Nat.le_of_ble_eq_true rfl) ?_
      refine x_iload_2 cM_readHead_25 ?_
      refine x_bipush (-9) (by decide) cM_readHead_26 ?_
      refine x_icmp_ne cM_readHead_28 (fun q28 => ?_) (fun q28 => absurd q28 hne2)
      refine x_aload_0 cM_readHead_36 ?_
      refine x_iconst 0 (by decide) cM_readHead_37 ?_
      refine x_iconst 5 (by decide) cM_readHead_38 ?_
      refine x_v2 (ls0 := [some _, some _, some _]) cM_readHead_39 kM_81 okM_figure ⟨(Nat.le_of_ble_eq_true rfl), (Nat.le_of_ble_eq_true rfl)⟩ (Nat.le_of_ble_eq_true rfl) rfl (Nat.le_of_ble_eq_true rfl) rfl ⟨_, rfl, rfl⟩ rfl rfl (Nat.zero_le _) (Nat.zero_le _) ?_
      refine s_mfigure (p := 3) (a := 0) (b := 5) (A := 48) (B := 53) (n := n) (by decide) (by decide) (E (nI 3)) hn2 (by rw [u2_ss]) (by omega) (by intro j hj; rw [u2_n (by decide)]; exact hB j hj) (by decide) (by decide) (fun hlt3 hin3 hne3 => ?_) (fun hno3 => ?_)
      · dsimp only [pushR]
        rw [u2_n (show 91 ≠ 90 by decide)] at hin3 hne3 ⊢
        rw [uu]
        have ok3 : okL (I 91) 3 := hin3
        refine x_istore_3 cM_readHead_42 rfl (Nat.le_of_ble_eq_true rfl) ?_
        refine x_iload_3 cM_readHead_43 ?_
        refine x_bipush (-9) (by decide) cM_readHead_44 ?_
        refine x_icmp_ne cM_readHead_46 (fun q46 => ?_) (fun q46 => absurd q46 hne3)
        refine x_aload_0 cM_readHead_54 ?_
        refine x_iconst 0 (by decide) cM_readHead_55 ?_
        refine x_iload_3 cM_readHead_56 ?_
        refine x_iconst 5 (by decide) cM_readHead_57 ?_
        refine x_icmp_ne cM_readHead_58 (fun q58 => ?_) (fun q58 => ?_)
        · have h53 : ¬ I 91 3 = 53 := fun z => q58 (by rw [z]; decide)
          refine x_bipush 9 (by decide) cM_readHead_65 ?_
          refine x_v2 (ls0 := [some _, some _, some _]) cM_readHead_67 kM_81 okM_figure ⟨(Nat.le_of_ble_eq_true rfl), (Nat.le_of_ble_eq_true rfl)⟩ (Nat.le_of_ble_eq_true rfl) rfl (Nat.le_of_ble_eq_true rfl) rfl ⟨_, rfl, rfl⟩ rfl rfl (Nat.zero_le _) (Nat.zero_le _) ?_
          refine s_mfigure (p := 4) (a := 0) (b := 9) (A := 48) (B := 57) (n := n) (by decide) (by decide) (E (nI 4)) hn2 (by rw [u2_ss]) (by omega) (by intro j hj; rw [u2_n (by decide)]; exact hB j hj) (by decide) (by decide) (fun hlt4 hin4 hne4 => ?_) (fun hno4 => ?_)
          · dsimp only [pushR]
            rw [u2_n (show 91 ≠ 90 by decide)] at hin4 hne4 ⊢
            rw [uu]
            have ok4 : okL (I 91) 4 := ⟨hin4.1, by rw [if_neg h53]; exact hin4.2⟩
            refine x_istore_4 cM_readHead_70 rfl (Nat.le_of_ble_eq_true rfl) ?_
            refine x_iload_4 cM_readHead_72 ?_
            refine x_bipush (-9) (by decide) cM_readHead_74 ?_
            refine x_icmp_ne cM_readHead_76 (fun q76 => ?_) (fun q76 => absurd q76 hne4)
            refine x_aload_0 cM_readHead_84 ?_
            refine x_iconst 1 (by decide) cM_readHead_85 ?_
            refine x_bipush 9 (by decide) cM_readHead_86 ?_
            refine x_v2 (ls0 := [some _, some _, some _]) cM_readHead_88 kM_81 okM_figure ⟨(Nat.le_of_ble_eq_true rfl), (Nat.le_of_ble_eq_true rfl)⟩ (Nat.le_of_ble_eq_true rfl) rfl (Nat.le_of_ble_eq_true rfl) rfl ⟨_, rfl, rfl⟩ rfl rfl (Nat.zero_le _) (Nat.zero_le _) ?_
            refine s_mfigure (p := 5) (a := 1) (b := 9) (A := 49) (B := 57) (n := n) (by decide) (by decide) (E (nI 5)) hn2 (by rw [u2_ss]) (by omega) (by intro j hj; rw [u2_n (by decide)]; exact hB j hj) (by decide) (by decide) (fun hlt5 hin5 hne5 => ?_) (fun hno5 => ?_)
            · dsimp only [pushR]
              rw [u2_n (show 91 ≠ 90 by decide)] at hin5 hne5 ⊢
              rw [uu]
              have ok5 : okL (I 91) 5 := hin5
              refine x_istore_5 cM_readHead_91 rfl (Nat.le_of_ble_eq_true rfl) ?_
              refine x_aload_0 cM_readHead_93 ?_
              refine x_iload_1 cM_readHead_94 ?_
              refine x_iconst 2 (by decide) cM_readHead_95 ?_
              refine x_isub cM_readHead_96 ?_
              refine x_pI cM_readHead_97 fM_85 rfl rfl ?_
              refine x_aload_0 cM_readHead_100 ?_
              refine x_iload_2 cM_readHead_101 ?_
              refine x_iconst 2 (by decide) cM_readHead_102 ?_
              refine x_isub cM_readHead_103 ?_
              refine x_pI cM_readHead_104 fM_88 rfl rfl ?_
              refine x_aload_0 cM_readHead_107 ?_
              refine x_bipush 10 (by decide) cM_readHead_108 ?_
              refine x_iload_3 cM_readHead_110 ?_
              refine x_imul cM_readHead_111 ?_
              refine x_iload_4 cM_readHead_112 ?_
              refine x_iadd cM_readHead_114 ?_
              refine x_pI cM_readHead_115 fM_91 rfl rfl ?_
              refine x_aload_0 cM_readHead_118 ?_
              refine x_iload_5 cM_readHead_119 ?_
              refine x_pI cM_readHead_121 fM_94 rfl rfl ?_
              refine x_iload_5 cM_readHead_124 ?_
              refine x_bipush (-9) (by decide) cM_readHead_126 ?_
              refine x_icmp_eq cM_readHead_128 (fun q128 => absurd q128 hne5) (fun q128 => ?_)
              refine x_iconst 1 (by decide) cM_readHead_131 ?_
              refine x_goto cM_readHead_132 ?_
              refine x_ireturn cM_readHead_136 rfl rfl (Nat.zero_le _) (Nat.zero_le _) ?_
              refine h1 (by omega) (al_s (al_s (al_s (al_s (al_s (al_0 _) ok1) ok2) ok3) ok4) ok5) _ (fin 6 _ _ _ _).1 (fin 6 _ _ _ _).2 ?_ ?_ ?_ ?_ ?_
              · rw [u2_sn (by decide), u2_sn (by decide), u2_sn (by decide), u2_sn (by decide), u2_sn (by decide)]
              · rw [u2_sn (by decide), u2_sn (by decide), u2_sn (by decide), u2_ss]
              · rw [u2_sn (by decide), u2_sn (by decide), u2_ss]
              · rw [u2_sn (by decide), u2_ss]
              · rw [u2_ss]
            · dsimp only [pushR]
              rw [u2_n (show 91 ≠ 90 by decide)] at hno5
              have nok5 : 5 = n ∨ (5 < n ∧ ¬ okL (I 91) 5) := hno5
              have nal5 : ∀ j, 1 ≤ j → j < 5 → okL (I 91) j := al_s (al_s (al_s (al_s (al_0 _) ok1) ok2) ok3) ok4
              refine x_istore_5 cM_readHead_91 rfl (Nat.le_of_ble_eq_true rfl) ?_
              refine x_aload_0 cM_readHead_93 ?_
              refine x_iload_1 cM_readHead_94 ?_
              refine x_iconst 2 (by decide) cM_readHead_95 ?_
              refine x_isub cM_readHead_96 ?_
              refine x_pI cM_readHead_97 fM_85 rfl rfl ?_
              refine x_aload_0 cM_readHead_100 ?_
              refine x_iload_2 cM_readHead_101 ?_
              refine x_iconst 2 (by decide) cM_readHead_102 ?_
              refine x_isub cM_readHead_103 ?_
              refine x_pI cM_readHead_104 fM_88 rfl rfl ?_
              refine x_aload_0 cM_readHead_107 ?_
              refine x_bipush 10 (by decide) cM_readHead_108 ?_
              refine x_iload_3 cM_readHead_110 ?_
              refine x_imul cM_readHead_111 ?_
              refine x_iload_4 cM_readHead_112 ?_
              refine x_iadd cM_readHead_114 ?_
              refine x_pI cM_readHead_115 fM_91 rfl rfl ?_
              refine x_aload_0 cM_readHead_118 ?_
              refine x_iload_5 cM_readHead_119 ?_
              refine x_pI cM_readHead_121 fM_94 rfl rfl ?_
              refine x_iload_5 cM_readHead_124 ?_
              refine x_bipush (-9) (by decide) cM_readHead_126 ?_
              refine x_icmp_eq cM_readHead_128 (fun q128 => ?_) (fun q128 => absurd q128 (fun z => z rfl))
              refine x_iconst 0 (by decide) cM_readHead_135 ?_
              refine x_ireturn cM_readHead_136 rfl rfl (Nat.zero_le _) (Nat.zero_le _) ?_
              exact h0 5 (by decide) (by decide) nal5 nok5 _ (fin 5 _ _ _ _).1 (fin 5 _ _ _ _).2
          · dsimp only [pushR]
            rw [u2_n (show 91 ≠ 90 by decide)] at hno4
            have nok4 : 4 = n ∨ (4 < n ∧ ¬ okL (I 91) 4) := hno4.imp id (fun z => ⟨z.1, fun w => z.2 ⟨w.1, by have w2 := w.2; rw [if_neg h53] at w2; exact w2⟩⟩)
            have nal4 : ∀ j, 1 ≤ j → j < 4 → okL (I 91) j := al_s (al_s (al_s (al_0 _) ok1) ok2) ok3
            refine x_istore_4 cM_readHead_70 rfl (Nat.le_of_ble_eq_true rfl) ?_
            refine x_iload_4 cM_readHead_72 ?_
            refine x_bipush (-9) (by decide) cM_readHead_74 ?_
            refine x_icmp_ne cM_readHead_76 (fun q76 => absurd q76 (fun z => z rfl)) (fun q76 => ?_)
            refine x_bipush (-9) (by decide) cM_readHead_79 ?_
            refine x_goto cM_readHead_81 ?_
            refine x_istore_5 cM_readHead_91 rfl (Nat.le_of_ble_eq_true rfl) ?_
            refine x_aload_0 cM_readHead_93 ?_
            refine x_iload_1 cM_readHead_94 ?_
            refine x_iconst 2 (by decide) cM_readHead_95 ?_
            refine x_isub cM_readHead_96 ?_
            refine x_pI cM_readHead_97 fM_85 rfl rfl ?_
            refine x_aload_0 cM_readHead_100 ?_
            refine x_iload_2 cM_readHead_101 ?_
            refine x_iconst 2 (by decide) cM_readHead_102 ?_
            refine x_isub cM_readHead_103 ?_
            refine x_pI cM_readHead_104 fM_88 rfl rfl ?_
            refine x_aload_0 cM_readHead_107 ?_
            refine x_bipush 10 (by decide) cM_readHead_108 ?_
            refine x_iload_3 cM_readHead_110 ?_
            refine x_imul cM_readHead_111 ?_
            refine x_iload_4 cM_readHead_112 ?_
            refine x_iadd cM_readHead_114 ?_
            refine x_pI cM_readHead_115 fM_91 rfl rfl ?_
            refine x_aload_0 cM_readHead_118 ?_
            refine x_iload_5 cM_readHead_119 ?_
            refine x_pI cM_readHead_121 fM_94 rfl rfl ?_
            refine x_iload_5 cM_readHead_124 ?_
            refine x_bipush (-9) (by decide) cM_readHead_126 ?_
            refine x_icmp_eq cM_readHead_128 (fun q128 => ?_) (fun q128 => absurd q128 (fun z => z rfl))
            refine x_iconst 0 (by decide) cM_readHead_135 ?_
            refine x_ireturn cM_readHead_136 rfl rfl (Nat.zero_le _) (Nat.zero_le _) ?_
            exact h0 4 (by decide) (by decide) nal4 nok4 _ (fin 4 _ _ _ _).1 (fin 4 _ _ _ _).2
        · have h53 : I 91 3 = 53 := (Int32.sub_add_cancel (I 91 3) 48).symm.trans (by rw [q58]; rfl)
          refine x_iconst 0 (by decide) cM_readHead_61 ?_
          refine x_goto cM_readHead_62 ?_
          refine x_v2 (ls0 := [some _, some _, some _]) cM_readHead_67 kM_81 okM_figure ⟨(Nat.le_of_ble_eq_true rfl), (Nat.le_of_ble_eq_true rfl)⟩ (Nat.le_of_ble_eq_true rfl) rfl (Nat.le_of_ble_eq_true rfl) rfl ⟨_, rfl, rfl⟩ rfl rfl (Nat.zero_le _) (Nat.zero_le _) ?_
          refine s_mfigure (p := 4) (a := 0) (b := 0) (A := 48) (B := 48) (n := n) (by decide) (by decide) (E (nI 4)) hn2 (by rw [u2_ss]) (by omega) (by intro j hj; rw [u2_n (by decide)]; exact hB j hj) (by decide) (by decide) (fun hlt4 hin4 hne4 => ?_) (fun hno4 => ?_)
          · dsimp only [pushR]
            rw [u2_n (show 91 ≠ 90 by decide)] at hin4 hne4 ⊢
            rw [uu]
            have ok4 : okL (I 91) 4 := ⟨hin4.1, by rw [if_pos h53]; exact hin4.2⟩
            refine x_istore_4 cM_readHead_70 rfl (Nat.le_of_ble_eq_true rfl) ?_
            refine x_iload_4 cM_readHead_72 ?_
            refine x_bipush (-9) (by decide) cM_readHead_74 ?_
            refine x_icmp_ne cM_readHead_76 (fun q76 => ?_) (fun q76 => absurd q76 hne4)
            refine x_aload_0 cM_readHead_84 ?_
            refine x_iconst 1 (by decide) cM_readHead_85 ?_
            refine x_bipush 9 (by decide) cM_readHead_86 ?_
            refine x_v2 (ls0 := [some _, some _, some _]) cM_readHead_88 kM_81 okM_figure ⟨(Nat.le_of_ble_eq_true rfl), (Nat.le_of_ble_eq_true rfl)⟩ (Nat.le_of_ble_eq_true rfl) rfl (Nat.le_of_ble_eq_true rfl) rfl ⟨_, rfl, rfl⟩ rfl rfl (Nat.zero_le _) (Nat.zero_le _) ?_
            refine s_mfigure (p := 5) (a := 1) (b := 9) (A := 49) (B := 57) (n := n) (by decide) (by decide) (E (nI 5)) hn2 (by rw [u2_ss]) (by omega) (by intro j hj; rw [u2_n (by decide)]; exact hB j hj) (by decide) (by decide) (fun hlt5 hin5 hne5 => ?_) (fun hno5 => ?_)
            · dsimp only [pushR]
              rw [u2_n (show 91 ≠ 90 by decide)] at hin5 hne5 ⊢
              rw [uu]
              have ok5 : okL (I 91) 5 := hin5
              refine x_istore_5 cM_readHead_91 rfl (Nat.le_of_ble_eq_true rfl) ?_
              refine x_aload_0 cM_readHead_93 ?_
              refine x_iload_1 cM_readHead_94 ?_
              refine x_iconst 2 (by decide) cM_readHead_95 ?_
              refine x_isub cM_readHead_96 ?_
              refine x_pI cM_readHead_97 fM_85 rfl rfl ?_
              refine x_aload_0 cM_readHead_100 ?_
              refine x_iload_2 cM_readHead_101 ?_
              refine x_iconst 2 (by decide) cM_readHead_102 ?_
              refine x_isub cM_readHead_103 ?_
              refine x_pI cM_readHead_104 fM_88 rfl rfl ?_
              refine x_aload_0 cM_readHead_107 ?_
              refine x_bipush 10 (by decide) cM_readHead_108 ?_
              refine x_iload_3 cM_readHead_110 ?_
              refine x_imul cM_readHead_111 ?_
              refine x_iload_4 cM_readHead_112 ?_
              refine x_iadd cM_readHead_114 ?_
              refine x_pI cM_readHead_115 fM_91 rfl rfl ?_
              refine x_aload_0 cM_readHead_118 ?_
              refine x_iload_5 cM_readHead_119 ?_
              refine x_pI cM_readHead_121 fM_94 rfl rfl ?_
              refine x_iload_5 cM_readHead_124 ?_
              refine x_bipush (-9) (by decide) cM_readHead_126 ?_
              refine x_icmp_eq cM_readHead_128 (fun q128 => absurd q128 hne5) (fun q128 => ?_)
              refine x_iconst 1 (by decide) cM_readHead_131 ?_
              refine x_goto cM_readHead_132 ?_
              refine x_ireturn cM_readHead_136 rfl rfl (Nat.zero_le _) (Nat.zero_le _) ?_
              refine h1 (by omega) (al_s (al_s (al_s (al_s (al_s (al_0 _) ok1) ok2) ok3) ok4) ok5) _ (fin 6 _ _ _ _).1 (fin 6 _ _ _ _).2 ?_ ?_ ?_ ?_ ?_
              · rw [u2_sn (by decide), u2_sn (by decide), u2_sn (by decide), u2_sn (by decide), u2_sn (by decide)]
              · rw [u2_sn (by decide), u2_sn (by decide), u2_sn (by decide), u2_ss]
              · rw [u2_sn (by decide), u2_sn (by decide), u2_ss]
              · rw [u2_sn (by decide), u2_ss]
              · rw [u2_ss]
            · dsimp only [pushR]
              rw [u2_n (show 91 ≠ 90 by decide)] at hno5
              have nok5 : 5 = n ∨ (5 < n ∧ ¬ okL (I 91) 5) := hno5
              have nal5 : ∀ j, 1 ≤ j → j < 5 → okL (I 91) j := al_s (al_s (al_s (al_s (al_0 _) ok1) ok2) ok3) ok4
              refine x_istore_5 cM_readHead_91 rfl (Nat.le_of_ble_eq_true rfl) ?_
              refine x_aload_0 cM_readHead_93 ?_
              refine x_iload_1 cM_readHead_94 ?_
              refine x_iconst 2 (by decide) cM_readHead_95 ?_
              refine x_isub cM_readHead_96 ?_
              refine x_pI cM_readHead_97 fM_85 rfl rfl ?_
              refine x_aload_0 cM_readHead_100 ?_
              refine x_iload_2 cM_readHead_101 ?_
              refine x_iconst 2 (by decide) cM_readHead_102 ?_
              refine x_isub cM_readHead_103 ?_
              refine x_pI cM_readHead_104 fM_88 rfl rfl ?_
              refine x_aload_0 cM_readHead_107 ?_
              refine x_bipush 10 (by decide) cM_readHead_108 ?_
              refine x_iload_3 cM_readHead_110 ?_
              refine x_imul cM_readHead_111 ?_
              refine x_iload_4 cM_readHead_112 ?_
              refine x_iadd cM_readHead_114 ?_
              refine x_pI cM_readHead_115 fM_91 rfl rfl ?_
              refine x_aload_0 cM_readHead_118 ?_
              refine x_iload_5 cM_readHead_119 ?_
              refine x_pI cM_readHead_121 fM_94 rfl rfl ?_
              refine x_iload_5 cM_readHead_124 ?_
              refine x_bipush (-9) (by decide) cM_readHead_126 ?_
              refine x_icmp_eq cM_readHead_128 (fun q128 => ?_) (fun q128 => absurd q128 (fun z => z rfl))
              refine x_iconst 0 (by decide) cM_readHead_135 ?_
              refine x_ireturn cM_readHead_136 rfl rfl (Nat.zero_le _) (Nat.zero_le _) ?_
              exact h0 5 (by decide) (by decide) nal5 nok5 _ (fin 5 _ _ _ _).1 (fin 5 _ _ _ _).2
          · dsimp only [pushR]
            rw [u2_n (show 91 ≠ 90 by decide)] at hno4
            have nok4 : 4 = n ∨ (4 < n ∧ ¬ okL (I 91) 4) := hno4.imp id (fun z => ⟨z.1, fun w => z.2 ⟨w.1, by have w2 := w.2; rw [if_pos h53] at w2; exact w2⟩⟩)
            have nal4 : ∀ j, 1 ≤ j → j < 4 → okL (I 91) j := al_s (al_s (al_s (al_0 _) ok1) ok2) ok3
            refine x_istore_4 cM_readHead_70 rfl (Nat.le_of_ble_eq_true rfl) ?_
            refine x_iload_4 cM_readHead_72 ?_
            refine x_bipush (-9) (by decide) cM_readHead_74 ?_
            refine x_icmp_ne cM_readHead_76 (fun q76 => absurd q76 (fun z => z rfl)) (fun q76 => ?_)
            refine x_bipush (-9) (by decide) cM_readHead_79 ?_
            refine x_goto cM_readHead_81 ?_
            refine x_istore_5 cM_readHead_91 rfl (Nat.le_of_ble_eq_true rfl) ?_
            refine x_aload_0 cM_readHead_93 ?_
            refine x_iload_1 cM_readHead_94 ?_
            refine x_iconst 2 (by decide) cM_readHead_95 ?_
            refine x_isub cM_readHead_96 ?_
            refine x_pI cM_readHead_97 fM_85 rfl rfl ?_
            refine x_aload_0 cM_readHead_100 ?_
            refine x_iload_2 cM_readHead_101 ?_
            refine x_iconst 2 (by decide) cM_readHead_102 ?_
            refine x_isub cM_readHead_103 ?_
            refine x_pI cM_readHead_104 fM_88 rfl rfl ?_
            refine x_aload_0 cM_readHead_107 ?_
            refine x_bipush 10 (by decide) cM_readHead_108 ?_
            refine x_iload_3 cM_readHead_110 ?_
            refine x_imul cM_readHead_111 ?_
            refine x_iload_4 cM_readHead_112 ?_
            refine x_iadd cM_readHead_114 ?_
            refine x_pI cM_readHead_115 fM_91 rfl rfl ?_
            refine x_aload_0 cM_readHead_118 ?_
            refine x_iload_5 cM_readHead_119 ?_
            refine x_pI cM_readHead_121 fM_94 rfl rfl ?_
            refine x_iload_5 cM_readHead_124 ?_
            refine x_bipush (-9) (by decide) cM_readHead_126 ?_
            refine x_icmp_eq cM_readHead_128 (fun q128 => ?_) (fun q128 => absurd q128 (fun z => z rfl))
            refine x_iconst 0 (by decide) cM_readHead_135 ?_
            refine x_ireturn cM_readHead_136 rfl rfl (Nat.zero_le _) (Nat.zero_le _) ?_
            exact h0 4 (by decide) (by decide) nal4 nok4 _ (fin 4 _ _ _ _).1 (fin 4 _ _ _ _).2
      · dsimp only [pushR]
        rw [u2_n (show 91 ≠ 90 by decide)] at hno3
        have nok3 : 3 = n ∨ (3 < n ∧ ¬ okL (I 91) 3) := hno3
        have nal3 : ∀ j, 1 ≤ j → j < 3 → okL (I 91) j := al_s (al_s (al_0 _) ok1) ok2
        refine x_istore_3 cM_readHead_42 rfl (Nat.le_of_ble_eq_true rfl) ?_
        refine x_iload_3 cM_readHead_43 ?_
        refine x_bipush (-9) (by decide) cM_readHead_44 ?_
        refine x_icmp_ne cM_readHead_46 (fun q46 => absurd q46 (fun z => z rfl)) (fun q46 => ?_)
        refine x_bipush (-9) (by decide) cM_readHead_49 ?_
        refine x_goto cM_readHead_51 ?_
        refine x_istore_4 cM_readHead_70 rfl (Nat.le_of_ble_eq_true rfl) ?_
        refine x_iload_4 cM_readHead_72 ?_
        refine x_bipush (-9) (by decide) cM_readHead_74 ?_
        refine x_icmp_ne cM_readHead_76 (fun q76 => absurd q76 (fun z => z rfl)) (fun q76 => ?_)
        refine x_bipush (-9) (by decide) cM_readHead_79 ?_
        refine x_goto cM_readHead_81 ?_
        refine x_istore_5 cM_readHead_91 rfl (Nat.le_of_ble_eq_true rfl) ?_
        refine x_aload_0 cM_readHead_93 ?_
        refine x_iload_1 cM_readHead_94 ?_
        refine x_iconst 2 (by decide) cM_readHead_95 ?_
        refine x_isub cM_readHead_96 ?_
        refine x_pI cM_readHead_97 fM_85 rfl rfl ?_
        refine x_aload_0 cM_readHead_100 ?_
        refine x_iload_2 cM_readHead_101 ?_
        refine x_iconst 2 (by decide) cM_readHead_102 ?_
        refine x_isub cM_readHead_103 ?_
        refine x_pI cM_readHead_104 fM_88 rfl rfl ?_
        refine x_aload_0 cM_readHead_107 ?_
        refine x_bipush 10 (by decide) cM_readHead_108 ?_
        refine x_iload_3 cM_readHead_110 ?_
        refine x_imul cM_readHead_111 ?_
        refine x_iload_4 cM_readHead_112 ?_
        refine x_iadd cM_readHead_114 ?_
        refine x_pI cM_readHead_115 fM_91 rfl rfl ?_
        refine x_aload_0 cM_readHead_118 ?_
        refine x_iload_5 cM_readHead_119 ?_
        refine x_pI cM_readHead_121 fM_94 rfl rfl ?_
        refine x_iload_5 cM_readHead_124 ?_
        refine x_bipush (-9) (by decide) cM_readHead_126 ?_
        refine x_icmp_eq cM_readHead_128 (fun q128 => ?_) (fun q128 => absurd q128 (fun z => z rfl))
        refine x_iconst 0 (by decide) cM_readHead_135 ?_
        refine x_ireturn cM_readHead_136 rfl rfl (Nat.zero_le _) (Nat.zero_le _) ?_
        exact h0 3 (by decide) (by decide) nal3 nok3 _ (fin 3 _ _ _ _).1 (fin 3 _ _ _ _).2
    · dsimp only [pushR]
      rw [u2_n (show 91 ≠ 90 by decide)] at hno2
      have nok2 : 2 = n ∨ (2 < n ∧ ¬ okL (I 91) 2) := hno2
      have nal2 : ∀ j, 1 ≤ j → j < 2 → okL (I 91) j := al_s (al_0 _) ok1
      refine x_istore_2 cM_readHead_24 rfl (Nat.le_of_ble_eq_true rfl) ?_
      refine x_iload_2 cM_readHead_25 ?_
      refine x_bipush (-9) (by decide) cM_readHead_26 ?_
      refine x_icmp_ne cM_readHead_28 (fun q28 => absurd q28 (fun z => z rfl)) (fun q28 => ?_)
      refine x_bipush (-9) (by decide) cM_readHead_31 ?_
      refine x_goto cM_readHead_33 ?_
      refine x_istore_3 cM_readHead_42 rfl (Nat.le_of_ble_eq_true rfl) ?_
      refine x_iload_3 cM_readHead_43 ?_
      refine x_bipush (-9) (by decide) cM_readHead_44 ?_
      refine x_icmp_ne cM_readHead_46 (fun q46 => absurd q46 (fun z => z rfl)) (fun q46 => ?_)
      refine x_bipush (-9) (by decide) cM_readHead_49 ?_
      refine x_goto cM_readHead_51 ?_
      refine x_istore_4 cM_readHead_70 rfl (Nat.le_of_ble_eq_true rfl) ?_
      refine x_iload_4 cM_readHead_72 ?_
      refine x_bipush (-9) (by decide) cM_readHead_74 ?_
      refine x_icmp_ne cM_readHead_76 (fun q76 => absurd q76 (fun z => z rfl)) (fun q76 => ?_)
      refine x_bipush (-9) (by decide) cM_readHead_79 ?_
      refine x_goto cM_readHead_81 ?_
      refine x_istore_5 cM_readHead_91 rfl (Nat.le_of_ble_eq_true rfl) ?_
      refine x_aload_0 cM_readHead_93 ?_
      refine x_iload_1 cM_readHead_94 ?_
      refine x_iconst 2 (by decide) cM_readHead_95 ?_
      refine x_isub cM_readHead_96 ?_
      refine x_pI cM_readHead_97 fM_85 rfl rfl ?_
      refine x_aload_0 cM_readHead_100 ?_
      refine x_iload_2 cM_readHead_101 ?_
      refine x_iconst 2 (by decide) cM_readHead_102 ?_
      refine x_isub cM_readHead_103 ?_
      refine x_pI cM_readHead_104 fM_88 rfl rfl ?_
      refine x_aload_0 cM_readHead_107 ?_
      refine x_bipush 10 (by decide) cM_readHead_108 ?_
      refine x_iload_3 cM_readHead_110 ?_
      refine x_imul cM_readHead_111 ?_
      refine x_iload_4 cM_readHead_112 ?_
      refine x_iadd cM_readHead_114 ?_
      refine x_pI cM_readHead_115 fM_91 rfl rfl ?_
      refine x_aload_0 cM_readHead_118 ?_
      refine x_iload_5 cM_readHead_119 ?_
      refine x_pI cM_readHead_121 fM_94 rfl rfl ?_
      refine x_iload_5 cM_readHead_124 ?_
      refine x_bipush (-9) (by decide) cM_readHead_126 ?_
      refine x_icmp_eq cM_readHead_128 (fun q128 => ?_) (fun q128 => absurd q128 (fun z => z rfl))
      refine x_iconst 0 (by decide) cM_readHead_135 ?_
      refine x_ireturn cM_readHead_136 rfl rfl (Nat.zero_le _) (Nat.zero_le _) ?_
      exact h0 2 (by decide) (by decide) nal2 nok2 _ (fin 2 _ _ _ _).1 (fin 2 _ _ _ _).2
  · dsimp only [pushR]
    rw [u2_n (show 91 ≠ 90 by decide)] at hno1
    have nok1 : 1 = n ∨ (1 < n ∧ ¬ okL (I 91) 1) := hno1
    have nal1 : ∀ j, 1 ≤ j → j < 1 → okL (I 91) j := al_0 _
    refine x_istore_1 cM_readHead_6 rfl (Nat.le_of_ble_eq_true rfl) ?_
    refine x_iload_1 cM_readHead_7 ?_
    refine x_bipush (-9) (by decide) cM_readHead_8 ?_
    refine x_icmp_ne cM_readHead_10 (fun q10 => absurd q10 (fun z => z rfl)) (fun q10 => ?_)
    refine x_bipush (-9) (by decide) cM_readHead_13 ?_
    refine x_goto cM_readHead_15 ?_
    refine x_istore_2 cM_readHead_24 rfl (Nat.le_of_ble_eq_true rfl) ?_
    refine x_iload_2 cM_readHead_25 ?_
    refine x_bipush (-9) (by decide) cM_readHead_26 ?_
    refine x_icmp_ne cM_readHead_28 (fun q28 => absurd q28 (fun z => z rfl)) (fun q28 => ?_)
    refine x_bipush (-9) (by decide) cM_readHead_31 ?_
    refine x_goto cM_readHead_33 ?_
    refine x_istore_3 cM_readHead_42 rfl (Nat.le_of_ble_eq_true rfl) ?_
    refine x_iload_3 cM_readHead_43 ?_
    refine x_bipush (-9) (by decide) cM_readHead_44 ?_
    refine x_icmp_ne cM_readHead_46 (fun q46 => absurd q46 (fun z => z rfl)) (fun q46 => ?_)
    refine x_bipush (-9) (by decide) cM_readHead_49 ?_
    refine x_goto cM_readHead_51 ?_
    refine x_istore_4 cM_readHead_70 rfl (Nat.le_of_ble_eq_true rfl) ?_
    refine x_iload_4 cM_readHead_72 ?_
    refine x_bipush (-9) (by decide) cM_readHead_74 ?_
    refine x_icmp_ne cM_readHead_76 (fun q76 => absurd q76 (fun z => z rfl)) (fun q76 => ?_)
    refine x_bipush (-9) (by decide) cM_readHead_79 ?_
    refine x_goto cM_readHead_81 ?_
    refine x_istore_5 cM_readHead_91 rfl (Nat.le_of_ble_eq_true rfl) ?_
    refine x_aload_0 cM_readHead_93 ?_
    refine x_iload_1 cM_readHead_94 ?_
    refine x_iconst 2 (by decide) cM_readHead_95 ?_
    refine x_isub cM_readHead_96 ?_
    refine x_pI cM_readHead_97 fM_85 rfl rfl ?_
    refine x_aload_0 cM_readHead_100 ?_
    refine x_iload_2 cM_readHead_101 ?_
    refine x_iconst 2 (by decide) cM_readHead_102 ?_
    refine x_isub cM_readHead_103 ?_
    refine x_pI cM_readHead_104 fM_88 rfl rfl ?_
    refine x_aload_0 cM_readHead_107 ?_
    refine x_bipush 10 (by decide) cM_readHead_108 ?_
    refine x_iload_3 cM_readHead_110 ?_
    refine x_imul cM_readHead_111 ?_
    refine x_iload_4 cM_readHead_112 ?_
    refine x_iadd cM_readHead_114 ?_
    refine x_pI cM_readHead_115 fM_91 rfl rfl ?_
    refine x_aload_0 cM_readHead_118 ?_
    refine x_iload_5 cM_readHead_119 ?_
    refine x_pI cM_readHead_121 fM_94 rfl rfl ?_
    refine x_iload_5 cM_readHead_124 ?_
    refine x_bipush (-9) (by decide) cM_readHead_126 ?_
    refine x_icmp_eq cM_readHead_128 (fun q128 => ?_) (fun q128 => absurd q128 (fun z => z rfl))
    refine x_iconst 0 (by decide) cM_readHead_135 ?_
    refine x_ireturn cM_readHead_136 rfl rfl (Nat.zero_le _) (Nat.zero_le _) ?_
    exact h0 1 (by decide) (by decide) nal1 nok1 _ (fin 1 _ _ _ _).1 (fin 1 _ _ _ _).2
theorem u2_u2 (I : IT) (a j : Nat) (v w : Int32) : u2 (u2 I a j v) a j w = u2 I a j w := by
  funext b i
  rw [u2_g, u2_g, u2_g]
  by_cases h : b = a ∧ i = j
  · rw [if_pos h, if_pos h]
  · rw [if_neg h, if_neg h, if_neg h]
theorem ok_6 {t : Nat → Int32} {k : Nat} : okL t (4 * k + 6) ↔ k < 5 ∧ t (4 * k + 6) = 89 := by
  show (4 * k < 20 ∧ okR (4 * k % 4) (t (4 * k + 6))) ↔ _
  rw [show 4 * k % 4 = 0 by omega]
  exact ⟨fun z => ⟨by omega, z.2⟩, fun z => ⟨by omega, z.2⟩⟩
theorem ok_7 {t : Nat → Int32} {k : Nat} : okL t (4 * k + 7) ↔ k < 5 ∧ 49 ≤ t (4 * k + 7) ∧ t (4 * k + 7) ≤ 57 := by
  show (4 * k + 1 < 20 ∧ okR ((4 * k + 1) % 4) (t (4 * k + 7))) ↔ _
  rw [show (4 * k + 1) % 4 = 1 by omega]
  exact ⟨fun z => ⟨by omega, z.2⟩, fun z => ⟨by omega, z.2⟩⟩
theorem ok_8 {t : Nat → Int32} {k : Nat} : okL t (4 * k + 8) ↔ k < 5 ∧ 48 ≤ t (4 * k + 8) ∧ t (4 * k + 8) ≤ 52 := by
  show (4 * k + 2 < 20 ∧ okR ((4 * k + 2) % 4) (t (4 * k + 8))) ↔ _
  rw [show (4 * k + 2) % 4 = 2 by omega]
  exact ⟨fun z => ⟨by omega, z.2⟩, fun z => ⟨by omega, z.2⟩⟩
theorem ok_9 {t : Nat → Int32} {k : Nat} : okL t (4 * k + 9) ↔ k < 5 ∧ 48 ≤ t (4 * k + 9) ∧ t (4 * k + 9) ≤ 51 := by
  show (4 * k + 3 < 20 ∧ okR ((4 * k + 3) % 4) (t (4 * k + 9))) ↔ _
  rw [show (4 * k + 3) % 4 = 3 by omega]
  exact ⟨fun z => ⟨by omega, z.2⟩, fun z => ⟨by omega, z.2⟩⟩
/-- what a STRING read through leaves -/
def RdOut (I I' : IT) (k : Nat) : Prop := RdF I I' ∧ I' 90 7 = nI k ∧ I' 90 8 = I 91 1 - 48 - 2 ∧ I' 90 9 = I 91 2 - 48 - 2 ∧ I' 90 10 = 10 * (I 91 3 - 48) + (I 91 4 - 48) ∧ I' 90 11 = I 91 5 - 48 ∧ ∀ i, i < k → I' 93 i = I 91 (4 * i + 7) - 48 ∧ I' 94 i = I 91 (4 * i + 8) - 48 - 2 ∧ I' 95 i = I 91 (4 * i + 9) - 48
theorem all_s {t : Nat → Int32} {p : Nat} (h : ∀ j, j < p → okL t j) (hp : okL t p) : ∀ j, j < p + 1 → okL t j := fun j hj => by
  rcases Nat.lt_or_ge j p with z | z
  · exact h j z
  · rw [show j = p by omega]; exact hp
theorem s_readString_loop {Po : Option Value → HS → Prop} {I : IT} {J : JT} {P : PT} {n : Nat} (hn : I 90 2 = nI n) (hn2 : n ≤ 32) (hB : Byt (I 91) n) (h1 : ∀ k I', n = 4 * k + 6 → k ≤ 5 → (∀ j, j < n → okL (I 91) j) → RdOut I I' k → Po (some (.int (-9))) (hp I' J P)) (h0 : ∀ p I', p ≤ n → (p < n → ¬ okL (I 91) p) → (p = n → ¬ ended n) → (∀ j, j < p → okL (I 91) j) → RdF I I' → Po (some (.int (nI p))) (hp I' J P)) : ∀ m k, k + m = 6 → k ≤ 5 → 4 * k + 6 ≤ n → (∀ j, j < 4 * k + 6 → okL (I 91) j) → ∀ {I' : IT}, I' 90 3 = nI (4 * k + 6) → RdOut I I' k → ∀ {a b c}, xj yM_readString (mG yM_readString Po) 47 [some (.ref 90), a, b, c] [] (hp I' J P) 0 0 := by
  intro m
  induction m with
  | zero => intro k hk h; exact absurd h (by omega)
  | succ m ih =>
    intro k hk hk6 hkn ha I' hp3 hR a b c
    have hn' : I' 90 2 = nI n := by rw [hR.1.2 2 (by decide) (by decide) (by decide) (by decide) (by decide) (by decide)]; exact hn
    have h91 : I' 91 = I 91 := hR.1.1 91 (by decide) (by decide) (by decide) (by decide)
    refine x_aload_0 cM_readString_47 ?_
    refine x_gI cM_readString_48 fM_78 rfl rfl ?_
    refine x_aload_0 cM_readString_51 ?_
    refine x_gI cM_readString_52 fM_75 rfl rfl ?_
    refine x_icmp_ge cM_readString_55 (fun q55 => ?_) (fun q55 => ?_)
    · have e : n = 4 * k + 6 := by
        rw [hp3, hn'] at q55
        rcases Nat.lt_or_ge (4 * k + 6) n with z | z
        · exact absurd q55 (nI_ge z (by omega))
        · omega
      refine x_bipush (-9) (by decide) cM_readString_195 ?_
      refine x_ireturn cM_readString_197 rfl rfl (Nat.zero_le _) (Nat.zero_le _) ?_
      exact h1 k I' e hk6 (by rw [e]; exact ha) hR
    · have hlt : 4 * k + 6 < n := by
        rw [hp3, hn'] at q55
        rcases Nat.lt_or_ge (4 * k + 6) n with z | z
        · exact z
        · exact absurd (by rw [show n = 4 * k + 6 by omega]; exact Int32.le_refl _) q55
      refine x_aload_0 cM_readString_58 ?_
      refine x_gR (b := 91) cM_readString_59 fM_7 rfl rfl rfl ?_
      refine x_aload_0 cM_readString_62 ?_
      refine x_gI cM_readString_63 fM_78 rfl rfl ?_
      refine x_al (4 * k + 6) cM_readString_66 rfl hp3 (by omega) (by decide) ?_
      refine x_bipush 89 (by decide) cM_readString_67 ?_
      refine x_icmp_ne cM_readString_69 (fun q69 => ?_) (fun q69 => ?_)
      · refine x_aload_0 cM_readString_80 ?_
        refine x_gI cM_readString_81 fM_78 rfl rfl ?_
        refine x_top (nI (4 * k + 6)) hp3 ?_
        refine x_ireturn cM_readString_84 rfl rfl (Nat.zero_le _) (Nat.zero_le _) ?_
        exact h0 _ _ (by omega) (fun z w => q69 (by rw [h91]; exact (ok_6.mp w).2)) (fun z => absurd z (by omega)) ha hR.1
      · have q69b : I 91 (4 * k + 6) = 89 := by rw [← h91]; exact q69
        refine x_aload_0 cM_readString_72 ?_
        refine x_gI cM_readString_73 fM_97 rfl rfl ?_
        refine x_iconst 5 (by decide) cM_readString_76 ?_
        refine x_icmp_ne cM_readString_77 (fun q77 => ?_) (fun q77 => ?_)
        · have hk5 : k < 5 := by
            rw [hR.2.1] at q77
            exact Nat.lt_of_le_of_ne hk6 (fun z => q77 (by rw [z]; rfl))
          have o6 : okL (I 91) (4 * k + 6) := ok_6.mpr ⟨hk5, q69b⟩
          have al6 := all_s ha o6
          refine x_aload_0 cM_readString_85 ?_
          refine x_dup rfl cM_readString_86 ?_
          refine x_gI cM_readString_87 fM_78 rfl rfl ?_
          refine x_iconst 1 (by decide) cM_readString_90 ?_
          refine x_iadd cM_readString_91 ?_
          refine x_top (nI (4 * k + 7)) (by rw [hp3, nI_1]) ?_
          refine x_pI cM_readString_92 fM_78 rfl rfl ?_
          refine x_aload_0 cM_readString_95 ?_
          refine x_iconst 1 (by decide) cM_readString_96 ?_
          refine x_bipush 9 (by decide) cM_readString_97 ?_
          refine x_v2 (ls0 := [some _, some _, some _]) cM_readString_99 kM_81 okM_figure ⟨(Nat.le_of_ble_eq_true rfl), (Nat.le_of_ble_eq_true rfl)⟩ (Nat.le_of_ble_eq_true rfl) rfl (Nat.le_of_ble_eq_true rfl) rfl ⟨_, rfl, rfl⟩ rfl rfl (Nat.zero_le _) (Nat.zero_le _) ?_
          refine s_mfigure (p := 4 * k + 7) (a := 1) (b := 9) (A := 49) (B := 57) (n := n) (by decide) (by decide) (by rw [u2_sn (by decide)]; exact hn') hn2 (by rw [u2_ss]) (by omega) (by intro j hj; rw [u2_n (by decide), h91]; exact hB j hj) (by decide) (by decide) (fun hl19 hi19 hne19 => ?_) (fun hno19 => ?_)
          · dsimp only [pushR]
            rw [u2_n (show 91 ≠ 90 by decide), h91] at hi19 hne19 ⊢
            rw [u2_u2]
            have o7 : okL (I 91) (4 * k + 7) := ok_7.mpr ⟨hk5, hi19⟩
            have al7 := all_s al6 o7
            have hle7 : 4 * k + 7 + 1 ≤ n := by omega
            refine x_istore_1 cM_readString_102 rfl (Nat.le_of_ble_eq_true rfl) ?_
            refine x_iload_1 cM_readString_103 ?_
            refine x_bipush (-9) (by decide) cM_readString_104 ?_
            refine x_icmp_ne cM_readString_106 (fun q106 => ?_) (fun q106 => absurd q106 hne19)
            refine x_aload_0 cM_readString_114 ?_
            refine x_iconst 0 (by decide) cM_readString_115 ?_
            refine x_iconst 4 (by decide) cM_readString_116 ?_
            refine x_v2 (ls0 := [some _, some _, some _]) cM_readString_117 kM_81 okM_figure ⟨(Nat.le_of_ble_eq_true rfl), (Nat.le_of_ble_eq_true rfl)⟩ (Nat.le_of_ble_eq_true rfl) rfl (Nat.le_of_ble_eq_true rfl) rfl ⟨_, rfl, rfl⟩ rfl rfl (Nat.zero_le _) (Nat.zero_le _) ?_
            refine s_mfigure (p := 4 * k + 8) (a := 0) (b := 4) (A := 48) (B := 52) (n := n) (by decide) (by decide) (by rw [u2_sn (by decide)]; exact hn') hn2 (by rw [u2_ss]) (by omega) (by intro j hj; rw [u2_n (by decide), h91]; exact hB j hj) (by decide) (by decide) (fun hl04 hi04 hne04 => ?_) (fun hno04 => ?_)
            · dsimp only [pushR]
              rw [u2_n (show 91 ≠ 90 by decide), h91] at hi04 hne04 ⊢
              rw [u2_u2]
              have o8 : okL (I 91) (4 * k + 8) := ok_8.mpr ⟨hk5, hi04⟩
              have al8 := all_s al7 o8
              have hle8 : 4 * k + 8 + 1 ≤ n := by omega
              refine x_istore_2 cM_readString_120 rfl (Nat.le_of_ble_eq_true rfl) ?_
              refine x_iload_2 cM_readString_121 ?_
              refine x_bipush (-9) (by decide) cM_readString_122 ?_
              refine x_icmp_ne cM_readString_124 (fun q124 => ?_) (fun q124 => absurd q124 hne04)
              refine x_aload_0 cM_readString_132 ?_
              refine x_iconst 0 (by decide) cM_readString_133 ?_
              refine x_iconst 3 (by decide) cM_readString_134 ?_
              refine x_v2 (ls0 := [some _, some _, some _]) cM_readString_135 kM_81 okM_figure ⟨(Nat.le_of_ble_eq_true rfl), (Nat.le_of_ble_eq_true rfl)⟩ (Nat.le_of_ble_eq_true rfl) rfl (Nat.le_of_ble_eq_true rfl) rfl ⟨_, rfl, rfl⟩ rfl rfl (Nat.zero_le _) (Nat.zero_le _) ?_
              refine s_mfigure (p := 4 * k + 9) (a := 0) (b := 3) (A := 48) (B := 51) (n := n) (by decide) (by decide) (by rw [u2_sn (by decide)]; exact hn') hn2 (by rw [u2_ss]) (by omega) (by intro j hj; rw [u2_n (by decide), h91]; exact hB j hj) (by decide) (by decide) (fun hl03 hi03 hne03 => ?_) (fun hno03 => ?_)
              · dsimp only [pushR]
                rw [u2_n (show 91 ≠ 90 by decide), h91] at hi03 hne03 ⊢
                rw [u2_u2]
                have o9 : okL (I 91) (4 * k + 9) := ok_9.mpr ⟨hk5, hi03⟩
                have al9 := all_s al8 o9
                have hle9 : 4 * k + 9 + 1 ≤ n := by omega
                refine x_istore_3 cM_readString_138 rfl (Nat.le_of_ble_eq_true rfl) ?_
                refine x_iload_3 cM_readString_139 ?_
                refine x_bipush (-9) (by decide) cM_readString_140 ?_
                refine x_icmp_ne cM_readString_142 (fun q142 => ?_) (fun q142 => absurd q142 hne03)
                refine x_aload_0 cM_readString_150 ?_
                refine x_gR (b := 93) cM_readString_151 fM_20 rfl rfl rfl ?_
                refine x_aload_0 cM_readString_154 ?_
                refine x_gI cM_readString_155 fM_97 rfl rfl ?_
                refine x_iload_1 cM_readString_158 ?_
                refine x_as (k) cM_readString_159 rfl (by rw [u2_sn (by decide)]; exact hR.2.1) (by omega) (by decide) ?_
                refine x_aload_0 cM_readString_160 ?_
                refine x_gR (b := 94) cM_readString_161 fM_23 rfl rfl rfl ?_
                refine x_aload_0 cM_readString_164 ?_
                refine x_gI cM_readString_165 fM_97 rfl rfl ?_
                refine x_iload_2 cM_readString_168 ?_
                refine x_iconst 2 (by decide) cM_readString_169 ?_
                refine x_isub cM_readString_170 ?_
                refine x_as (k) cM_readString_171 rfl (by rw [u2_n (by decide), u2_sn (by decide)]; exact hR.2.1) (by omega) (by decide) ?_
                refine x_aload_0 cM_readString_172 ?_
                refine x_gR (b := 95) cM_readString_173 fM_26 rfl rfl rfl ?_
                refine x_aload_0 cM_readString_176 ?_
                refine x_gI cM_readString_177 fM_97 rfl rfl ?_
                refine x_iload_3 cM_readString_180 ?_
                refine x_as (k) cM_readString_181 rfl (by rw [u2_n (by decide), u2_n (by decide), u2_sn (by decide)]; exact hR.2.1) (by omega) (by decide) ?_
                refine x_aload_0 cM_readString_182 ?_
                refine x_dup rfl cM_readString_183 ?_
                refine x_gI cM_readString_184 fM_97 rfl rfl ?_
                refine x_iconst 1 (by decide) cM_readString_187 ?_
                refine x_iadd cM_readString_188 ?_
                refine x_top (nI (k + 1)) (by rw [u2_n (by decide), u2_n (by decide), u2_n (by decide), u2_sn (by decide), hR.2.1, nI_1]) ?_
                refine x_pI cM_readString_189 fM_97 rfl rfl ?_
                refine x_goto cM_readString_192 ?_
                refine ih (k + 1) (by omega) (by omega) (by omega) ?_ (by rw [u2_sn (by decide), u2_n (by decide), u2_n (by decide), u2_n (by decide), u2_ss]; exact congrArg nI (by omega)) ⟨⟨fun a a1 a2 a3 a4 => by rw [u2_n a1, u2_n a4, u2_n a3, u2_n a2, u2_n a1]; exact hR.1.1 a a1 a2 a3 a4, fun j j1 j2 j3 j4 j5 j6 => by rw [u2_sn j2, u2_n (by decide), u2_n (by decide), u2_n (by decide), u2_sn j1]; exact hR.1.2 j j1 j2 j3 j4 j5 j6⟩, by rw [u2_ss], ?_, ?_, ?_, ?_, fun i hi => ?_⟩
                · exact al9
                · rw [u2_sn (by decide), u2_n (by decide), u2_n (by decide), u2_n (by decide), u2_sn (by decide)]; exact hR.2.2.1
                · rw [u2_sn (by decide), u2_n (by decide), u2_n (by decide), u2_n (by decide), u2_sn (by decide)]; exact hR.2.2.2.1
                · rw [u2_sn (by decide), u2_n (by decide), u2_n (by decide), u2_n (by decide), u2_sn (by decide)]; exact hR.2.2.2.2.1
                · rw [u2_sn (by decide), u2_n (by decide), u2_n (by decide), u2_n (by decide), u2_sn (by decide)]; exact hR.2.2.2.2.2.1
                · by_cases e : i = k
                  · subst e
                    simp [u2_g]
                  · have := hR.2.2.2.2.2.2 i (by omega)
                    simp [u2_g, e, this]
              · dsimp only [pushR]
                rw [u2_n (show 91 ≠ 90 by decide), h91] at hno03
                refine x_istore_3 cM_readString_138 rfl (Nat.le_of_ble_eq_true rfl) ?_
                refine x_iload_3 cM_readString_139 ?_
                refine x_bipush (-9) (by decide) cM_readString_140 ?_
                refine x_icmp_ne cM_readString_142 (fun q142 => absurd q142 (fun z => z rfl)) (fun q142 => ?_)
                refine x_aload_0 cM_readString_145 ?_
                refine x_gI cM_readString_146 fM_78 rfl rfl ?_
                refine x_ireturn cM_readString_149 rfl rfl (Nat.zero_le _) (Nat.zero_le _) ?_
                exact h0 (4 * k + 9) _ (by omega) (fun z => fun w => (hno03.resolve_left (by omega)).2 (ok_9.mp w).2) (fun z => fun w => absurd w.2 (by omega)) al8 (hR.1.tr (RdF.pl _ _))
            · dsimp only [pushR]
              rw [u2_n (show 91 ≠ 90 by decide), h91] at hno04
              refine x_istore_2 cM_readString_120 rfl (Nat.le_of_ble_eq_true rfl) ?_
              refine x_iload_2 cM_readString_121 ?_
              refine x_bipush (-9) (by decide) cM_readString_122 ?_
              refine x_icmp_ne cM_readString_124 (fun q124 => absurd q124 (fun z => z rfl)) (fun q124 => ?_)
              refine x_bipush (-9) (by decide) cM_readString_127 ?_
              refine x_goto cM_readString_129 ?_
              refine x_istore_3 cM_readString_138 rfl (Nat.le_of_ble_eq_true rfl) ?_
              refine x_iload_3 cM_readString_139 ?_
              refine x_bipush (-9) (by decide) cM_readString_140 ?_
              refine x_icmp_ne cM_readString_142 (fun q142 => absurd q142 (fun z => z rfl)) (fun q142 => ?_)
              refine x_aload_0 cM_readString_145 ?_
              refine x_gI cM_readString_146 fM_78 rfl rfl ?_
              refine x_ireturn cM_readString_149 rfl rfl (Nat.zero_le _) (Nat.zero_le _) ?_
              exact h0 (4 * k + 8) _ (by omega) (fun z => fun w => (hno04.resolve_left (by omega)).2 (ok_8.mp w).2) (fun z => fun w => absurd w.2 (by omega)) al7 (hR.1.tr (RdF.pl _ _))
          · dsimp only [pushR]
            rw [u2_n (show 91 ≠ 90 by decide), h91] at hno19
            refine x_istore_1 cM_readString_102 rfl (Nat.le_of_ble_eq_true rfl) ?_
            refine x_iload_1 cM_readString_103 ?_
            refine x_bipush (-9) (by decide) cM_readString_104 ?_
            refine x_icmp_ne cM_readString_106 (fun q106 => absurd q106 (fun z => z rfl)) (fun q106 => ?_)
            refine x_bipush (-9) (by decide) cM_readString_109 ?_
            refine x_goto cM_readString_111 ?_
            refine x_istore_2 cM_readString_120 rfl (Nat.le_of_ble_eq_true rfl) ?_
            refine x_iload_2 cM_readString_121 ?_
            refine x_bipush (-9) (by decide) cM_readString_122 ?_
            refine x_icmp_ne cM_readString_124 (fun q124 => absurd q124 (fun z => z rfl)) (fun q124 => ?_)
            refine x_bipush (-9) (by decide) cM_readString_127 ?_
            refine x_goto cM_readString_129 ?_
            refine x_istore_3 cM_readString_138 rfl (Nat.le_of_ble_eq_true rfl) ?_
            refine x_iload_3 cM_readString_139 ?_
            refine x_bipush (-9) (by decide) cM_readString_140 ?_
            refine x_icmp_ne cM_readString_142 (fun q142 => absurd q142 (fun z => z rfl)) (fun q142 => ?_)
            refine x_aload_0 cM_readString_145 ?_
            refine x_gI cM_readString_146 fM_78 rfl rfl ?_
            refine x_ireturn cM_readString_149 rfl rfl (Nat.zero_le _) (Nat.zero_le _) ?_
            exact h0 (4 * k + 7) _ (by omega) (fun z => fun w => (hno19.resolve_left (by omega)).2 (ok_7.mp w).2) (fun z => fun w => absurd w.2 (by omega)) al6 (hR.1.tr (RdF.pl _ _))
        · have hk5 : k = 5 := by
            rw [hR.2.1] at q77
            exact (nI_eq (b := 5) (by omega) (by decide)).mp q77
          refine x_aload_0 cM_readString_80 ?_
          refine x_gI cM_readString_81 fM_78 rfl rfl ?_
          refine x_top (nI (4 * k + 6)) hp3 ?_
          refine x_ireturn cM_readString_84 rfl rfl (Nat.zero_le _) (Nat.zero_le _) ?_
          exact h0 _ _ (by omega) (fun z w => absurd (ok_6.mp w).1 (by omega)) (fun z => absurd z (by omega)) ha hR.1
theorem s_readString {Po : Option Value → HS → Prop} {I : IT} {J : JT} {P : PT} {n : Nat} (hn : I 90 2 = nI n) (hn2 : n ≤ 32) (hB : Byt (I 91) n) (h1 : ∀ k I', n = 4 * k + 6 → k ≤ 5 → (∀ j, j < n → okL (I 91) j) → RdOut I I' k → Po (some (.int (-9))) (hp I' J P)) (h0 : ∀ p I', p ≤ n → (p < n → ¬ okL (I 91) p) → (p = n → ¬ ended n) → (∀ j, j < p → okL (I 91) j) → RdF I I' → Po (some (.int (nI p))) (hp I' J P)) : xj yM_readString (mG yM_readString Po) 0 [some (.ref 90), none, none, none] [] (hp I J P) 0 0 := by
  have hz : RdF I (u2 (u2 I 90 3 0) 90 7 0) := ⟨fun a a1 _ _ _ => by rw [u2_n a1, u2_n a1], fun j j1 j2 _ _ _ _ => by rw [u2_sn j2, u2_sn j1]⟩
  have hy : RdF I (u2 (u2 (u2 I 90 3 0) 90 7 0) 90 3 1) := hz.tr (RdF.pl _ _)
  refine x_aload_0 cM_readString_0 ?_
  refine x_iconst 0 (by decide) cM_readString_1 ?_
  refine x_pI cM_readString_2 fM_78 rfl rfl ?_
  refine x_aload_0 cM_readString_5 ?_
  refine x_iconst 0 (by decide) cM_readString_6 ?_
  refine x_pI cM_readString_7 fM_97 rfl rfl ?_
  refine x_aload_0 cM_readString_10 ?_
  refine x_gI cM_readString_11 fM_75 rfl rfl ?_
  refine x_if_eq cM_readString_14 (fun q14 => ?_) (fun q14 => ?_)
  · have hn0 : n = 0 := by
      rw [u2_sn (by decide), u2_sn (by decide), hn] at q14
      exact (nI_eq (b := 0) (by omega) (by decide)).mp q14
    refine x_iconst 0 (by decide) cM_readString_28 ?_
    refine x_ireturn cM_readString_29 rfl rfl (Nat.zero_le _) (Nat.zero_le _) ?_
    exact h0 0 _ (by omega) (fun z => absurd z (by omega)) (fun z w => absurd w.1 (by omega)) (fun j hj => absurd hj (Nat.not_lt_zero j)) hz
  · have hn0 : 0 < n := by
      rw [u2_sn (by decide), u2_sn (by decide), hn] at q14
      exact Nat.pos_of_ne_zero (fun z => q14 (by rw [z]; rfl))
    refine x_aload_0 cM_readString_17 ?_
    refine x_gR (b := 91) cM_readString_18 fM_7 rfl rfl rfl ?_
    refine x_iconst 0 (by decide) cM_readString_21 ?_
    refine x_al (0) cM_readString_22 rfl rfl (by decide) (by decide) ?_
    refine x_bipush 75 (by decide) cM_readString_23 ?_
    refine x_icmp_eq cM_readString_25 (fun q25 => ?_) (fun q25 => ?_)
    · have o0 : okL (I 91) 0 := by rw [u2_n (by decide), u2_n (by decide)] at q25; exact q25
      refine x_aload_0 cM_readString_30 ?_
      refine x_iconst 1 (by decide) cM_readString_31 ?_
      refine x_pI cM_readString_32 fM_78 rfl rfl ?_
      refine x_aload_0 cM_readString_35 ?_
      refine x_v0 (ls0 := [some _, none, none, none, none, none]) cM_readString_36 kM_100 okM_readHead ⟨(Nat.le_of_ble_eq_true rfl), (Nat.le_of_ble_eq_true rfl)⟩ (Nat.le_of_ble_eq_true rfl) rfl (Nat.le_of_ble_eq_true rfl) rfl ⟨_, rfl, rfl⟩ rfl rfl (Nat.zero_le _) (Nat.zero_le _) ?_
      refine s_readHead (n := n) (by rw [u2_sn (by decide), u2_sn (by decide), u2_sn (by decide)]; exact hn) hn2 (by rw [u2_ss]; rfl) hn0 (by intro j hj; rw [u2_n (by decide), u2_n (by decide), u2_n (by decide)]; exact hB j hj) (fun h6 hal I' hF b3 b7 b8 b9 b10 b11 => ?_) (fun p hp1 hp6 hal hno I' hF b3 => ?_)
      · dsimp only [pushR]
        rw [u2_n (show 91 ≠ 90 by decide), u2_n (show 91 ≠ 90 by decide), u2_n (show 91 ≠ 90 by decide)] at hal b8 b9 b10 b11
        refine x_if_ne cM_readString_39 (fun _ => ?_) (fun q => absurd q (by decide))
        exact s_readString_loop hn hn2 hB h1 h0 6 0 (by decide) (by decide) (by omega) (fun j hj => by
          rcases Nat.eq_zero_or_pos j with e | e
          · rw [e]; exact o0
          · exact hal j e hj) b3 ⟨hy.tr hF, by rw [b7, u2_sn (by decide), u2_ss]; rfl, b8, b9, b10, b11, fun i hi => absurd hi (Nat.not_lt_zero i)⟩
      · dsimp only [pushR]
        rw [u2_n (show 91 ≠ 90 by decide), u2_n (show 91 ≠ 90 by decide), u2_n (show 91 ≠ 90 by decide)] at hal hno
        refine x_if_ne cM_readString_39 (fun q => absurd rfl q) (fun _ => ?_)
        refine x_aload_0 cM_readString_42 ?_
        refine x_gI cM_readString_43 fM_78 rfl rfl ?_
        refine x_ireturn cM_readString_46 rfl rfl (Nat.zero_le _) (Nat.zero_le _) ?_
        rw [b3]
        exact h0 p _ (by omega) (fun z => (hno.resolve_left (by omega)).2) (fun z w => absurd w.1 (by omega)) (okp hno o0 hal) (hy.tr hF)
    · have o0 : ¬ okL (I 91) 0 := by rw [u2_n (by decide), u2_n (by decide)] at q25; exact q25
      refine x_iconst 0 (by decide) cM_readString_28 ?_
      refine x_ireturn cM_readString_29 rfl rfl (Nat.zero_le _) (Nat.zero_le _) ?_
      exact h0 0 _ (by omega) (fun _ => o0) (fun z => absurd z (by omega)) (fun j hj => absurd hj (Nat.not_lt_zero j)) hz
