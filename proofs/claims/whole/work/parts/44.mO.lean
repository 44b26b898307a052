theorem in012 {w : Int32} : (0 ≤ w ∧ w ≤ 2) ↔ (w = nI 0 ∨ w = nI 1 ∨ w = nI 2) := by
  constructor
  · intro ⟨h1, h2⟩
    obtain ⟨j, hj, e⟩ := nI_of2 (M := 2) (n := 2) (by decide) (Int32.not_lt.mpr h1) h2
    subst e
    rcases (show j = 0 ∨ j = 1 ∨ j = 2 by omega) with rfl | rfl | rfl
    · exact Or.inl rfl
    · exact Or.inr (Or.inl rfl)
    · exact Or.inr (Or.inr rfl)
  · intro h
    rcases h with rfl | rfl | rfl <;> decide
theorem m_winds {Po : Option Value → HS → Prop} {I : IT} {J : JT} {P : PT} {c sn : Nat} {kp : Nat → Nat} {w : Int32} (hc : I 96 0 = nI c) (hc5 : c ≤ 5) (hsn : I 90 21 = nI sn) (hs6 : sn ≤ 6) (hkp : ∀ r, r < sn → I 101 r = nI (kp r) ∧ kp r < 5) (hG : ∀ t, t < 25 → Rg (wD (mdD I 96 92) (lw (t / 5)) (lw (t % 5))) c) (hq : ∀ (r : Int32) (I' : IT), (RWinds (okW (mdD I 96 92) kp (I 102) c sn) w r ∧ SameM I I') → Po (some (.int r)) (hp I' J P)) : xj yM_winds (mG yM_winds Po) 0 [some (.ref 90), some (.int w)] [] (hp I J P) 0 0 := by
  refine x_aload_0 cM_winds_0 ?_
  refine x_iconst 0 (by decide) cM_winds_1 ?_
  refine x_pI cM_winds_2 fM_66 rfl rfl ?_
  refine x_iload_1 cM_winds_5 ?_
  refine x_i2l cM_winds_6 ?_
  refine x_lconst 0 (by decide) cM_winds_7 ?_
  refine x_ldc2 cM_winds_8 qM_149 ?_
  refine x_s3 (ls0 := [some _, none, some _, none, some _, none]) cM_winds_11 kM_69 okM_in ⟨(Nat.le_of_ble_eq_true rfl), (Nat.le_of_ble_eq_true rfl)⟩ (Nat.le_of_ble_eq_true rfl) rfl (Nat.le_of_ble_eq_true rfl) rfl rfl (Nat.zero_le _) (Nat.zero_le _) ?_
  refine s_in (a := 0) (b := 2) (by decide) (by decide) (fun hw => ?_) (fun hw => ?_)
  · dsimp only [pushR]
    refine x_if_ne cM_winds_14 (fun _ => ?_) (fun q => absurd q (by decide))
    refine x_aload_0 cM_winds_20 ?_
    refine x_v0 (ls0 := [some _, none, none, none]) cM_winds_21 kM_221 okM_findWinds ⟨(Nat.le_of_ble_eq_true rfl), (Nat.le_of_ble_eq_true rfl)⟩ (Nat.le_of_ble_eq_true rfl) rfl (Nat.le_of_ble_eq_true rfl) rfl ⟨_, rfl, rfl⟩ rfl rfl (Nat.zero_le _) (Nat.zero_le _) ?_
    refine s_findWinds (c := c) (sn := sn) (kp := kp) (by rw [u2_n (by decide)]; exact hc) hc5 (by rw [u2_sn (by decide)]; exact hsn) hs6 (by rw [u2_n (show 101 ≠ 90 by decide)]; exact hkp) (by rw [mdD_th I 0 (Or.inl rfl) (Or.inl rfl)]; exact hG) (fun I1 n f l hS hWn hWM => ?_)
    rw [mdD_th I 0 (Or.inl rfl) (Or.inl rfl), u2_n (show 102 ≠ 90 by decide)] at hWn
    dsimp only [pushR]
    refine x_iload_1 cM_winds_24 ?_
    refine x_if_ne cM_winds_25 (fun q25 => ?_) (fun q25 => ?_)
    · have w0 : ¬ w = nI 0 := q25
      refine x_iload_1 cM_winds_35 ?_
      refine x_iconst 1 (by decide) cM_winds_36 ?_
      refine x_icmp_ne cM_winds_37 (fun q37 => ?_) (fun q37 => ?_)
      · have w1 : ¬ w = nI 1 := q37
        refine x_aload_0 cM_winds_47 ?_
        refine x_gI cM_winds_48 fM_218 rfl rfl ?_
        refine x_ireturn cM_winds_51 rfl rfl (Nat.zero_le _) (Nat.zero_le _) ?_
        refine hq _ _ ⟨⟨fun z => absurd (in012.mp hw) z, fun _ => ⟨n, f, l, hWn, fun z => absurd z w0, fun z => absurd z w1, fun _ => hWM.low⟩⟩, (SameM.th I).tr hS⟩
      · have w1 : w = nI 1 := q37
        refine x_aload_0 cM_winds_40 ?_
        refine x_gI cM_winds_41 fM_215 rfl rfl ?_
        refine x_goto cM_winds_44 ?_
        refine x_ireturn cM_winds_51 rfl rfl (Nat.zero_le _) (Nat.zero_le _) ?_
        refine hq _ _ ⟨⟨fun z => absurd (in012.mp hw) z, fun _ => ⟨n, f, l, hWn, fun z => absurd z w0, fun _ => hWM.2.1, fun z => absurd (w1.symm.trans z) (by decide)⟩⟩, (SameM.th I).tr hS⟩
    · have w0 : w = nI 0 := by simpa [nI_0] using q25
      refine x_aload_0 cM_winds_28 ?_
      refine x_gI cM_winds_29 fM_212 rfl rfl ?_
      refine x_goto cM_winds_32 ?_
      refine x_ireturn cM_winds_51 rfl rfl (Nat.zero_le _) (Nat.zero_le _) ?_
      refine hq _ _ ⟨⟨fun z => absurd (in012.mp hw) z, fun _ => ⟨n, f, l, hWn, fun _ => hWM.1, fun z => absurd (w0.symm.trans z) (by decide), fun z => absurd (w0.symm.trans z) (by decide)⟩⟩, (SameM.th I).tr hS⟩
  · dsimp only [pushR]
    refine x_if_ne cM_winds_14 (fun q => absurd rfl q) (fun _ => ?_)
    refine x_bipush (-2) (by decide) cM_winds_17 ?_
    refine x_ireturn cM_winds_19 rfl rfl (Nat.zero_le _) (Nat.zero_le _) ?_
    exact hq _ _ ⟨⟨fun _ => rfl, fun z => absurd (in012.mpr z) hw⟩, SameM.th I⟩
theorem upd_cm (f : Nat → Int32) {i j : Nat} (h : i ≠ j) (v w : Int32) : upd (upd f i v) j w = upd (upd f j w) i v := by
  funext k
  by_cases h1 : k = i
  · subst h1; simp [upd, h]
  · by_cases h2 : k = j
    · subst h2; simp [upd, h1]
    · simp [upd, h1, h2]
def B0 (D : LD) (i j : Nat) (a b : Int32) : LD := bD D (upd (upd (dB D) i a) j b)
theorem s_farBy {Po : Option Value → HS → Prop} {I : IT} {J : JT} {P : PT} {c i j kk : Nat} {a b x wv : Int32} (hc : I 96 0 = nI c) (hc5 : c ≤ 5) (hi : i < c) (hj : j < c) (hij : i ≠ j) (hG : Rg (B0 (mdD I 96 92) i j a b) c) (hkk : (¬ wv = 0 ∧ kk = i) ∨ (wv = 0 ∧ kk = j)) (hx : farI (fP (B0 (mdD I 96 92) i j a b) (kk + 1)) x = dsI (B0 (mdD I 96 92) i j a b) kk x) (hq : ∀ I', SameM I I' → (∀ j, j ≠ 29 → I' 90 j = I 90 j) → Po (some (.int (dsI (B0 (mdD I 96 92) i j a b) kk x))) (hp I' J P)) : xj yM_farBy (mG yM_farBy Po) 0 [some (.ref 90), some (.int (nI i)), some (.int a), some (.int (nI j)), some (.int b), some (.int wv), some (.int x)] [] (hp I J P) 0 0 := by
  have hkc : kk < c := by rcases hkk with ⟨-, e⟩ | ⟨-, e⟩ <;> omega
  refine x_aload_0 cM_farBy_0 ?_
  refine x_v0 (ls0 := [some _, none]) cM_farBy_1 kM_168 okM_begin ⟨(Nat.le_of_ble_eq_true rfl), (Nat.le_of_ble_eq_true rfl)⟩ (Nat.le_of_ble_eq_true rfl) rfl (Nat.le_of_ble_eq_true rfl) rfl ⟨_, rfl, rfl⟩ rfl rfl (Nat.zero_le _) (Nat.zero_le _) ?_
  refine s_begin (fun I1 b1 b2 => ?_)
  dsimp only [pushR]
  refine x_aload_0 cM_farBy_4 ?_
  refine x_gR (b := 97) cM_farBy_5 fM_32 rfl rfl rfl ?_
  refine x_bipush 8 (by decide) cM_farBy_8 ?_
  refine x_iload_1 cM_farBy_10 ?_
  refine x_iadd cM_farBy_11 ?_
  refine x_iload_2 cM_farBy_12 ?_
  refine x_as (8 + i) cM_farBy_13 rfl (nI_add 8 i) (by omega) (by decide) ?_
  refine x_aload_0 cM_farBy_14 ?_
  refine x_gR (b := 97) cM_farBy_15 fM_32 rfl rfl rfl ?_
  refine x_bipush 8 (by decide) cM_farBy_18 ?_
  refine x_iload_3 cM_farBy_20 ?_
  refine x_iadd cM_farBy_21 ?_
  refine x_iload_4 cM_farBy_22 ?_
  refine x_as (8 + j) cM_farBy_24 rfl (nI_add 8 j) (by omega) (by decide) ?_
  refine x_aload_0 cM_farBy_25 ?_
  refine x_aload_0 cM_farBy_26 ?_
  refine x_gR (b := 97) cM_farBy_27 fM_32 rfl rfl rfl ?_
  refine x_aload_0 cM_farBy_30 ?_
  refine x_gR (b := 92) cM_farBy_31 fM_17 rfl rfl rfl ?_
  refine x_v2 (ls0 := [some _, some _, some _, none, none, none, none, none]) cM_farBy_34 kM_120 okM_lay ⟨(Nat.le_of_ble_eq_true rfl), (Nat.le_of_ble_eq_true rfl)⟩ (Nat.le_of_ble_eq_true rfl) rfl (Nat.le_of_ble_eq_true rfl) rfl ⟨_, rfl, rfl⟩ rfl rfl (Nat.zero_le _) (Nat.zero_le _) ?_
  have hLE : LEq (mdD (u2 (u2 I1 97 (8 + i) a) 97 (8 + j) b) 97 92) (B0 (mdD I 96 92) i j a b) c := by
    refine ⟨fun k hk => ⟨?_, ?_, ?_⟩, ?_, ?_, ?_, ?_⟩
    · show u2 (u2 I1 97 (8 + i) a) 97 (8 + j) b 97 (3 + k) = I 96 (3 + k)
      rw [u2_sn (by omega), u2_sn (by omega), b2 _ (by omega)]
    · show u2 (u2 I1 97 (8 + i) a) 97 (8 + j) b 97 (8 + k) = upd (upd (fun k => I 96 (8 + k)) i a) j b k
      by_cases e1 : k = j
      · subst e1
        rw [u2_ss]; simp [upd]
      · rw [u2_sn (by omega)]
        by_cases e2 : k = i
        · subst e2
          rw [u2_ss]; simp [upd, e1]
        · rw [u2_sn (by omega), b2 _ (by omega)]; simp [upd, e1, e2]
    · show u2 (u2 I1 97 (8 + i) a) 97 (8 + j) b 92 k = I 92 k
      rw [u2_n (by decide), u2_n (by decide), b1 92 (by decide)]
    · show u2 (u2 I1 97 (8 + i) a) 97 (8 + j) b 97 1 = I 96 1
      rw [u2_sn (by omega), u2_sn (by omega), b2 _ (by omega)]
    · show u2 (u2 I1 97 (8 + i) a) 97 (8 + j) b 97 2 = I 96 2
      rw [u2_sn (by omega), u2_sn (by omega), b2 _ (by omega)]
    · show u2 (u2 I1 97 (8 + i) a) 97 (8 + j) b 90 4 = I 90 4
      rw [u2_n (by decide), u2_n (by decide), b1 90 (by decide)]
    · show u2 (u2 I1 97 (8 + i) a) 97 (8 + j) b 90 5 = I 90 5
      rw [u2_n (by decide), u2_n (by decide), b1 90 (by decide)]
  refine s_lay (Or.inr rfl) (Or.inl rfl) hc5 (by rw [u2_sn (by omega), u2_sn (by omega), b2 0 (by decide)]; exact hc) (Rg.leq hLE hG) (fun I3 hL => ?_)
  have hS3 : SameM I I3 := ⟨fun x hx => by rw [hL.1 x (by omega) (by omega) (by omega) (by omega), u2_n (by omega), u2_n (by omega), b1 x (by omega)], fun j hj => by rw [hL.2.1 j (by omega), u2_n (by decide), u2_n (by decide), b1 90 (by decide)]⟩
  have kee : ∀ j, j ≠ 29 → I3 90 j = I 90 j := fun j hj => by rw [hL.2.1 j hj, u2_n (by decide), u2_n (by decide), b1 90 (by decide)]
  have e5 : I3 105 kk = fP (B0 (mdD I 96 92) i j a b) (kk + 1) := by rw [(hL.2.2.2 kk hkc).2]; exact (hLE.fl (kk + 1) (by omega)).2.1
  dsimp only [pushR]
  refine x_aload_0 cM_farBy_37 ?_
  refine x_gR (b := 105) cM_farBy_38 fM_57 rfl rfl rfl ?_
  refine x_iload_5 cM_farBy_41 ?_
  refine x_if_eq cM_farBy_43 (fun q43 => ?_) (fun q43 => ?_)
  · have ekk : nI j = nI kk := by rw [(hkk.resolve_left (fun z => z.1 q43)).2]
    refine x_iload_3 cM_farBy_50 ?_
    refine x_al (kk) cM_farBy_51 rfl ekk (by omega) (by decide) ?_
    rw [e5]
    refine x_iload_6 cM_farBy_52 ?_
    refine x_s2 (ls0 := [some _, some _]) cM_farBy_54 kM_117 okM_far ⟨(Nat.le_of_ble_eq_true rfl), (Nat.le_of_ble_eq_true rfl)⟩ (Nat.le_of_ble_eq_true rfl) rfl (Nat.le_of_ble_eq_true rfl) rfl rfl (Nat.zero_le _) (Nat.zero_le _) ?_
    refine s_far ?_
    dsimp only [pushR]
    rw [hx]
    refine x_ireturn cM_farBy_57 rfl rfl (Nat.zero_le _) (Nat.zero_le _) ?_
    exact hq I3 hS3 kee
  · have ekk : nI i = nI kk := by rw [(hkk.resolve_right (fun z => q43 z.1)).2]
    refine x_iload_1 cM_farBy_46 ?_
    refine x_goto cM_farBy_47 ?_
    refine x_al (kk) cM_farBy_51 rfl ekk (by omega) (by decide) ?_
    rw [e5]
    refine x_iload_6 cM_farBy_52 ?_
    refine x_s2 (ls0 := [some _, some _]) cM_farBy_54 kM_117 okM_far ⟨(Nat.le_of_ble_eq_true rfl), (Nat.le_of_ble_eq_true rfl)⟩ (Nat.le_of_ble_eq_true rfl) rfl (Nat.le_of_ble_eq_true rfl) rfl rfl (Nat.zero_le _) (Nat.zero_le _) ?_
    refine s_far ?_
    dsimp only [pushR]
    rw [hx]
    refine x_ireturn cM_farBy_57 rfl rfl (Nat.zero_le _) (Nat.zero_le _) ?_
    exact hq I3 hS3 kee
