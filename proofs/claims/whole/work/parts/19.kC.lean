theorem FlOut.same {I I1 : IT} {D : LD} {c : Nat} (h : FlOut I I1 D c) : SameC I I1 := fun a ha => h.1 a (by omega) (by omega) (by omega)
theorem FlOut.last {I I1 : IT} {D : LD} {c : Nat} (h : FlOut I I1 D c) (hc : 0 < c) : I1 84 (c - 1) = fH D c ∧ I1 85 (c - 1) = fP D c := by
  have := h.2.2.2 (c - 1) (by omega)
  rwa [show c - 1 + 1 = c by omega] at this
/-- whether a place is seen by the last of a line -/
def Vd (D : LD) (c : Nat) (x : Int32) : Prop := Vw c (fF D c) (fH D c) (fP D c) x
theorem FlOut.vw {I I1 : IT} {D : LD} {c : Nat} (h : FlOut I I1 D c) (x : Int32) : Vw c (I1 83 3) (I1 84 (c - 1)) (I1 85 (c - 1)) x ↔ Vd D c x := by
  unfold Vd Vw
  rw [h.2.2.1]
  by_cases hc : 0 < c
  · rw [(h.last hc).1, (h.last hc).2]
  · exact ⟨fun z => absurd z.1 hc, fun z => absurd z.1 hc⟩
def RAbout (D : LD) (c n sn tl : Nat) (w r : Int32) : Prop :=
  ((w < 0 ∨ nI 10 ≤ w) → r = -2) ∧ (w = nI 0 → r = nI c) ∧ (w = nI 1 → r = dLo D + 2) ∧ (w = nI 2 → r = dHi D + 2) ∧ (w = nI 3 → r = dBo D) ∧ (w = nI 4 → r = dFo D) ∧ (w = nI 5 → r = sumI (dY D) c) ∧ (w = nI 6 → r = fF D c) ∧ (w = nI 7 → r = nI n) ∧ (w = nI 8 → r = nI sn) ∧ (w = nI 9 → r = nI tl)
def RKite (D : LD) (c : Nat) (i w r : Int32) : Prop :=
  ((¬ ∃ j, j < c ∧ i = nI j) → r = -1) ∧ ∀ j, j < c → i = nI j →
    ((w < 0 ∨ nI 6 ≤ w) → r = -2) ∧ (w = nI 0 → r = dY D j) ∧ (w = nI 1 → r = dB D j + 2) ∧ (w = nI 2 → r = dT D j) ∧ (w = nI 3 → r = fH D (j + 1)) ∧ (w = nI 4 → r = fP D (j + 1) + 100) ∧ (w = nI 5 → r = (fF D c >>> (nI j &&& 31)) &&& 1)
theorem tbl_out {w : Int32} {n : Nat} (hn : n < 2 ^ 31) (h : w < 0 ∨ nI (n + 1) ≤ w) (hn2 : n + 1 < 2 ^ 31) : w.toInt < 0 ∨ (n : Int) < w.toInt := by
  rcases h with h | h
  · left; rw [Int32.lt_iff_toInt_lt] at h; simpa using h
  · right; rw [Int32.le_iff_toInt_le, nI_toInt hn2] at h; omega
theorem tbl_ne {w : Int32} {j n : Nat} (e : w = nI j) (h : w < 0 ∨ nI n ≤ w) (hj : j < n ∧ n < 2 ^ 31) : False := by
  subst e
  rcases h with h | h
  · exact nI_pos (by omega) h
  · exact nI_ge hj.1 hj.2 h
theorem k_about {Po : Option Value → HS → Prop} {I : IT} {J : JT} {P : PT} {c n sn tl : Nat} {w : Int32} (hc : I 4 0 = nI c) (hc5 : c ≤ 5) (hn : I 8 1 = nI n) (hsn : I 76 2 = nI sn) (htl : I 2 1 = nI tl) (hq : ∀ (r : Int32) (I' : IT), RAbout (lnD I 4) c n sn tl w r ∧ SameC I I' → Po (some (.int r)) (hp I' J P)) : xj yK_about (mG yK_about Po) 0 [some (.ref 1), some (.int w)] [] (hp I J P) 0 0 := by
  refine x_iload_1 cK_about_0 ?_
  rcases pk_ix w (n := 10) (by decide) with hw | hw | ⟨jw, hjw, ew⟩
  · refine x_tblOut (nx := 0) (tg := 152) cK_about_1 (tbl_out (n := 9) (by decide) (Or.inl hw) (by decide)) (by decide) ?_
    refine x_bipush (-2) (by decide) cK_about_152 ?_
    refine x_ireturn cK_about_154 rfl rfl (Nat.zero_le _) (Nat.zero_le _) ?_
    exact hq _ _ ⟨⟨fun _ => rfl, fun z => absurd z (fun e => (tbl_ne (n := 10) e (Or.inl hw) (by decide))), fun z => absurd z (fun e => (tbl_ne (n := 10) e (Or.inl hw) (by decide))), fun z => absurd z (fun e => (tbl_ne (n := 10) e (Or.inl hw) (by decide))), fun z => absurd z (fun e => (tbl_ne (n := 10) e (Or.inl hw) (by decide))), fun z => absurd z (fun e => (tbl_ne (n := 10) e (Or.inl hw) (by decide))), fun z => absurd z (fun e => (tbl_ne (n := 10) e (Or.inl hw) (by decide))), fun z => absurd z (fun e => (tbl_ne (n := 10) e (Or.inl hw) (by decide))), fun z => absurd z (fun e => (tbl_ne (n := 10) e (Or.inl hw) (by decide))), fun z => absurd z (fun e => (tbl_ne (n := 10) e (Or.inl hw) (by decide))), fun z => absurd z (fun e => (tbl_ne (n := 10) e (Or.inl hw) (by decide)))⟩, SameC.rf⟩
  · refine x_tblOut (nx := 0) (tg := 152) cK_about_1 (tbl_out (n := 9) (by decide) (Or.inr hw) (by decide)) (by decide) ?_
    refine x_bipush (-2) (by decide) cK_about_152 ?_
    refine x_ireturn cK_about_154 rfl rfl (Nat.zero_le _) (Nat.zero_le _) ?_
    exact hq _ _ ⟨⟨fun _ => rfl, fun z => absurd z (fun e => (tbl_ne (n := 10) e (Or.inr hw) (by decide))), fun z => absurd z (fun e => (tbl_ne (n := 10) e (Or.inr hw) (by decide))), fun z => absurd z (fun e => (tbl_ne (n := 10) e (Or.inr hw) (by decide))), fun z => absurd z (fun e => (tbl_ne (n := 10) e (Or.inr hw) (by decide))), fun z => absurd z (fun e => (tbl_ne (n := 10) e (Or.inr hw) (by decide))), fun z => absurd z (fun e => (tbl_ne (n := 10) e (Or.inr hw) (by decide))), fun z => absurd z (fun e => (tbl_ne (n := 10) e (Or.inr hw) (by decide))), fun z => absurd z (fun e => (tbl_ne (n := 10) e (Or.inr hw) (by decide))), fun z => absurd z (fun e => (tbl_ne (n := 10) e (Or.inr hw) (by decide))), fun z => absurd z (fun e => (tbl_ne (n := 10) e (Or.inr hw) (by decide)))⟩, SameC.rf⟩
  · subst ew
    rcases (show jw = 0 ∨ jw = 1 ∨ jw = 2 ∨ jw = 3 ∨ jw = 4 ∨ jw = 5 ∨ jw = 6 ∨ jw = 7 ∨ jw = 8 ∨ jw = 9 by omega) with rfl | rfl | rfl | rfl | rfl | rfl | rfl | rfl | rfl | rfl
    · refine x_tblIn (nx := 0) (off := 55) (tg := 56) cK_about_1 (by decide) (by decide) (by decide) (by decide) ?_
      refine x_aload_0 cK_about_56 ?_
      refine x_gR (b := 4) cK_about_57 fK_19 rfl rfl rfl ?_
      refine x_gI cK_about_60 fK_106 rfl rfl ?_
      refine x_ireturn cK_about_63 rfl rfl (Nat.zero_le _) (Nat.zero_le _) ?_
      exact hq _ _ ⟨⟨fun z => absurd z (by decide), fun _ => hc, fun z => absurd z (by decide), fun z => absurd z (by decide), fun z => absurd z (by decide), fun z => absurd z (by decide), fun z => absurd z (by decide), fun z => absurd z (by decide), fun z => absurd z (by decide), fun z => absurd z (by decide), fun z => absurd z (by decide)⟩, SameC.rf⟩
    · refine x_tblIn (nx := 0) (off := 63) (tg := 64) cK_about_1 (by decide) (by decide) (by decide) (by decide) ?_
      refine x_aload_0 cK_about_64 ?_
      refine x_gR (b := 4) cK_about_65 fK_19 rfl rfl rfl ?_
      refine x_gI cK_about_68 fK_109 rfl rfl ?_
      refine x_iconst 2 (by decide) cK_about_71 ?_
      refine x_iadd cK_about_72 ?_
      refine x_ireturn cK_about_73 rfl rfl (Nat.zero_le _) (Nat.zero_le _) ?_
      exact hq _ _ ⟨⟨fun z => absurd z (by decide), fun z => absurd z (by decide), fun _ => rfl, fun z => absurd z (by decide), fun z => absurd z (by decide), fun z => absurd z (by decide), fun z => absurd z (by decide), fun z => absurd z (by decide), fun z => absurd z (by decide), fun z => absurd z (by decide), fun z => absurd z (by decide)⟩, SameC.rf⟩
    · refine x_tblIn (nx := 0) (off := 73) (tg := 74) cK_about_1 (by decide) (by decide) (by decide) (by decide) ?_
      refine x_aload_0 cK_about_74 ?_
      refine x_gR (b := 4) cK_about_75 fK_19 rfl rfl rfl ?_
      refine x_gI cK_about_78 fK_112 rfl rfl ?_
      refine x_iconst 2 (by decide) cK_about_81 ?_
      refine x_iadd cK_about_82 ?_
      refine x_ireturn cK_about_83 rfl rfl (Nat.zero_le _) (Nat.zero_le _) ?_
      exact hq _ _ ⟨⟨fun z => absurd z (by decide), fun z => absurd z (by decide), fun z => absurd z (by decide), fun _ => rfl, fun z => absurd z (by decide), fun z => absurd z (by decide), fun z => absurd z (by decide), fun z => absurd z (by decide), fun z => absurd z (by decide), fun z => absurd z (by decide), fun z => absurd z (by decide)⟩, SameC.rf⟩
    · refine x_tblIn (nx := 0) (off := 83) (tg := 84) cK_about_1 (by decide) (by decide) (by decide) (by decide) ?_
      refine x_aload_0 cK_about_84 ?_
      refine x_gR (b := 4) cK_about_85 fK_19 rfl rfl rfl ?_
      refine x_gI cK_about_88 fK_115 rfl rfl ?_
      refine x_ireturn cK_about_91 rfl rfl (Nat.zero_le _) (Nat.zero_le _) ?_
      exact hq _ _ ⟨⟨fun z => absurd z (by decide), fun z => absurd z (by decide), fun z => absurd z (by decide), fun z => absurd z (by decide), fun _ => rfl, fun z => absurd z (by decide), fun z => absurd z (by decide), fun z => absurd z (by decide), fun z => absurd z (by decide), fun z => absurd z (by decide), fun z => absurd z (by decide)⟩, SameC.rf⟩
    · refine x_tblIn (nx := 0) (off := 91) (tg := 92) cK_about_1 (by decide) (by decide) (by decide) (by decide) ?_
      refine x_aload_0 cK_about_92 ?_
      refine x_gR (b := 4) cK_about_93 fK_19 rfl rfl rfl ?_
      refine x_gI cK_about_96 fK_118 rfl rfl ?_
      refine x_ireturn cK_about_99 rfl rfl (Nat.zero_le _) (Nat.zero_le _) ?_
      exact hq _ _ ⟨⟨fun z => absurd z (by decide), fun z => absurd z (by decide), fun z => absurd z (by decide), fun z => absurd z (by decide), fun z => absurd z (by decide), fun _ => rfl, fun z => absurd z (by decide), fun z => absurd z (by decide), fun z => absurd z (by decide), fun z => absurd z (by decide), fun z => absurd z (by decide)⟩, SameC.rf⟩
    · refine x_tblIn (nx := 0) (off := 99) (tg := 100) cK_about_1 (by decide) (by decide) (by decide) (by decide) ?_
      refine x_aload_0 cK_about_100 ?_
      refine x_gR (b := 4) cK_about_101 fK_19 rfl rfl rfl ?_
      refine x_iconst 0 (by decide) cK_about_104 ?_
      refine x_v1 (ls0 := [some _, some _, none, none]) cK_about_105 kK_121 okLine_yardsFrom ⟨(Nat.le_of_ble_eq_true rfl), (Nat.le_of_ble_eq_true rfl)⟩ (Nat.le_of_ble_eq_true rfl) rfl (Nat.le_of_ble_eq_true rfl) rfl ⟨_, rfl, rfl⟩ rfl rfl (Nat.zero_le _) (Nat.zero_le _) ?_
      refine s_yardsFrom (i0 := 0) ln_4 hc hc5 (by omega) ?_
      dsimp only [pushR]
      refine x_ireturn cK_about_108 rfl rfl (Nat.zero_le _) (Nat.zero_le _) ?_
      exact hq _ _ ⟨⟨fun z => absurd z (by decide), fun z => absurd z (by decide), fun z => absurd z (by decide), fun z => absurd z (by decide), fun z => absurd z (by decide), fun z => absurd z (by decide), fun _ => by simp only [Nat.zero_add, Nat.sub_zero]; rfl, fun z => absurd z (by decide), fun z => absurd z (by decide), fun z => absurd z (by decide), fun z => absurd z (by decide)⟩, SameC.rf⟩
    · refine x_tblIn (nx := 0) (off := 108) (tg := 109) cK_about_1 (by decide) (by decide) (by decide) (by decide) ?_
      refine x_aload_0 cK_about_109 ?_
      refine x_gR (b := 83) cK_about_110 fK_59 rfl rfl rfl ?_
      refine x_aload_0 cK_about_113 ?_
      refine x_gR (b := 4) cK_about_114 fK_19 rfl rfl rfl ?_
      refine x_v1 (ls0 := [some _, some _, none, none, none, none, none, none]) cK_about_117 kK_124 okFlight_follow ⟨(Nat.le_of_ble_eq_true rfl), (Nat.le_of_ble_eq_true rfl)⟩ (Nat.le_of_ble_eq_true rfl) rfl (Nat.le_of_ble_eq_true rfl) rfl ⟨_, rfl, rfl⟩ rfl rfl (Nat.zero_le _) (Nat.zero_le _) ?_
      refine s_follow ln_4 (by decide) hc5 hc (fun I1 hF => ?_)
      dsimp only [pushR]
      refine x_aload_0 cK_about_120 ?_
      refine x_gR (b := 83) cK_about_121 fK_59 rfl rfl rfl ?_
      refine x_gI cK_about_124 fK_127 rfl rfl ?_
      refine x_ireturn cK_about_127 rfl rfl (Nat.zero_le _) (Nat.zero_le _) ?_
      exact hq _ _ ⟨⟨fun z => absurd z (by decide), fun z => absurd z (by decide), fun z => absurd z (by decide), fun z => absurd z (by decide), fun z => absurd z (by decide), fun z => absurd z (by decide), fun z => absurd z (by decide), fun _ => hF.2.2.1, fun z => absurd z (by decide), fun z => absurd z (by decide), fun z => absurd z (by decide)⟩, hF.same⟩
    · refine x_tblIn (nx := 0) (off := 127) (tg := 128) cK_about_1 (by decide) (by decide) (by decide) (by decide) ?_
      refine x_aload_0 cK_about_128 ?_
      refine x_gR (b := 8) cK_about_129 fK_26 rfl rfl rfl ?_
      refine x_gI cK_about_132 fK_130 rfl rfl ?_
      refine x_ireturn cK_about_135 rfl rfl (Nat.zero_le _) (Nat.zero_le _) ?_
      exact hq _ _ ⟨⟨fun z => absurd z (by decide), fun z => absurd z (by decide), fun z => absurd z (by decide), fun z => absurd z (by decide), fun z => absurd z (by decide), fun z => absurd z (by decide), fun z => absurd z (by decide), fun z => absurd z (by decide), fun _ => hn, fun z => absurd z (by decide), fun z => absurd z (by decide)⟩, SameC.rf⟩
    · refine x_tblIn (nx := 0) (off := 135) (tg := 136) cK_about_1 (by decide) (by decide) (by decide) (by decide) ?_
      refine x_aload_0 cK_about_136 ?_
      refine x_gR (b := 76) cK_about_137 fK_45 rfl rfl rfl ?_
      refine x_gI cK_about_140 fK_131 rfl rfl ?_
      refine x_ireturn cK_about_143 rfl rfl (Nat.zero_le _) (Nat.zero_le _) ?_
      exact hq _ _ ⟨⟨fun z => absurd z (by decide), fun z => absurd z (by decide), fun z => absurd z (by decide), fun z => absurd z (by decide), fun z => absurd z (by decide), fun z => absurd z (by decide), fun z => absurd z (by decide), fun z => absurd z (by decide), fun z => absurd z (by decide), fun _ => hsn, fun z => absurd z (by decide)⟩, SameC.rf⟩
    · refine x_tblIn (nx := 0) (off := 143) (tg := 144) cK_about_1 (by decide) (by decide) (by decide) (by decide) ?_
      refine x_aload_0 cK_about_144 ?_
      refine x_gR (b := 2) cK_about_145 fK_10 rfl rfl rfl ?_
      refine x_gI cK_about_148 fK_84 rfl rfl ?_
      refine x_ireturn cK_about_151 rfl rfl (Nat.zero_le _) (Nat.zero_le _) ?_
      exact hq _ _ ⟨⟨fun z => absurd z (by decide), fun z => absurd z (by decide), fun z => absurd z (by decide), fun z => absurd z (by decide), fun z => absurd z (by decide), fun z => absurd z (by decide), fun z => absurd z (by decide), fun z => absurd z (by decide), fun z => absurd z (by decide), fun z => absurd z (by decide), fun _ => htl⟩, SameC.rf⟩
theorem k_kite {Po : Option Value → HS → Prop} {I : IT} {J : JT} {P : PT} {c : Nat} {i w : Int32} (hc : I 4 0 = nI c) (hc5 : c ≤ 5) (hq : ∀ (r : Int32) (I' : IT), RKite (lnD I 4) c i w r ∧ SameC I I' → Po (some (.int r)) (hp I' J P)) : xj yK_kite (mG yK_kite Po) 0 [some (.ref 1), some (.int i), some (.int w)] [] (hp I J P) 0 0 := by
  refine x_aload_0 cK_kite_0 ?_
  refine x_gR (b := 4) cK_kite_1 fK_19 rfl rfl rfl ?_
  refine x_iload_1 cK_kite_4 ?_
  refine x_v1 (ls0 := [some _, some _]) cK_kite_5 kK_132 okLine_has ⟨(Nat.le_of_ble_eq_true rfl), (Nat.le_of_ble_eq_true rfl)⟩ (Nat.le_of_ble_eq_true rfl) rfl (Nat.le_of_ble_eq_true rfl) rfl ⟨_, rfl, rfl⟩ rfl rfl (Nat.zero_le _) (Nat.zero_le _) ?_
  refine s_has ln_4 hc hc5 (fun j hj ej => ?_) (fun hno => ?_)
  · dsimp only [pushR]
    refine x_if_ne cK_kite_8 (fun _ => ?_) (fun q => absurd q (by decide))
    refine x_aload_0 cK_kite_13 ?_
    refine x_gR (b := 83) cK_kite_14 fK_59 rfl rfl rfl ?_
    refine x_aload_0 cK_kite_17 ?_
    refine x_gR (b := 4) cK_kite_18 fK_19 rfl rfl rfl ?_
    refine x_v1 (ls0 := [some _, some _, none, none, none, none, none, none]) cK_kite_21 kK_124 okFlight_follow ⟨(Nat.le_of_ble_eq_true rfl), (Nat.le_of_ble_eq_true rfl)⟩ (Nat.le_of_ble_eq_true rfl) rfl (Nat.le_of_ble_eq_true rfl) rfl ⟨_, rfl, rfl⟩ rfl rfl (Nat.zero_le _) (Nat.zero_le _) ?_
    refine s_follow ln_4 (by decide) hc5 hc (fun I1 hF => ?_)
    dsimp only [pushR]
    refine x_iload_2 cK_kite_24 ?_
    rcases pk_ix w (n := 6) (by decide) with hw | hw | ⟨jw, hjw, ew⟩
    · refine x_tblOut (nx := 0) (tg := 141) cK_kite_25 (tbl_out (n := 5) (by decide) (Or.inl hw) (by decide)) (by decide) ?_
      refine x_bipush (-2) (by decide) cK_kite_141 ?_
      refine x_ireturn cK_kite_143 rfl rfl (Nat.zero_le _) (Nat.zero_le _) ?_
      refine hq _ _ ⟨⟨fun z => absurd ⟨j, hj, ej⟩ z, ?_⟩, hF.same⟩
      intro k hk ek
      obtain rfl := (nI_one hc5 hj ej hk ek).symm
      exact ⟨fun _ => rfl, fun z => absurd z (fun e => (tbl_ne (n := 6) e (Or.inl hw) (by decide))), fun z => absurd z (fun e => (tbl_ne (n := 6) e (Or.inl hw) (by decide))), fun z => absurd z (fun e => (tbl_ne (n := 6) e (Or.inl hw) (by decide))), fun z => absurd z (fun e => (tbl_ne (n := 6) e (Or.inl hw) (by decide))), fun z => absurd z (fun e => (tbl_ne (n := 6) e (Or.inl hw) (by decide))), fun z => absurd z (fun e => (tbl_ne (n := 6) e (Or.inl hw) (by decide)))⟩
    · refine x_tblOut (nx := 0) (tg := 141) cK_kite_25 (tbl_out (n := 5) (by decide) (Or.inr hw) (by decide)) (by decide) ?_
      refine x_bipush (-2) (by decide) cK_kite_141 ?_
      refine x_ireturn cK_kite_143 rfl rfl (Nat.zero_le _) (Nat.zero_le _) ?_
      refine hq _ _ ⟨⟨fun z => absurd ⟨j, hj, ej⟩ z, ?_⟩, hF.same⟩
      intro k hk ek
      obtain rfl := (nI_one hc5 hj ej hk ek).symm
      exact ⟨fun _ => rfl, fun z => absurd z (fun e => (tbl_ne (n := 6) e (Or.inr hw) (by decide))), fun z => absurd z (fun e => (tbl_ne (n := 6) e (Or.inr hw) (by decide))), fun z => absurd z (fun e => (tbl_ne (n := 6) e (Or.inr hw) (by decide))), fun z => absurd z (fun e => (tbl_ne (n := 6) e (Or.inr hw) (by decide))), fun z => absurd z (fun e => (tbl_ne (n := 6) e (Or.inr hw) (by decide))), fun z => absurd z (fun e => (tbl_ne (n := 6) e (Or.inr hw) (by decide)))⟩
    · subst ew
      rcases (show jw = 0 ∨ jw = 1 ∨ jw = 2 ∨ jw = 3 ∨ jw = 4 ∨ jw = 5 by omega) with rfl | rfl | rfl | rfl | rfl | rfl
      · refine x_tblIn (nx := 0) (off := 39) (tg := 64) cK_kite_25 (by decide) (by decide) (by decide) (by decide) ?_
        refine x_aload_0 cK_kite_64 ?_
        refine x_gR (b := 4) cK_kite_65 fK_19 rfl rfl rfl ?_
        refine x_gR (b := 5) cK_kite_68 fK_136 rfl rfl rfl ?_
        refine x_iload_1 cK_kite_71 ?_
        refine x_s2 (ls0 := [some _, some _]) cK_kite_72 kK_140 okK_at ⟨(Nat.le_of_ble_eq_true rfl), (Nat.le_of_ble_eq_true rfl)⟩ (Nat.le_of_ble_eq_true rfl) rfl (Nat.le_of_ble_eq_true rfl) rfl rfl (Nat.zero_le _) (Nat.zero_le _) ?_
        refine s_at j rfl ej (by omega) (by decide) ?_
        dsimp only [pushR]
        refine x_ireturn cK_kite_75 rfl rfl (Nat.zero_le _) (Nat.zero_le _) ?_
        refine hq _ _ ⟨⟨fun z => absurd ⟨j, hj, ej⟩ z, ?_⟩, hF.same⟩
        intro k hk ek
        obtain rfl := (nI_one hc5 hj ej hk ek).symm
        exact ⟨fun z => absurd z (by decide), fun _ => congrFun (hF.1 5 (by decide) (by decide) (by decide)) j, fun z => absurd z (by decide), fun z => absurd z (by decide), fun z => absurd z (by decide), fun z => absurd z (by decide), fun z => absurd z (by decide)⟩
      · refine x_tblIn (nx := 0) (off := 51) (tg := 76) cK_kite_25 (by decide) (by decide) (by decide) (by decide) ?_
        refine x_aload_0 cK_kite_76 ?_
        refine x_gR (b := 4) cK_kite_77 fK_19 rfl rfl rfl ?_
        refine x_gR (b := 6) cK_kite_80 fK_144 rfl rfl rfl ?_
        refine x_iload_1 cK_kite_83 ?_
        refine x_s2 (ls0 := [some _, some _]) cK_kite_84 kK_140 okK_at ⟨(Nat.le_of_ble_eq_true rfl), (Nat.le_of_ble_eq_true rfl)⟩ (Nat.le_of_ble_eq_true rfl) rfl (Nat.le_of_ble_eq_true rfl) rfl rfl (Nat.zero_le _) (Nat.zero_le _) ?_
        refine s_at j rfl ej (by omega) (by decide) ?_
        dsimp only [pushR]
        refine x_iconst 2 (by decide) cK_kite_87 ?_
        refine x_iadd cK_kite_88 ?_
        refine x_ireturn cK_kite_89 rfl rfl (Nat.zero_le _) (Nat.zero_le _) ?_
        refine hq _ _ ⟨⟨fun z => absurd ⟨j, hj, ej⟩ z, ?_⟩, hF.same⟩
        intro k hk ek
        obtain rfl := (nI_one hc5 hj ej hk ek).symm
        exact ⟨fun z => absurd z (by decide), fun z => absurd z (by decide), fun _ => by rw [hF.1 6 (by decide) (by decide) (by decide)]; rfl, fun z => absurd z (by decide), fun z => absurd z (by decide), fun z => absurd z (by decide), fun z => absurd z (by decide)⟩
      · refine x_tblIn (nx := 0) (off := 65) (tg := 90) cK_kite_25 (by decide) (by decide) (by decide) (by decide) ?_
        refine x_aload_0 cK_kite_90 ?_
        refine x_gR (b := 4) cK_kite_91 fK_19 rfl rfl rfl ?_
        refine x_gR (b := 7) cK_kite_94 fK_147 rfl rfl rfl ?_
        refine x_iload_1 cK_kite_97 ?_
        refine x_s2 (ls0 := [some _, some _]) cK_kite_98 kK_140 okK_at ⟨(Nat.le_of_ble_eq_true rfl), (Nat.le_of_ble_eq_true rfl)⟩ (Nat.le_of_ble_eq_true rfl) rfl (Nat.le_of_ble_eq_true rfl) rfl rfl (Nat.zero_le _) (Nat.zero_le _) ?_
        refine s_at j rfl ej (by omega) (by decide) ?_
        dsimp only [pushR]
        refine x_ireturn cK_kite_101 rfl rfl (Nat.zero_le _) (Nat.zero_le _) ?_
        refine hq _ _ ⟨⟨fun z => absurd ⟨j, hj, ej⟩ z, ?_⟩, hF.same⟩
        intro k hk ek
        obtain rfl := (nI_one hc5 hj ej hk ek).symm
        exact ⟨fun z => absurd z (by decide), fun z => absurd z (by decide), fun z => absurd z (by decide), fun _ => congrFun (hF.1 7 (by decide) (by decide) (by decide)) j, fun z => absurd z (by decide), fun z => absurd z (by decide), fun z => absurd z (by decide)⟩
      · refine x_tblIn (nx := 0) (off := 77) (tg := 102) cK_kite_25 (by decide) (by decide) (by decide) (by decide) ?_
        refine x_aload_0 cK_kite_102 ?_
        refine x_gR (b := 83) cK_kite_103 fK_59 rfl rfl rfl ?_
        refine x_gR (b := 84) cK_kite_106 fK_150 rfl rfl rfl ?_
        refine x_iload_1 cK_kite_109 ?_
        refine x_s2 (ls0 := [some _, some _]) cK_kite_110 kK_140 okK_at ⟨(Nat.le_of_ble_eq_true rfl), (Nat.le_of_ble_eq_true rfl)⟩ (Nat.le_of_ble_eq_true rfl) rfl (Nat.le_of_ble_eq_true rfl) rfl rfl (Nat.zero_le _) (Nat.zero_le _) ?_
        refine s_at j rfl ej (by omega) (by decide) ?_
        dsimp only [pushR]
        refine x_ireturn cK_kite_113 rfl rfl (Nat.zero_le _) (Nat.zero_le _) ?_
        refine hq _ _ ⟨⟨fun z => absurd ⟨j, hj, ej⟩ z, ?_⟩, hF.same⟩
        intro k hk ek
        obtain rfl := (nI_one hc5 hj ej hk ek).symm
        exact ⟨fun z => absurd z (by decide), fun z => absurd z (by decide), fun z => absurd z (by decide), fun z => absurd z (by decide), fun _ => (hF.2.2.2 j hj).1, fun z => absurd z (by decide), fun z => absurd z (by decide)⟩
      · refine x_tblIn (nx := 0) (off := 89) (tg := 114) cK_kite_25 (by decide) (by decide) (by decide) (by decide) ?_
        refine x_aload_0 cK_kite_114 ?_
        refine x_gR (b := 83) cK_kite_115 fK_59 rfl rfl rfl ?_
        refine x_gR (b := 85) cK_kite_118 fK_153 rfl rfl rfl ?_
        refine x_iload_1 cK_kite_121 ?_
        refine x_s2 (ls0 := [some _, some _]) cK_kite_122 kK_140 okK_at ⟨(Nat.le_of_ble_eq_true rfl), (Nat.le_of_ble_eq_true rfl)⟩ (Nat.le_of_ble_eq_true rfl) rfl (Nat.le_of_ble_eq_true rfl) rfl rfl (Nat.zero_le _) (Nat.zero_le _) ?_
        refine s_at j rfl ej (by omega) (by decide) ?_
        dsimp only [pushR]
        refine x_bipush 100 (by decide) cK_kite_125 ?_
        refine x_iadd cK_kite_127 ?_
        refine x_ireturn cK_kite_128 rfl rfl (Nat.zero_le _) (Nat.zero_le _) ?_
        refine hq _ _ ⟨⟨fun z => absurd ⟨j, hj, ej⟩ z, ?_⟩, hF.same⟩
        intro k hk ek
        obtain rfl := (nI_one hc5 hj ej hk ek).symm
        exact ⟨fun z => absurd z (by decide), fun z => absurd z (by decide), fun z => absurd z (by decide), fun z => absurd z (by decide), fun z => absurd z (by decide), fun _ => by rw [(hF.2.2.2 j hj).2], fun z => absurd z (by decide)⟩
      · refine x_tblIn (nx := 0) (off := 104) (tg := 129) cK_kite_25 (by decide) (by decide) (by decide) (by decide) ?_
        refine x_aload_0 cK_kite_129 ?_
        refine x_gR (b := 83) cK_kite_130 fK_59 rfl rfl rfl ?_
        refine x_gI cK_kite_133 fK_127 rfl rfl ?_
        refine x_iload_1 cK_kite_136 ?_
        refine x_ishr cK_kite_137 ?_
        refine x_iconst 1 (by decide) cK_kite_138 ?_
        refine x_iand cK_kite_139 ?_
        refine x_ireturn cK_kite_140 rfl rfl (Nat.zero_le _) (Nat.zero_le _) ?_
        refine hq _ _ ⟨⟨fun z => absurd ⟨j, hj, ej⟩ z, ?_⟩, hF.same⟩
        intro k hk ek
        obtain rfl := (nI_one hc5 hj ej hk ek).symm
        exact ⟨fun z => absurd z (by decide), fun z => absurd z (by decide), fun z => absurd z (by decide), fun z => absurd z (by decide), fun z => absurd z (by decide), fun z => absurd z (by decide), fun _ => by rw [hF.2.2.1, ej]⟩
  · dsimp only [pushR]
    refine x_if_ne cK_kite_8 (fun q => absurd rfl q) (fun _ => ?_)
    refine x_iconst (-1) (by decide) cK_kite_11 ?_
    refine x_ireturn cK_kite_12 rfl rfl (Nat.zero_le _) (Nat.zero_le _) ?_
    exact hq _ _ ⟨⟨fun _ => rfl, fun j hj e => absurd ⟨j, hj, e⟩ hno⟩, SameC.rf⟩
def RSees (D : LD) (c : Nat) (x r : Int32) : Prop := (¬ (-100 ≤ x ∧ x ≤ 100) → r = -2) ∧ ((-100 ≤ x ∧ x ≤ 100) → (Vd D c x → r = 1) ∧ (¬ Vd D c x → r = 0))
theorem k_sees {Po : Option Value → HS → Prop} {I : IT} {J : JT} {P : PT} {c : Nat} {x : Int32} (hc : I 4 0 = nI c) (hc5 : c ≤ 5) (hq : ∀ (r : Int32) (I' : IT), RSees (lnD I 4) c x r ∧ SameC I I' → Po (some (.int r)) (hp I' J P)) : xj yK_sees (mG yK_sees Po) 0 [some (.ref 1), some (.int x)] [] (hp I J P) 0 0 := by
  refine x_iload_1 cK_sees_0 ?_
  refine x_bipush 100 (by decide) cK_sees_1 ?_
  refine x_s2 (ls0 := [some _, some _]) cK_sees_3 kK_156 okK_within ⟨(Nat.le_of_ble_eq_true rfl), (Nat.le_of_ble_eq_true rfl)⟩ (Nat.le_of_ble_eq_true rfl) rfl (Nat.le_of_ble_eq_true rfl) rfl rfl (Nat.zero_le _) (Nat.zero_le _) ?_
  refine s_within (fun hw => ?_) (fun hw => ?_)
  · dsimp only [pushR]
    refine x_if_ne cK_sees_6 (fun _ => ?_) (fun q => absurd q (by decide))
    refine x_aload_0 cK_sees_12 ?_
    refine x_gR (b := 83) cK_sees_13 fK_59 rfl rfl rfl ?_
    refine x_aload_0 cK_sees_16 ?_
    refine x_gR (b := 4) cK_sees_17 fK_19 rfl rfl rfl ?_
    refine x_v1 (ls0 := [some _, some _, none, none, none, none, none, none]) cK_sees_20 kK_124 okFlight_follow ⟨(Nat.le_of_ble_eq_true rfl), (Nat.le_of_ble_eq_true rfl)⟩ (Nat.le_of_ble_eq_true rfl) rfl (Nat.le_of_ble_eq_true rfl) rfl ⟨_, rfl, rfl⟩ rfl rfl (Nat.zero_le _) (Nat.zero_le _) ?_
    refine s_follow ln_4 (by decide) hc5 hc (fun I1 hF => ?_)
    dsimp only [pushR]
    refine x_aload_0 cK_sees_23 ?_
    refine x_gR (b := 83) cK_sees_24 fK_59 rfl rfl rfl ?_
    refine x_iload_1 cK_sees_27 ?_
    refine x_v1 (ls0 := [some _, some _]) cK_sees_28 kK_174 okFlight_views ⟨(Nat.le_of_ble_eq_true rfl), (Nat.le_of_ble_eq_true rfl)⟩ (Nat.le_of_ble_eq_true rfl) rfl (Nat.le_of_ble_eq_true rfl) rfl ⟨_, rfl, rfl⟩ rfl rfl (Nat.zero_le _) (Nat.zero_le _) ?_
    refine s_views hF.2.1 hc5 (fun hv => ?_) (fun hv => ?_)
    · dsimp only [pushR]
      refine x_if_eq cK_sees_31 (fun q => absurd q (by decide)) (fun _ => ?_)
      refine x_iconst 1 (by decide) cK_sees_34 ?_
      refine x_goto cK_sees_35 ?_
      refine x_ireturn cK_sees_39 rfl rfl (Nat.zero_le _) (Nat.zero_le _) ?_
      exact hq _ _ ⟨⟨fun z => absurd hw z, fun _ => ⟨fun _ => rfl, fun z => absurd ((hF.vw x).mp hv) z⟩⟩, hF.same⟩
    · dsimp only [pushR]
      refine x_if_eq cK_sees_31 (fun _ => ?_) (fun q => absurd rfl q)
      refine x_iconst 0 (by decide) cK_sees_38 ?_
      refine x_ireturn cK_sees_39 rfl rfl (Nat.zero_le _) (Nat.zero_le _) ?_
      exact hq _ _ ⟨⟨fun z => absurd hw z, fun _ => ⟨fun z => absurd ((hF.vw x).mpr z) hv, fun _ => rfl⟩⟩, hF.same⟩
  · dsimp only [pushR]
    refine x_if_ne cK_sees_6 (fun q => absurd rfl q) (fun _ => ?_)
    refine x_bipush (-2) (by decide) cK_sees_9 ?_
    refine x_ireturn cK_sees_11 rfl rfl (Nat.zero_le _) (Nat.zero_le _) ?_
    exact hq _ _ ⟨⟨fun _ => rfl, fun z => absurd z hw⟩, SameC.rf⟩
def RDrops (D : LD) (c : Nat) (i r : Int32) : Prop := ((¬ ∃ j, j < c ∧ i = nI j) → r = -1) ∧ ∀ j, j < c → i = nI j → r = sumI (fun t => dY D (j + t)) (c - j)
theorem k_drops {Po : Option Value → HS → Prop} {I : IT} {J : JT} {P : PT} {c : Nat} {i : Int32} (hc : I 4 0 = nI c) (hc5 : c ≤ 5) (hq : ∀ (r : Int32) (I' : IT), RDrops (lnD I 4) c i r ∧ I' = I → Po (some (.int r)) (hp I' J P)) : xj yK_drops (mG yK_drops Po) 0 [some (.ref 1), some (.int i)] [] (hp I J P) 0 0 := by
  refine x_aload_0 cK_drops_0 ?_
  refine x_gR (b := 4) cK_drops_1 fK_19 rfl rfl rfl ?_
  refine x_iload_1 cK_drops_4 ?_
  refine x_v1 (ls0 := [some _, some _]) cK_drops_5 kK_132 okLine_has ⟨(Nat.le_of_ble_eq_true rfl), (Nat.le_of_ble_eq_true rfl)⟩ (Nat.le_of_ble_eq_true rfl) rfl (Nat.le_of_ble_eq_true rfl) rfl ⟨_, rfl, rfl⟩ rfl rfl (Nat.zero_le _) (Nat.zero_le _) ?_
  refine s_has ln_4 hc hc5 (fun j hj ej => ?_) (fun hno => ?_)
  · dsimp only [pushR]
    subst ej
    refine x_if_eq cK_drops_8 (fun q => absurd q (by decide)) (fun _ => ?_)
    refine x_aload_0 cK_drops_11 ?_
    refine x_gR (b := 4) cK_drops_12 fK_19 rfl rfl rfl ?_
    refine x_iload_1 cK_drops_15 ?_
    refine x_v1 (ls0 := [some _, some _, none, none]) cK_drops_16 kK_121 okLine_yardsFrom ⟨(Nat.le_of_ble_eq_true rfl), (Nat.le_of_ble_eq_true rfl)⟩ (Nat.le_of_ble_eq_true rfl) rfl (Nat.le_of_ble_eq_true rfl) rfl ⟨_, rfl, rfl⟩ rfl rfl (Nat.zero_le _) (Nat.zero_le _) ?_
    refine s_yardsFrom (i0 := j) ln_4 hc hc5 (by omega) ?_
    dsimp only [pushR]
    refine x_goto cK_drops_19 ?_
    refine x_ireturn cK_drops_23 rfl rfl (Nat.zero_le _) (Nat.zero_le _) ?_
    refine hq _ _ ⟨⟨fun z => absurd ⟨j, hj, rfl⟩ z, fun k hk ek => ?_⟩, rfl⟩
    obtain rfl := (nI_one hc5 hj rfl hk ek).symm
    rfl
  · dsimp only [pushR]
    refine x_if_eq cK_drops_8 (fun _ => ?_) (fun q => absurd rfl q)
    refine x_iconst (-1) (by decide) cK_drops_22 ?_
    refine x_ireturn cK_drops_23 rfl rfl (Nat.zero_le _) (Nat.zero_le _) ?_
    exact hq _ _ ⟨⟨fun _ => rfl, fun j hj e => absurd ⟨j, hj, e⟩ hno⟩, rfl⟩
def okC (F : Int32) (k : Nat) : Prop := (F &&& (((1 : Int32) <<< (nI k &&& 31)) - 1)) = 0
def RWhere (F : Int32) (c : Nat) (r : Int32) : Prop := (∀ k, 1 ≤ k → k < c → okC F k → (∀ j, k < j → j < c → ¬ okC F j) → r = nI k) ∧ ((∀ k, 1 ≤ k → k < c → ¬ okC F k) → r = -9)
theorem s_where_loop {Po : Option Value → HS → Prop} {I : IT} {J : JT} {P : PT} {c : Nat} (hc5 : c ≤ 5) (hq : ∀ r, RWhere (I 83 3) c r → Po (some (.int r)) (hp I J P)) : ∀ k, k ≤ c → (∀ j, k ≤ j → j < c → ¬ okC (I 83 3) j) → ∀ g, xj yK_whereToCut (mG yK_whereToCut Po) 21 [some (.ref 1), some (.int (nI k - 1)), g] [] (hp I J P) 0 0 := by
  intro k
  induction k with
  | zero =>
    intro hk ha g
    refine x_iload_1 cK_whereToCut_21 ?_
    refine x_iconst 1 (by decide) cK_whereToCut_22 ?_
    refine x_icmp_lt cK_whereToCut_23 (fun q23 => ?_) (fun q23 => absurd q23 (fun z => z (by decide)))
    refine x_bipush (-9) (by decide) cK_whereToCut_52 ?_
    refine x_ireturn cK_whereToCut_54 rfl rfl (Nat.zero_le _) (Nat.zero_le _) ?_
    exact hq _ ⟨fun k h1 h2 h3 _ => absurd h3 (ha k (by omega) h2), fun _ => rfl⟩
  | succ k ih =>
    intro hk ha g
    rw [show nI (k + 1) - 1 = nI k from nI_pred k]
    refine x_iload_1 cK_whereToCut_21 ?_
    refine x_iconst 1 (by decide) cK_whereToCut_22 ?_
    refine x_icmp_lt cK_whereToCut_23 (fun q23 => ?_) (fun q23 => ?_)
    · have k0 : k = 0 := by
        rcases Nat.eq_zero_or_pos k with e | e
        · exact e
        · exact absurd q23 (nI_nlt (b := 1) e (by omega))
      refine x_bipush (-9) (by decide) cK_whereToCut_52 ?_
      refine x_ireturn cK_whereToCut_54 rfl rfl (Nat.zero_le _) (Nat.zero_le _) ?_
      subst k0
      exact hq _ ⟨fun k h1 h2 h3 _ => absurd h3 (ha k (by omega) h2), fun _ => rfl⟩
    · have k1 : 1 ≤ k := by
        rcases Nat.eq_zero_or_pos k with e | e
        · subst e; exact absurd (by decide) q23
        · exact e
      refine x_iconst 1 (by decide) cK_whereToCut_26 ?_
      refine x_iload_1 cK_whereToCut_27 ?_
      refine x_ishl cK_whereToCut_28 ?_
      refine x_iconst 1 (by decide) cK_whereToCut_29 ?_
      refine x_isub cK_whereToCut_30 ?_
      refine x_istore_2 cK_whereToCut_31 rfl (Nat.le_of_ble_eq_true rfl) ?_
      refine x_aload_0 cK_whereToCut_32 ?_
      refine x_gR (b := 83) cK_whereToCut_33 fK_59 rfl rfl rfl ?_
      refine x_gI cK_whereToCut_36 fK_127 rfl rfl ?_
      refine x_iload_2 cK_whereToCut_39 ?_
      refine x_iand cK_whereToCut_40 ?_
      refine x_if_ne cK_whereToCut_41 (fun q41 => ?_) (fun q41 => ?_)
      · refine x_iinc_1 (nI k - 1) cK_whereToCut_46 rfl (nI_dec k) (Nat.le_of_ble_eq_true rfl) ?_
        refine x_goto cK_whereToCut_49 ?_
        exact ih (by omega) (fun j h1 h2 => by
          by_cases e : j = k
          · subst e; exact q41
          · exact ha j (by omega) h2) _
      · refine x_iload_1 cK_whereToCut_44 ?_
        refine x_ireturn cK_whereToCut_45 rfl rfl (Nat.zero_le _) (Nat.zero_le _) ?_
        exact hq _ ⟨fun m h1 h2 h3 h4 => by
          rcases Nat.lt_trichotomy m k with e | e | e
          · exact absurd q41 (h4 k e (by omega))
          · rw [e]
          · exact absurd h3 (ha m (by omega) h2), fun z => absurd q41 (z k k1 (by omega))⟩
theorem k_whereToCut {Po : Option Value → HS → Prop} {I : IT} {J : JT} {P : PT} {c : Nat} (hc : I 4 0 = nI c) (hc5 : c ≤ 5) (hq : ∀ (r : Int32) (I' : IT), RWhere (fF (lnD I 4) c) c r ∧ SameC I I' → Po (some (.int r)) (hp I' J P)) : xj yK_whereToCut (mG yK_whereToCut Po) 0 [some (.ref 1), none, none] [] (hp I J P) 0 0 := by
  refine x_aload_0 cK_whereToCut_0 ?_
  refine x_gR (b := 83) cK_whereToCut_1 fK_59 rfl rfl rfl ?_
  refine x_aload_0 cK_whereToCut_4 ?_
  refine x_gR (b := 4) cK_whereToCut_5 fK_19 rfl rfl rfl ?_
  refine x_v1 (ls0 := [some _, some _, none, none, none, none, none, none]) cK_whereToCut_8 kK_124 okFlight_follow ⟨(Nat.le_of_ble_eq_true rfl), (Nat.le_of_ble_eq_true rfl)⟩ (Nat.le_of_ble_eq_true rfl) rfl (Nat.le_of_ble_eq_true rfl) rfl ⟨_, rfl, rfl⟩ rfl rfl (Nat.zero_le _) (Nat.zero_le _) ?_
  refine s_follow ln_4 (by decide) hc5 hc (fun I1 hF => ?_)
  dsimp only [pushR]
  refine x_aload_0 cK_whereToCut_11 ?_
  refine x_gR (b := 4) cK_whereToCut_12 fK_19 rfl rfl rfl ?_
  refine x_gI cK_whereToCut_15 fK_106 rfl rfl ?_
  refine x_iconst 1 (by decide) cK_whereToCut_18 ?_
  refine x_isub cK_whereToCut_19 ?_
  refine x_istore_1 cK_whereToCut_20 rfl (Nat.le_of_ble_eq_true rfl) ?_
  rw [hF.1 4 (by decide) (by decide) (by decide), hc]
  refine s_where_loop (c := c) hc5 (fun r hr => ?_) c (Nat.le_refl c) (fun j h1 h2 => absurd h2 (Nat.not_lt.mpr h1)) _
  rw [hF.2.2.1] at hr
  exact hq _ _ ⟨hr, hF.same⟩
theorem s_trialViews {Po : Option Value → HS → Prop} {I : IT} {J : JT} {P : PT} {c : Nat} {x : Int32} (hc : I 79 0 = nI c) (hc5 : c ≤ 5) (h1 : Vd (lnD I 79) c x → ∀ I', FlOut I I' (lnD I 79) c → Po (some (.int 1)) (hp I' J P)) (h0 : ¬ Vd (lnD I 79) c x → ∀ I', FlOut I I' (lnD I 79) c → Po (some (.int 0)) (hp I' J P)) : xj yK_trialViews (mG yK_trialViews Po) 0 [some (.ref 1), some (.int x)] [] (hp I J P) 0 0 := by
  refine x_aload_0 cK_trialViews_0 ?_
  refine x_gR (b := 83) cK_trialViews_1 fK_59 rfl rfl rfl ?_
  refine x_aload_0 cK_trialViews_4 ?_
  refine x_gR (b := 79) cK_trialViews_5 fK_53 rfl rfl rfl ?_
  refine x_v1 (ls0 := [some _, some _, none, none, none, none, none, none]) cK_trialViews_8 kK_124 okFlight_follow ⟨(Nat.le_of_ble_eq_true rfl), (Nat.le_of_ble_eq_true rfl)⟩ (Nat.le_of_ble_eq_true rfl) rfl (Nat.le_of_ble_eq_true rfl) rfl ⟨_, rfl, rfl⟩ rfl rfl (Nat.zero_le _) (Nat.zero_le _) ?_
  refine s_follow ln_79 (by decide) hc5 hc (fun I1 hF => ?_)
  dsimp only [pushR]
  refine x_aload_0 cK_trialViews_11 ?_
  refine x_gR (b := 83) cK_trialViews_12 fK_59 rfl rfl rfl ?_
  refine x_iload_1 cK_trialViews_15 ?_
  refine x_v1 (ls0 := [some _, some _]) cK_trialViews_16 kK_174 okFlight_views ⟨(Nat.le_of_ble_eq_true rfl), (Nat.le_of_ble_eq_true rfl)⟩ (Nat.le_of_ble_eq_true rfl) rfl (Nat.le_of_ble_eq_true rfl) rfl ⟨_, rfl, rfl⟩ rfl rfl (Nat.zero_le _) (Nat.zero_le _) ?_
  refine s_views hF.2.1 hc5 (fun hv => ?_) (fun hv => ?_)
  · dsimp only [pushR]
    refine x_ireturn cK_trialViews_19 rfl rfl (Nat.zero_le _) (Nat.zero_le _) ?_
    exact h1 ((hF.vw x).mp hv) I1 hF
  · dsimp only [pushR]
    refine x_ireturn cK_trialViews_19 rfl rfl (Nat.zero_le _) (Nat.zero_le _) ?_
    exact h0 (fun z => hv ((hF.vw x).mpr z)) I1 hF
