/-- the place x is so near the last of D that no difference overflows -/
def Rv (D : LD) (c : Nat) (x : Int32) : Prop := farI (fP D c) x = absI (x - fP D c)
theorem LyOut.same {I I1 : IT} {D : LD} {c : Nat} (h : LyOut I I1 D c) : SameM I I1 := ⟨fun a ha => h.1 a (by omega) (by omega) (by omega) (by omega), fun j hj => h.2.1 j (by omega)⟩
theorem LyOut.last {I I1 : IT} {D : LD} {c : Nat} (h : LyOut I I1 D c) (hc : 0 < c) : I1 103 (c - 1) = fH D c ∧ I1 105 (c - 1) = fP D c := by
  have := h.2.2.2 (c - 1) (by omega)
  rwa [show c - 1 + 1 = c by omega] at this
theorem s_doesSee {Po : Option Value → HS → Prop} {I : IT} {J : JT} {P : PT} {a c : Nat} {D : LD} {x : Int32} (ha : a = 96 ∨ a = 97) (hc5 : c ≤ 5) (hc : I a 0 = nI c) (h29 : I 90 29 = fF D c) (hl : 0 < c → I 103 (c - 1) = fH D c ∧ I 105 (c - 1) = fP D c) (hv : Rv D c x) (h1 : Vd D c x → Po (some (.int 1)) (hp I J P)) (h0 : ¬ Vd D c x → Po (some (.int 0)) (hp I J P)) : xj yM_doesSee (mG yM_doesSee Po) 0 [some (.ref 90), some (.ref a), some (.int x), none] [] (hp I J P) 0 0 := by
  have sa : shp a = (1, 13) := by rcases ha with rfl | rfl <;> rfl
  refine x_aload_1 cM_doesSee_0 ?_
  refine x_iconst 0 (by decide) cM_doesSee_1 ?_
  refine x_al (0) cM_doesSee_2 sa rfl (by decide) (by decide) ?_
  refine x_iconst 1 (by decide) cM_doesSee_3 ?_
  refine x_isub cM_doesSee_4 ?_
  refine x_istore_3 cM_doesSee_5 rfl (Nat.le_of_ble_eq_true rfl) ?_
  refine x_iload_3 cM_doesSee_6 ?_
  refine x_if_lt cM_doesSee_7 (fun q7 => ?_) (fun q7 => ?_)
  · have hc0 : c = 0 := by
      rcases Nat.eq_zero_or_pos c with e | e
      · exact e
      · rw [hc, show nI c - 1 = nI (c - 1) from pk_sub (b := 1) e] at q7
        exact absurd q7 (nI_pos (by omega))
    refine x_iconst 0 (by decide) cM_doesSee_42 ?_
    refine x_ireturn cM_doesSee_43 rfl rfl (Nat.zero_le _) (Nat.zero_le _) ?_
    exact h0 (fun z => absurd z.1 (by omega))
  · have hc0 : 0 < c := by
      rcases Nat.eq_zero_or_pos c with e | e
      · subst e; rw [hc] at q7; exact absurd (by decide) q7
      · exact e
    have ic : I a 0 - 1 = nI (c - 1) := by rw [hc]; exact pk_sub (b := 1) hc0
    refine x_aload_0 cM_doesSee_10 ?_
    refine x_gI cM_doesSee_11 fM_114 rfl rfl ?_
    refine x_if_ne cM_doesSee_14 (fun q14 => ?_) (fun q14 => ?_)
    · rw [h29] at q14
      refine x_iconst 0 (by decide) cM_doesSee_42 ?_
      refine x_ireturn cM_doesSee_43 rfl rfl (Nat.zero_le _) (Nat.zero_le _) ?_
      exact h0 (fun z => q14 z.2.1)
    · rw [h29] at q14
      refine x_aload_0 cM_doesSee_17 ?_
      refine x_gR (b := 105) cM_doesSee_18 fM_57 rfl rfl rfl ?_
      refine x_iload_3 cM_doesSee_21 ?_
      refine x_al (c - 1) cM_doesSee_22 rfl ic (by omega) (by decide) ?_
      rw [(hl hc0).2]
      refine x_iload_2 cM_doesSee_23 ?_
      refine x_s2 (ls0 := [some _, some _]) cM_doesSee_24 kM_117 okM_far ⟨(Nat.le_of_ble_eq_true rfl), (Nat.le_of_ble_eq_true rfl)⟩ (Nat.le_of_ble_eq_true rfl) rfl (Nat.le_of_ble_eq_true rfl) rfl rfl (Nat.zero_le _) (Nat.zero_le _) ?_
      refine s_far ?_
      dsimp only [pushR]
      refine x_top (absI (x - fP D c)) hv ?_
      refine x_aload_0 cM_doesSee_27 ?_
      refine x_gR (b := 103) cM_doesSee_28 fM_51 rfl rfl rfl ?_
      refine x_iload_3 cM_doesSee_31 ?_
      refine x_al (c - 1) cM_doesSee_32 rfl ic (by omega) (by decide) ?_
      rw [(hl hc0).1]
      refine x_iconst 4 (by decide) cM_doesSee_33 ?_
      refine x_idiv (by decide) cM_doesSee_34 ?_
      refine x_icmp_gt cM_doesSee_35 (fun q35 => ?_) (fun q35 => ?_)
      · refine x_iconst 0 (by decide) cM_doesSee_42 ?_
        refine x_ireturn cM_doesSee_43 rfl rfl (Nat.zero_le _) (Nat.zero_le _) ?_
        exact h0 (fun z => absurd z.2.2 (nle_of q35))
      · refine x_iconst 1 (by decide) cM_doesSee_38 ?_
        refine x_goto cM_doesSee_39 ?_
        refine x_ireturn cM_doesSee_43 rfl rfl (Nat.zero_le _) (Nat.zero_le _) ?_
        exact h1 ⟨hc0, by simpa using q14, lts_of q35⟩
theorem s_myardsFrom_loop {Po : Option Value → HS → Prop} {I : IT} {J : JT} {P : PT} {c i0 : Nat} (hc : I 96 0 = nI c) (hc5 : c ≤ 5) (hq : Po (some (.int (sumI (fun j => I 96 (3 + (i0 + j))) (c - i0)))) (hp I J P)) : ∀ n m, i0 + m + n = c → ∀ g1, xj yM_yardsFrom (mG yM_yardsFrom Po) 4 [some (.ref 90), some (.int g1), some (.int (sumI (fun j => I 96 (3 + (i0 + j))) m)), some (.int (nI (i0 + m)))] [] (hp I J P) 0 0 := by
  intro n
  induction n with
  | zero =>
    intro m hm g1
    obtain rfl : m = c - i0 := by omega
    rw [show i0 + (c - i0) = c by omega]
    refine x_iload_3 cM_yardsFrom_4 ?_
    refine x_aload_0 cM_yardsFrom_5 ?_
    refine x_gR (b := 96) cM_yardsFrom_6 fM_29 rfl rfl rfl ?_
    refine x_iconst 0 (by decide) cM_yardsFrom_9 ?_
    refine x_al (0) cM_yardsFrom_10 rfl rfl (by decide) (by decide) ?_
    refine x_icmp_ge cM_yardsFrom_11 (fun q11 => ?_) (fun q11 => absurd q11 (fun z => z (by rw [hc]; exact Int32.le_refl _)))
    refine x_iload_2 cM_yardsFrom_31 ?_
    refine x_ireturn cM_yardsFrom_32 rfl rfl (Nat.zero_le _) (Nat.zero_le _) ?_
    exact hq
  | succ n ih =>
    intro m hm g1
    refine x_iload_3 cM_yardsFrom_4 ?_
    refine x_aload_0 cM_yardsFrom_5 ?_
    refine x_gR (b := 96) cM_yardsFrom_6 fM_29 rfl rfl rfl ?_
    refine x_iconst 0 (by decide) cM_yardsFrom_9 ?_
    refine x_al (0) cM_yardsFrom_10 rfl rfl (by decide) (by decide) ?_
    refine x_icmp_ge cM_yardsFrom_11 (fun q11 => absurd q11 (by rw [hc]; exact nI_ge (by omega) (by omega))) (fun q11 => ?_)
    refine x_iload_2 cM_yardsFrom_14 ?_
    refine x_aload_0 cM_yardsFrom_15 ?_
    refine x_gR (b := 96) cM_yardsFrom_16 fM_29 rfl rfl rfl ?_
    refine x_iconst 3 (by decide) cM_yardsFrom_19 ?_
    refine x_iload_3 cM_yardsFrom_20 ?_
    refine x_iadd cM_yardsFrom_21 ?_
    refine x_al (3 + (i0 + m)) cM_yardsFrom_22 rfl (nI_add 3 (i0 + m)) (by omega) (by decide) ?_
    refine x_iadd cM_yardsFrom_23 ?_
    refine x_istore_2 cM_yardsFrom_24 rfl (Nat.le_of_ble_eq_true rfl) ?_
    refine x_iinc_3 (nI (i0 + (m + 1))) cM_yardsFrom_25 rfl (nI_1 (i0 + m)) (Nat.le_of_ble_eq_true rfl) ?_
    refine x_goto cM_yardsFrom_28 ?_
    exact ih (m + 1) (by omega) _
theorem s_myardsFrom {Po : Option Value → HS → Prop} {I : IT} {J : JT} {P : PT} {c i0 : Nat} (hc : I 96 0 = nI c) (hc5 : c ≤ 5) (hi : i0 ≤ c) (hq : Po (some (.int (sumI (fun j => I 96 (3 + (i0 + j))) (c - i0)))) (hp I J P)) : xj yM_yardsFrom (mG yM_yardsFrom Po) 0 [some (.ref 90), some (.int (nI i0)), none, none] [] (hp I J P) 0 0 := by
  refine x_iconst 0 (by decide) cM_yardsFrom_0 ?_
  refine x_istore_2 cM_yardsFrom_1 rfl (Nat.le_of_ble_eq_true rfl) ?_
  refine x_iload_1 cM_yardsFrom_2 ?_
  refine x_istore_3 cM_yardsFrom_3 rfl (Nat.le_of_ble_eq_true rfl) ?_
  exact s_myardsFrom_loop hc hc5 hq (c - i0) 0 (by omega) _
theorem mdD_th (I : IT) (v : Int32) {a t : Nat} (ha : a = 96 ∨ a = 97) (ht : t = 92 ∨ t = 106) : mdD (u2 I 90 0 v) a t = mdD I a t := by
  unfold mdD
  rw [u2_n (show t ≠ 90 by omega), u2_n (show a ≠ 90 by omega), u2_sn (by decide), u2_sn (by decide)]
theorem m_about {Po : Option Value → HS → Prop} {I : IT} {J : JT} {P : PT} {c n sn tl : Nat} {w : Int32} (hc : I 96 0 = nI c) (hc5 : c ≤ 5) (hG : Rg (mdD I 96 92) c) (hn : I 90 18 = nI n) (hsn : I 90 21 = nI sn) (htl : I 90 2 = nI tl) (hq : ∀ (r : Int32) (I' : IT), (RAbout (mdD I 96 92) c n sn tl w r ∧ SameM I I') → Po (some (.int r)) (hp I' J P)) : xj yM_about (mG yM_about Po) 0 [some (.ref 90), some (.int w)] [] (hp I J P) 0 0 := by
  refine x_aload_0 cM_about_0 ?_
  refine x_iconst 0 (by decide) cM_about_1 ?_
  refine x_pI cM_about_2 fM_66 rfl rfl ?_
  refine x_aload_0 cM_about_5 ?_
  refine x_v0 (ls0 := [some _]) cM_about_6 kM_124 okM_layPage ⟨(Nat.le_of_ble_eq_true rfl), (Nat.le_of_ble_eq_true rfl)⟩ (Nat.le_of_ble_eq_true rfl) rfl (Nat.le_of_ble_eq_true rfl) rfl ⟨_, rfl, rfl⟩ rfl rfl (Nat.zero_le _) (Nat.zero_le _) ?_
  refine s_layPage hc5 (by rw [u2_n (by decide)]; exact hc) (by rw [mdD_th I 0 (Or.inl rfl) (Or.inl rfl)]; exact hG) (fun I1 hL => ?_)
  rw [mdD_th I 0 (Or.inl rfl) (Or.inl rfl)] at hL
  have hS : SameM I I1 := (SameM.th I).tr hL.same
  have c1 : I1 96 0 = nI c := by rw [hS.1 96 (by omega)]; exact hc
  dsimp only [pushR]
  refine x_iload_1 cM_about_9 ?_
  rcases pk_ix w (n := 10) (by decide) with hw | hw | ⟨jw, hjw, ew⟩
  · refine x_tblOut (nx := 0) (tg := 116) cM_about_10 (tbl_out (n := 9) (by decide) (Or.inl hw) (by decide)) (by decide) ?_
    refine x_bipush (-2) (by decide) cM_about_116 ?_
    refine x_ireturn cM_about_118 rfl rfl (Nat.zero_le _) (Nat.zero_le _) ?_
    exact hq _ _ ⟨⟨fun _ => rfl, fun z => absurd z (fun e => (tbl_ne (n := 10) e (Or.inl hw) (by decide))), fun z => absurd z (fun e => (tbl_ne (n := 10) e (Or.inl hw) (by decide))), fun z => absurd z (fun e => (tbl_ne (n := 10) e (Or.inl hw) (by decide))), fun z => absurd z (fun e => (tbl_ne (n := 10) e (Or.inl hw) (by decide))), fun z => absurd z (fun e => (tbl_ne (n := 10) e (Or.inl hw) (by decide))), fun z => absurd z (fun e => (tbl_ne (n := 10) e (Or.inl hw) (by decide))), fun z => absurd z (fun e => (tbl_ne (n := 10) e (Or.inl hw) (by decide))), fun z => absurd z (fun e => (tbl_ne (n := 10) e (Or.inl hw) (by decide))), fun z => absurd z (fun e => (tbl_ne (n := 10) e (Or.inl hw) (by decide))), fun z => absurd z (fun e => (tbl_ne (n := 10) e (Or.inl hw) (by decide)))⟩, hS⟩
  · refine x_tblOut (nx := 0) (tg := 116) cM_about_10 (tbl_out (n := 9) (by decide) (Or.inr hw) (by decide)) (by decide) ?_
    refine x_bipush (-2) (by decide) cM_about_116 ?_
    refine x_ireturn cM_about_118 rfl rfl (Nat.zero_le _) (Nat.zero_le _) ?_
    exact hq _ _ ⟨⟨fun _ => rfl, fun z => absurd z (fun e => (tbl_ne (n := 10) e (Or.inr hw) (by decide))), fun z => absurd z (fun e => (tbl_ne (n := 10) e (Or.inr hw) (by decide))), fun z => absurd z (fun e => (tbl_ne (n := 10) e (Or.inr hw) (by decide))), fun z => absurd z (fun e => (tbl_ne (n := 10) e (Or.inr hw) (by decide))), fun z => absurd z (fun e => (tbl_ne (n := 10) e (Or.inr hw) (by decide))), fun z => absurd z (fun e => (tbl_ne (n := 10) e (Or.inr hw) (by decide))), fun z => absurd z (fun e => (tbl_ne (n := 10) e (Or.inr hw) (by decide))), fun z => absurd z (fun e => (tbl_ne (n := 10) e (Or.inr hw) (by decide))), fun z => absurd z (fun e => (tbl_ne (n := 10) e (Or.inr hw) (by decide))), fun z => absurd z (fun e => (tbl_ne (n := 10) e (Or.inr hw) (by decide)))⟩, hS⟩
  · subst ew
    rcases (show jw = 0 ∨ jw = 1 ∨ jw = 2 ∨ jw = 3 ∨ jw = 4 ∨ jw = 5 ∨ jw = 6 ∨ jw = 7 ∨ jw = 8 ∨ jw = 9 by omega) with rfl | rfl | rfl | rfl | rfl | rfl | rfl | rfl | rfl | rfl
    · refine x_tblIn (nx := 0) (off := 54) (tg := 64) cM_about_10 (by decide) (by decide) (by decide) (by decide) ?_
      refine x_aload_0 cM_about_64 ?_
      refine x_gR (b := 96) cM_about_65 fM_29 rfl rfl rfl ?_
      refine x_iconst 0 (by decide) cM_about_68 ?_
      refine x_al (0) cM_about_69 rfl rfl (by decide) (by decide) ?_
      refine x_ireturn cM_about_70 rfl rfl (Nat.zero_le _) (Nat.zero_le _) ?_
      exact hq _ _ ⟨⟨fun z => absurd z (by decide), fun _ => c1, fun z => absurd z (by decide), fun z => absurd z (by decide), fun z => absurd z (by decide), fun z => absurd z (by decide), fun z => absurd z (by decide), fun z => absurd z (by decide), fun z => absurd z (by decide), fun z => absurd z (by decide), fun z => absurd z (by decide)⟩, hS⟩
    · refine x_tblIn (nx := 0) (off := 61) (tg := 71) cM_about_10 (by decide) (by decide) (by decide) (by decide) ?_
      refine x_aload_0 cM_about_71 ?_
      refine x_gR (b := 96) cM_about_72 fM_29 rfl rfl rfl ?_
      refine x_iload_1 cM_about_75 ?_
      refine x_al (1) cM_about_76 rfl rfl (by decide) (by decide) ?_
      refine x_iconst 2 (by decide) cM_about_77 ?_
      refine x_iadd cM_about_78 ?_
      refine x_ireturn cM_about_79 rfl rfl (Nat.zero_le _) (Nat.zero_le _) ?_
      exact hq _ _ ⟨⟨fun z => absurd z (by decide), fun z => absurd z (by decide), fun _ => by rw [hS.1 96 (by omega)]; rfl, fun z => absurd z (by decide), fun z => absurd z (by decide), fun z => absurd z (by decide), fun z => absurd z (by decide), fun z => absurd z (by decide), fun z => absurd z (by decide), fun z => absurd z (by decide), fun z => absurd z (by decide)⟩, hS⟩
    · refine x_tblIn (nx := 0) (off := 61) (tg := 71) cM_about_10 (by decide) (by decide) (by decide) (by decide) ?_
      refine x_aload_0 cM_about_71 ?_
      refine x_gR (b := 96) cM_about_72 fM_29 rfl rfl rfl ?_
      refine x_iload_1 cM_about_75 ?_
      refine x_al (2) cM_about_76 rfl rfl (by decide) (by decide) ?_
      refine x_iconst 2 (by decide) cM_about_77 ?_
      refine x_iadd cM_about_78 ?_
      refine x_ireturn cM_about_79 rfl rfl (Nat.zero_le _) (Nat.zero_le _) ?_
      exact hq _ _ ⟨⟨fun z => absurd z (by decide), fun z => absurd z (by decide), fun z => absurd z (by decide), fun _ => by rw [hS.1 96 (by omega)]; rfl, fun z => absurd z (by decide), fun z => absurd z (by decide), fun z => absurd z (by decide), fun z => absurd z (by decide), fun z => absurd z (by decide), fun z => absurd z (by decide), fun z => absurd z (by decide)⟩, hS⟩
    · refine x_tblIn (nx := 0) (off := 70) (tg := 80) cM_about_10 (by decide) (by decide) (by decide) (by decide) ?_
      refine x_aload_0 cM_about_80 ?_
      refine x_gI cM_about_81 fM_108 rfl rfl ?_
      refine x_ireturn cM_about_84 rfl rfl (Nat.zero_le _) (Nat.zero_le _) ?_
      exact hq _ _ ⟨⟨fun z => absurd z (by decide), fun z => absurd z (by decide), fun z => absurd z (by decide), fun z => absurd z (by decide), fun _ => by rw [hS.2 4 (by omega)]; rfl, fun z => absurd z (by decide), fun z => absurd z (by decide), fun z => absurd z (by decide), fun z => absurd z (by decide), fun z => absurd z (by decide), fun z => absurd z (by decide)⟩, hS⟩
    · refine x_tblIn (nx := 0) (off := 75) (tg := 85) cM_about_10 (by decide) (by decide) (by decide) (by decide) ?_
      refine x_aload_0 cM_about_85 ?_
      refine x_gI cM_about_86 fM_13 rfl rfl ?_
      refine x_ireturn cM_about_89 rfl rfl (Nat.zero_le _) (Nat.zero_le _) ?_
      exact hq _ _ ⟨⟨fun z => absurd z (by decide), fun z => absurd z (by decide), fun z => absurd z (by decide), fun z => absurd z (by decide), fun z => absurd z (by decide), fun _ => by rw [hS.2 5 (by omega)]; rfl, fun z => absurd z (by decide), fun z => absurd z (by decide), fun z => absurd z (by decide), fun z => absurd z (by decide), fun z => absurd z (by decide)⟩, hS⟩
    · refine x_tblIn (nx := 0) (off := 80) (tg := 90) cM_about_10 (by decide) (by decide) (by decide) (by decide) ?_
      refine x_aload_0 cM_about_90 ?_
      refine x_iconst 0 (by decide) cM_about_91 ?_
      refine x_v1 (ls0 := [some _, some _, none, none]) cM_about_92 kM_127 okM_yardsFrom ⟨(Nat.le_of_ble_eq_true rfl), (Nat.le_of_ble_eq_true rfl)⟩ (Nat.le_of_ble_eq_true rfl) rfl (Nat.le_of_ble_eq_true rfl) rfl ⟨_, rfl, rfl⟩ rfl rfl (Nat.zero_le _) (Nat.zero_le _) ?_
      refine s_myardsFrom (i0 := 0) c1 hc5 (by omega) ?_
      dsimp only [pushR]
      refine x_ireturn cM_about_95 rfl rfl (Nat.zero_le _) (Nat.zero_le _) ?_
      exact hq _ _ ⟨⟨fun z => absurd z (by decide), fun z => absurd z (by decide), fun z => absurd z (by decide), fun z => absurd z (by decide), fun z => absurd z (by decide), fun z => absurd z (by decide), fun _ => by rw [hS.1 96 (by omega)]; simp only [Nat.zero_add, Nat.sub_zero]; rfl, fun z => absurd z (by decide), fun z => absurd z (by decide), fun z => absurd z (by decide), fun z => absurd z (by decide)⟩, hS⟩
    · refine x_tblIn (nx := 0) (off := 86) (tg := 96) cM_about_10 (by decide) (by decide) (by decide) (by decide) ?_
      refine x_aload_0 cM_about_96 ?_
      refine x_gI cM_about_97 fM_114 rfl rfl ?_
      refine x_ireturn cM_about_100 rfl rfl (Nat.zero_le _) (Nat.zero_le _) ?_
      exact hq _ _ ⟨⟨fun z => absurd z (by decide), fun z => absurd z (by decide), fun z => absurd z (by decide), fun z => absurd z (by decide), fun z => absurd z (by decide), fun z => absurd z (by decide), fun z => absurd z (by decide), fun _ => hL.2.2.1, fun z => absurd z (by decide), fun z => absurd z (by decide), fun z => absurd z (by decide)⟩, hS⟩
    · refine x_tblIn (nx := 0) (off := 91) (tg := 101) cM_about_10 (by decide) (by decide) (by decide) (by decide) ?_
      refine x_aload_0 cM_about_101 ?_
      refine x_gI cM_about_102 fM_111 rfl rfl ?_
      refine x_ireturn cM_about_105 rfl rfl (Nat.zero_le _) (Nat.zero_le _) ?_
      exact hq _ _ ⟨⟨fun z => absurd z (by decide), fun z => absurd z (by decide), fun z => absurd z (by decide), fun z => absurd z (by decide), fun z => absurd z (by decide), fun z => absurd z (by decide), fun z => absurd z (by decide), fun z => absurd z (by decide), fun _ => by rw [hS.2 18 (by omega)]; exact hn, fun z => absurd z (by decide), fun z => absurd z (by decide)⟩, hS⟩
    · refine x_tblIn (nx := 0) (off := 96) (tg := 106) cM_about_10 (by decide) (by decide) (by decide) (by decide) ?_
      refine x_aload_0 cM_about_106 ?_
      refine x_gI cM_about_107 fM_131 rfl rfl ?_
      refine x_ireturn cM_about_110 rfl rfl (Nat.zero_le _) (Nat.zero_le _) ?_
      exact hq _ _ ⟨⟨fun z => absurd z (by decide), fun z => absurd z (by decide), fun z => absurd z (by decide), fun z => absurd z (by decide), fun z => absurd z (by decide), fun z => absurd z (by decide), fun z => absurd z (by decide), fun z => absurd z (by decide), fun z => absurd z (by decide), fun _ => by rw [hS.2 21 (by omega)]; exact hsn, fun z => absurd z (by decide)⟩, hS⟩
    · refine x_tblIn (nx := 0) (off := 101) (tg := 111) cM_about_10 (by decide) (by decide) (by decide) (by decide) ?_
      refine x_aload_0 cM_about_111 ?_
      refine x_gI cM_about_112 fM_75 rfl rfl ?_
      refine x_ireturn cM_about_115 rfl rfl (Nat.zero_le _) (Nat.zero_le _) ?_
      exact hq _ _ ⟨⟨fun z => absurd z (by decide), fun z => absurd z (by decide), fun z => absurd z (by decide), fun z => absurd z (by decide), fun z => absurd z (by decide), fun z => absurd z (by decide), fun z => absurd z (by decide), fun z => absurd z (by decide), fun z => absurd z (by decide), fun z => absurd z (by decide), fun _ => by rw [hS.2 2 (by omega)]; exact htl⟩, hS⟩
theorem m_kite {Po : Option Value → HS → Prop} {I : IT} {J : JT} {P : PT} {c : Nat} {i w : Int32} (hc : I 96 0 = nI c) (hc5 : c ≤ 5) (hG : Rg (mdD I 96 92) c) (hq : ∀ (r : Int32) (I' : IT), (RKite (mdD I 96 92) c i w r ∧ SameM I I') → Po (some (.int r)) (hp I' J P)) : xj yM_kite (mG yM_kite Po) 0 [some (.ref 90), some (.int i), some (.int w)] [] (hp I J P) 0 0 := by
  refine x_aload_0 cM_kite_0 ?_
  refine x_iconst 0 (by decide) cM_kite_1 ?_
  refine x_pI cM_kite_2 fM_66 rfl rfl ?_
  refine x_aload_0 cM_kite_5 ?_
  refine x_iload_1 cM_kite_6 ?_
  refine x_v1 (ls0 := [some _, some _]) cM_kite_7 kM_134 okM_noKite ⟨(Nat.le_of_ble_eq_true rfl), (Nat.le_of_ble_eq_true rfl)⟩ (Nat.le_of_ble_eq_true rfl) rfl (Nat.le_of_ble_eq_true rfl) rfl ⟨_, rfl, rfl⟩ rfl rfl (Nat.zero_le _) (Nat.zero_le _) ?_
  refine s_noKite (by rw [u2_n (by decide)]; exact hc) hc5 (fun hno => ?_) (fun j hj ej => ?_)
  · dsimp only [pushR]
    refine x_if_eq cM_kite_10 (fun q => absurd q (by decide)) (fun _ => ?_)
    refine x_iconst (-1) (by decide) cM_kite_13 ?_
    refine x_ireturn cM_kite_14 rfl rfl (Nat.zero_le _) (Nat.zero_le _) ?_
    exact hq _ _ ⟨⟨fun _ => rfl, fun j hj e => absurd ⟨j, hj, e⟩ hno⟩, SameM.th I⟩
  · dsimp only [pushR]
    refine x_if_eq cM_kite_10 (fun _ => ?_) (fun q => absurd rfl q)
    refine x_aload_0 cM_kite_15 ?_
    refine x_v0 (ls0 := [some _]) cM_kite_16 kM_124 okM_layPage ⟨(Nat.le_of_ble_eq_true rfl), (Nat.le_of_ble_eq_true rfl)⟩ (Nat.le_of_ble_eq_true rfl) rfl (Nat.le_of_ble_eq_true rfl) rfl ⟨_, rfl, rfl⟩ rfl rfl (Nat.zero_le _) (Nat.zero_le _) ?_
    refine s_layPage hc5 (by rw [u2_n (by decide)]; exact hc) (by rw [mdD_th I 0 (Or.inl rfl) (Or.inl rfl)]; exact hG) (fun I1 hL => ?_)
    rw [mdD_th I 0 (Or.inl rfl) (Or.inl rfl)] at hL
    have hS : SameM I I1 := (SameM.th I).tr hL.same
    have c1 : I1 96 0 = nI c := by rw [hS.1 96 (by omega)]; exact hc
    dsimp only [pushR]
    refine x_iload_2 cM_kite_19 ?_
    rcases pk_ix w (n := 6) (by decide) with hw | hw | ⟨jw, hjw, ew⟩
    · refine x_tblOut (nx := 0) (tg := 114) cM_kite_20 (tbl_out (n := 5) (by decide) (Or.inl hw) (by decide)) (by decide) ?_
      refine x_bipush (-2) (by decide) cM_kite_114 ?_
      refine x_ireturn cM_kite_116 rfl rfl (Nat.zero_le _) (Nat.zero_le _) ?_
      refine hq _ _ ⟨⟨fun z => absurd ⟨j, hj, ej⟩ z, ?_⟩, hS⟩
      intro k hk ek
      obtain rfl := (nI_one hc5 hj ej hk ek).symm
      exact ⟨fun _ => rfl, fun z => absurd z (fun e => (tbl_ne (n := 6) e (Or.inl hw) (by decide))), fun z => absurd z (fun e => (tbl_ne (n := 6) e (Or.inl hw) (by decide))), fun z => absurd z (fun e => (tbl_ne (n := 6) e (Or.inl hw) (by decide))), fun z => absurd z (fun e => (tbl_ne (n := 6) e (Or.inl hw) (by decide))), fun z => absurd z (fun e => (tbl_ne (n := 6) e (Or.inl hw) (by decide))), fun z => absurd z (fun e => (tbl_ne (n := 6) e (Or.inl hw) (by decide)))⟩
    · refine x_tblOut (nx := 0) (tg := 114) cM_kite_20 (tbl_out (n := 5) (by decide) (Or.inr hw) (by decide)) (by decide) ?_
      refine x_bipush (-2) (by decide) cM_kite_114 ?_
      refine x_ireturn cM_kite_116 rfl rfl (Nat.zero_le _) (Nat.zero_le _) ?_
      refine hq _ _ ⟨⟨fun z => absurd ⟨j, hj, ej⟩ z, ?_⟩, hS⟩
      intro k hk ek
      obtain rfl := (nI_one hc5 hj ej hk ek).symm
      exact ⟨fun _ => rfl, fun z => absurd z (fun e => (tbl_ne (n := 6) e (Or.inr hw) (by decide))), fun z => absurd z (fun e => (tbl_ne (n := 6) e (Or.inr hw) (by decide))), fun z => absurd z (fun e => (tbl_ne (n := 6) e (Or.inr hw) (by decide))), fun z => absurd z (fun e => (tbl_ne (n := 6) e (Or.inr hw) (by decide))), fun z => absurd z (fun e => (tbl_ne (n := 6) e (Or.inr hw) (by decide))), fun z => absurd z (fun e => (tbl_ne (n := 6) e (Or.inr hw) (by decide)))⟩
    · subst ew
      rcases (show jw = 0 ∨ jw = 1 ∨ jw = 2 ∨ jw = 3 ∨ jw = 4 ∨ jw = 5 by omega) with rfl | rfl | rfl | rfl | rfl | rfl
      · refine x_tblIn (nx := 0) (off := 40) (tg := 60) cM_kite_20 (by decide) (by decide) (by decide) (by decide) ?_
        refine x_aload_0 cM_kite_60 ?_
        refine x_gR (b := 96) cM_kite_61 fM_29 rfl rfl rfl ?_
        refine x_iconst 3 (by decide) cM_kite_64 ?_
        refine x_iload_1 cM_kite_65 ?_
        refine x_iadd cM_kite_66 ?_
        refine x_al (3 + j) cM_kite_67 rfl (by rw [ej]; exact nI_add 3 j) (by omega) (by decide) ?_
        refine x_ireturn cM_kite_68 rfl rfl (Nat.zero_le _) (Nat.zero_le _) ?_
        refine hq _ _ ⟨⟨fun z => absurd ⟨j, hj, ej⟩ z, ?_⟩, hS⟩
        intro k hk ek
        obtain rfl := (nI_one hc5 hj ej hk ek).symm
        exact ⟨fun z => absurd z (by decide), fun _ => by rw [hS.1 96 (by omega)]; rfl, fun z => absurd z (by decide), fun z => absurd z (by decide), fun z => absurd z (by decide), fun z => absurd z (by decide), fun z => absurd z (by decide)⟩
      · refine x_tblIn (nx := 0) (off := 49) (tg := 69) cM_kite_20 (by decide) (by decide) (by decide) (by decide) ?_
        refine x_aload_0 cM_kite_69 ?_
        refine x_gR (b := 96) cM_kite_70 fM_29 rfl rfl rfl ?_
        refine x_bipush 8 (by decide) cM_kite_73 ?_
        refine x_iload_1 cM_kite_75 ?_
        refine x_iadd cM_kite_76 ?_
        refine x_al (8 + j) cM_kite_77 rfl (by rw [ej]; exact nI_add 8 j) (by omega) (by decide) ?_
        refine x_iconst 2 (by decide) cM_kite_78 ?_
        refine x_iadd cM_kite_79 ?_
        refine x_ireturn cM_kite_80 rfl rfl (Nat.zero_le _) (Nat.zero_le _) ?_
        refine hq _ _ ⟨⟨fun z => absurd ⟨j, hj, ej⟩ z, ?_⟩, hS⟩
        intro k hk ek
        obtain rfl := (nI_one hc5 hj ej hk ek).symm
        exact ⟨fun z => absurd z (by decide), fun z => absurd z (by decide), fun _ => by rw [hS.1 96 (by omega)]; rfl, fun z => absurd z (by decide), fun z => absurd z (by decide), fun z => absurd z (by decide), fun z => absurd z (by decide)⟩
      · refine x_tblIn (nx := 0) (off := 61) (tg := 81) cM_kite_20 (by decide) (by decide) (by decide) (by decide) ?_
        refine x_aload_0 cM_kite_81 ?_
        refine x_gR (b := 92) cM_kite_82 fM_17 rfl rfl rfl ?_
        refine x_iload_1 cM_kite_85 ?_
        refine x_al (j) cM_kite_86 rfl ej (by omega) (by decide) ?_
        refine x_ireturn cM_kite_87 rfl rfl (Nat.zero_le _) (Nat.zero_le _) ?_
        refine hq _ _ ⟨⟨fun z => absurd ⟨j, hj, ej⟩ z, ?_⟩, hS⟩
        intro k hk ek
        obtain rfl := (nI_one hc5 hj ej hk ek).symm
        exact ⟨fun z => absurd z (by decide), fun z => absurd z (by decide), fun z => absurd z (by decide), fun _ => by rw [hS.1 92 (by omega)]; rfl, fun z => absurd z (by decide), fun z => absurd z (by decide), fun z => absurd z (by decide)⟩
      · refine x_tblIn (nx := 0) (off := 68) (tg := 88) cM_kite_20 (by decide) (by decide) (by decide) (by decide) ?_
        refine x_aload_0 cM_kite_88 ?_
        refine x_gR (b := 103) cM_kite_89 fM_51 rfl rfl rfl ?_
        refine x_iload_1 cM_kite_92 ?_
        refine x_al (j) cM_kite_93 rfl ej (by omega) (by decide) ?_
        refine x_ireturn cM_kite_94 rfl rfl (Nat.zero_le _) (Nat.zero_le _) ?_
        refine hq _ _ ⟨⟨fun z => absurd ⟨j, hj, ej⟩ z, ?_⟩, hS⟩
        intro k hk ek
        obtain rfl := (nI_one hc5 hj ej hk ek).symm
        exact ⟨fun z => absurd z (by decide), fun z => absurd z (by decide), fun z => absurd z (by decide), fun z => absurd z (by decide), fun _ => (hL.2.2.2 j hj).1, fun z => absurd z (by decide), fun z => absurd z (by decide)⟩
      · refine x_tblIn (nx := 0) (off := 75) (tg := 95) cM_kite_20 (by decide) (by decide) (by decide) (by decide) ?_
        refine x_aload_0 cM_kite_95 ?_
        refine x_gR (b := 105) cM_kite_96 fM_57 rfl rfl rfl ?_
        refine x_iload_1 cM_kite_99 ?_
        refine x_al (j) cM_kite_100 rfl ej (by omega) (by decide) ?_
        refine x_bipush 100 (by decide) cM_kite_101 ?_
        refine x_iadd cM_kite_103 ?_
        refine x_ireturn cM_kite_104 rfl rfl (Nat.zero_le _) (Nat.zero_le _) ?_
        refine hq _ _ ⟨⟨fun z => absurd ⟨j, hj, ej⟩ z, ?_⟩, hS⟩
        intro k hk ek
        obtain rfl := (nI_one hc5 hj ej hk ek).symm
        exact ⟨fun z => absurd z (by decide), fun z => absurd z (by decide), fun z => absurd z (by decide), fun z => absurd z (by decide), fun z => absurd z (by decide), fun _ => by rw [(hL.2.2.2 j hj).2], fun z => absurd z (by decide)⟩
      · refine x_tblIn (nx := 0) (off := 85) (tg := 105) cM_kite_20 (by decide) (by decide) (by decide) (by decide) ?_
        refine x_aload_0 cM_kite_105 ?_
        refine x_gI cM_kite_106 fM_114 rfl rfl ?_
        refine x_iload_1 cM_kite_109 ?_
        refine x_ishr cM_kite_110 ?_
        refine x_iconst 1 (by decide) cM_kite_111 ?_
        refine x_iand cM_kite_112 ?_
        refine x_ireturn cM_kite_113 rfl rfl (Nat.zero_le _) (Nat.zero_le _) ?_
        refine hq _ _ ⟨⟨fun z => absurd ⟨j, hj, ej⟩ z, ?_⟩, hS⟩
        intro k hk ek
        obtain rfl := (nI_one hc5 hj ej hk ek).symm
        exact ⟨fun z => absurd z (by decide), fun z => absurd z (by decide), fun z => absurd z (by decide), fun z => absurd z (by decide), fun z => absurd z (by decide), fun z => absurd z (by decide), fun _ => by rw [hL.2.2.1, ej]⟩
theorem m_sees {Po : Option Value → HS → Prop} {I : IT} {J : JT} {P : PT} {c : Nat} {x : Int32} (hc : I 96 0 = nI c) (hc5 : c ≤ 5) (hG : Rg (mdD I 96 92) c) (hv : (-100 ≤ x ∧ x ≤ 100) → Rv (mdD I 96 92) c x) (hq : ∀ (r : Int32) (I' : IT), (RSees (mdD I 96 92) c x r ∧ SameM I I') → Po (some (.int r)) (hp I' J P)) : xj yM_sees (mG yM_sees Po) 0 [some (.ref 90), some (.int x)] [] (hp I J P) 0 0 := by
  refine x_aload_0 cM_sees_0 ?_
  refine x_iconst 0 (by decide) cM_sees_1 ?_
  refine x_pI cM_sees_2 fM_66 rfl rfl ?_
  refine x_iload_1 cM_sees_5 ?_
  refine x_i2l cM_sees_6 ?_
  refine x_ldc2 cM_sees_7 qM_151 ?_
  refine x_ldc2 cM_sees_10 qM_153 ?_
  refine x_s3 (ls0 := [some _, none, some _, none, some _, none]) cM_sees_13 kM_69 okM_in ⟨(Nat.le_of_ble_eq_true rfl), (Nat.le_of_ble_eq_true rfl)⟩ (Nat.le_of_ble_eq_true rfl) rfl (Nat.le_of_ble_eq_true rfl) rfl rfl (Nat.zero_le _) (Nat.zero_le _) ?_
  refine s_in (a := -100) (b := 100) (by decide) (by decide) (fun hw => ?_) (fun hw => ?_)
  · dsimp only [pushR]
    refine x_if_ne cM_sees_16 (fun _ => ?_) (fun q => absurd q (by decide))
    refine x_aload_0 cM_sees_22 ?_
    refine x_v0 (ls0 := [some _]) cM_sees_23 kM_124 okM_layPage ⟨(Nat.le_of_ble_eq_true rfl), (Nat.le_of_ble_eq_true rfl)⟩ (Nat.le_of_ble_eq_true rfl) rfl (Nat.le_of_ble_eq_true rfl) rfl ⟨_, rfl, rfl⟩ rfl rfl (Nat.zero_le _) (Nat.zero_le _) ?_
    refine s_layPage hc5 (by rw [u2_n (by decide)]; exact hc) (by rw [mdD_th I 0 (Or.inl rfl) (Or.inl rfl)]; exact hG) (fun I1 hL => ?_)
    rw [mdD_th I 0 (Or.inl rfl) (Or.inl rfl)] at hL
    have hS : SameM I I1 := (SameM.th I).tr hL.same
    have c1 : I1 96 0 = nI c := by rw [hS.1 96 (by omega)]; exact hc
    dsimp only [pushR]
    refine x_aload_0 cM_sees_26 ?_
    refine x_aload_0 cM_sees_27 ?_
    refine x_gR (b := 96) cM_sees_28 fM_29 rfl rfl rfl ?_
    refine x_iload_1 cM_sees_31 ?_
    refine x_v2 (ls0 := [some _, some _, some _, none]) cM_sees_32 kM_155 okM_doesSee ⟨(Nat.le_of_ble_eq_true rfl), (Nat.le_of_ble_eq_true rfl)⟩ (Nat.le_of_ble_eq_true rfl) rfl (Nat.le_of_ble_eq_true rfl) rfl ⟨_, rfl, rfl⟩ rfl rfl (Nat.zero_le _) (Nat.zero_le _) ?_
    refine s_doesSee (D := mdD I 96 92) (Or.inl rfl) hc5 c1 hL.2.2.1 hL.last (hv hw) (fun hV => ?_) (fun hV => ?_)
    · dsimp only [pushR]
      refine x_if_eq cM_sees_35 (fun q => absurd q (by decide)) (fun _ => ?_)
      refine x_iconst 1 (by decide) cM_sees_38 ?_
      refine x_goto cM_sees_39 ?_
      refine x_ireturn cM_sees_43 rfl rfl (Nat.zero_le _) (Nat.zero_le _) ?_
      exact hq _ _ ⟨⟨fun z => absurd hw z, fun _ => ⟨fun _ => rfl, fun z => absurd hV z⟩⟩, hS⟩
    · dsimp only [pushR]
      refine x_if_eq cM_sees_35 (fun _ => ?_) (fun q => absurd rfl q)
      refine x_iconst 0 (by decide) cM_sees_42 ?_
      refine x_ireturn cM_sees_43 rfl rfl (Nat.zero_le _) (Nat.zero_le _) ?_
      exact hq _ _ ⟨⟨fun z => absurd hw z, fun _ => ⟨fun z => absurd z hV, fun _ => rfl⟩⟩, hS⟩
  · dsimp only [pushR]
    refine x_if_ne cM_sees_16 (fun q => absurd rfl q) (fun _ => ?_)
    refine x_bipush (-2) (by decide) cM_sees_19 ?_
    refine x_ireturn cM_sees_21 rfl rfl (Nat.zero_le _) (Nat.zero_le _) ?_
    exact hq _ _ ⟨⟨fun _ => rfl, fun z => absurd z hw⟩, SameM.th I⟩
theorem m_drops {Po : Option Value → HS → Prop} {I : IT} {J : JT} {P : PT} {c : Nat} {i : Int32} (hc : I 96 0 = nI c) (hc5 : c ≤ 5) (hq : ∀ (r : Int32) (I' : IT), (RDrops (mdD I 96 92) c i r ∧ SameM I I') → Po (some (.int r)) (hp I' J P)) : xj yM_drops (mG yM_drops Po) 0 [some (.ref 90), some (.int i)] [] (hp I J P) 0 0 := by
  refine x_aload_0 cM_drops_0 ?_
  refine x_iconst 0 (by decide) cM_drops_1 ?_
  refine x_pI cM_drops_2 fM_66 rfl rfl ?_
  refine x_aload_0 cM_drops_5 ?_
  refine x_iload_1 cM_drops_6 ?_
  refine x_v1 (ls0 := [some _, some _]) cM_drops_7 kM_134 okM_noKite ⟨(Nat.le_of_ble_eq_true rfl), (Nat.le_of_ble_eq_true rfl)⟩ (Nat.le_of_ble_eq_true rfl) rfl (Nat.le_of_ble_eq_true rfl) rfl ⟨_, rfl, rfl⟩ rfl rfl (Nat.zero_le _) (Nat.zero_le _) ?_
  refine s_noKite (by rw [u2_n (by decide)]; exact hc) hc5 (fun hno => ?_) (fun j hj ej => ?_)
  · dsimp only [pushR]
    refine x_if_eq cM_drops_10 (fun q => absurd q (by decide)) (fun _ => ?_)
    refine x_iconst (-1) (by decide) cM_drops_13 ?_
    refine x_goto cM_drops_14 ?_
    refine x_ireturn cM_drops_22 rfl rfl (Nat.zero_le _) (Nat.zero_le _) ?_
    exact hq _ _ ⟨⟨fun _ => rfl, fun j hj e => absurd ⟨j, hj, e⟩ hno⟩, SameM.th I⟩
  · dsimp only [pushR]
    subst ej
    refine x_if_eq cM_drops_10 (fun _ => ?_) (fun q => absurd rfl q)
    refine x_aload_0 cM_drops_17 ?_
    refine x_iload_1 cM_drops_18 ?_
    refine x_v1 (ls0 := [some _, some _, none, none]) cM_drops_19 kM_127 okM_yardsFrom ⟨(Nat.le_of_ble_eq_true rfl), (Nat.le_of_ble_eq_true rfl)⟩ (Nat.le_of_ble_eq_true rfl) rfl (Nat.le_of_ble_eq_true rfl) rfl ⟨_, rfl, rfl⟩ rfl rfl (Nat.zero_le _) (Nat.zero_le _) ?_
    refine s_myardsFrom (i0 := j) (by rw [u2_n (by decide)]; exact hc) hc5 (by omega) ?_
    dsimp only [pushR]
    refine x_ireturn cM_drops_22 rfl rfl (Nat.zero_le _) (Nat.zero_le _) ?_
    refine hq _ _ ⟨⟨fun z => absurd ⟨j, hj, rfl⟩ z, fun k hk ek => ?_⟩, SameM.th I⟩
    obtain rfl := (nI_one hc5 hj rfl hk ek).symm
    rw [u2_n (by decide)]
    rfl
theorem s_mwhere_loop {Po : Option Value → HS → Prop} {I : IT} {J : JT} {P : PT} {c : Nat} (hc : I 96 0 = nI c) (hc5 : c ≤ 5) (hq : ∀ r, RWhere (I 90 29) c r → Po (some (.int r)) (hp I J P)) : ∀ m k, (k + m = c ∨ (m = 0 ∧ k = 1 ∧ c = 0)) → 1 ≤ k → ∀ v, (v = -9 ∧ (∀ j, 1 ≤ j → j < k → ¬ okC (I 90 29) j)) ∨ (∃ j, 1 ≤ j ∧ j < k ∧ okC (I 90 29) j ∧ (∀ i, j < i → i < k → ¬ okC (I 90 29) i) ∧ v = nI j) → xj yM_whereToCut (mG yM_whereToCut Po) 14 [some (.ref 90), some (.int v), some (.int (nI k))] [] (hp I J P) 0 0 := by
  intro m
  induction m with
  | zero =>
    intro k hk hk1 v hv
    have hck : c ≤ k := by omega
    refine x_iload_2 cM_whereToCut_14 ?_
    refine x_aload_0 cM_whereToCut_15 ?_
    refine x_gR (b := 96) cM_whereToCut_16 fM_29 rfl rfl rfl ?_
    refine x_iconst 0 (by decide) cM_whereToCut_19 ?_
    refine x_al (0) cM_whereToCut_20 rfl rfl (by decide) (by decide) ?_
    refine x_icmp_ge cM_whereToCut_21 (fun q21 => ?_) (fun q21 => absurd q21 (fun z => z (by rw [hc]; exact nI_le hck (by omega))))
    refine x_iload_1 cM_whereToCut_49 ?_
    refine x_ireturn cM_whereToCut_50 rfl rfl (Nat.zero_le _) (Nat.zero_le _) ?_
    refine hq _ ⟨fun j h1 h2 h3 h4 => ?_, fun h => ?_⟩
    · rcases hv with ⟨_, ha⟩ | ⟨i, i1, i2, i3, i4, i5⟩
      · exact absurd h3 (ha j h1 (by omega))
      · rw [i5]
        rcases Nat.lt_trichotomy i j with e | e | e
        · exact absurd h3 (i4 j e (by omega))
        · rw [e]
        · exact absurd i3 (h4 i e (by omega))
    · rcases hv with ⟨e, _⟩ | ⟨i, i1, i2, i3, i4, i5⟩
      · exact e
      · exact absurd i3 (h i i1 (by omega))
  | succ m ih =>
    intro k hk hk1 v hv
    have hkc : k < c := by omega
    refine x_iload_2 cM_whereToCut_14 ?_
    refine x_aload_0 cM_whereToCut_15 ?_
    refine x_gR (b := 96) cM_whereToCut_16 fM_29 rfl rfl rfl ?_
    refine x_iconst 0 (by decide) cM_whereToCut_19 ?_
    refine x_al (0) cM_whereToCut_20 rfl rfl (by decide) (by decide) ?_
    refine x_icmp_ge cM_whereToCut_21 (fun q21 => absurd q21 (by rw [hc]; exact nI_ge hkc (by omega))) (fun q21 => ?_)
    refine x_aload_0 cM_whereToCut_24 ?_
    refine x_gI cM_whereToCut_25 fM_114 rfl rfl ?_
    refine x_iconst 1 (by decide) cM_whereToCut_28 ?_
    refine x_iload_2 cM_whereToCut_29 ?_
    refine x_ishl cM_whereToCut_30 ?_
    refine x_iconst 1 (by decide) cM_whereToCut_31 ?_
    refine x_isub cM_whereToCut_32 ?_
    refine x_iand cM_whereToCut_33 ?_
    refine x_if_ne cM_whereToCut_34 (fun q34 => ?_) (fun q34 => ?_)
    · refine x_iload_1 cM_whereToCut_41 ?_
      refine x_istore_1 cM_whereToCut_42 rfl (Nat.le_of_ble_eq_true rfl) ?_
      refine x_iinc_2 (nI (k + 1)) cM_whereToCut_43 rfl (nI_inc k) (Nat.le_of_ble_eq_true rfl) ?_
      refine x_goto cM_whereToCut_46 ?_
      exact ih (k + 1) (by omega) (by omega) _ (hv.imp (fun z => ⟨z.1, fun j h1 h2 => by
        by_cases e : j = k
        · subst e; exact q34
        · exact z.2 j h1 (by omega)⟩) (fun ⟨i, i1, i2, i3, i4, i5⟩ => ⟨i, i1, by omega, i3, fun j h1 h2 => by
        by_cases e : j = k
        · subst e; exact q34
        · exact i4 j h1 (by omega), i5⟩))
    · refine x_iload_2 cM_whereToCut_37 ?_
      refine x_goto cM_whereToCut_38 ?_
      refine x_istore_1 cM_whereToCut_42 rfl (Nat.le_of_ble_eq_true rfl) ?_
      refine x_iinc_2 (nI (k + 1)) cM_whereToCut_43 rfl (nI_inc k) (Nat.le_of_ble_eq_true rfl) ?_
      refine x_goto cM_whereToCut_46 ?_
      exact ih (k + 1) (by omega) (by omega) _ (Or.inr ⟨k, hk1, by omega, q34, fun i h1 h2 => absurd h2 (by omega), rfl⟩)
theorem m_whereToCut {Po : Option Value → HS → Prop} {I : IT} {J : JT} {P : PT} {c : Nat} (hc : I 96 0 = nI c) (hc5 : c ≤ 5) (hG : Rg (mdD I 96 92) c) (hq : ∀ (r : Int32) (I' : IT), (RWhere (fF (mdD I 96 92) c) c r ∧ SameM I I') → Po (some (.int r)) (hp I' J P)) : xj yM_whereToCut (mG yM_whereToCut Po) 0 [some (.ref 90), none, none] [] (hp I J P) 0 0 := by
  refine x_aload_0 cM_whereToCut_0 ?_
  refine x_iconst 0 (by decide) cM_whereToCut_1 ?_
  refine x_pI cM_whereToCut_2 fM_66 rfl rfl ?_
  refine x_aload_0 cM_whereToCut_5 ?_
  refine x_v0 (ls0 := [some _]) cM_whereToCut_6 kM_124 okM_layPage ⟨(Nat.le_of_ble_eq_true rfl), (Nat.le_of_ble_eq_true rfl)⟩ (Nat.le_of_ble_eq_true rfl) rfl (Nat.le_of_ble_eq_true rfl) rfl ⟨_, rfl, rfl⟩ rfl rfl (Nat.zero_le _) (Nat.zero_le _) ?_
  refine s_layPage hc5 (by rw [u2_n (by decide)]; exact hc) (by rw [mdD_th I 0 (Or.inl rfl) (Or.inl rfl)]; exact hG) (fun I1 hL => ?_)
  rw [mdD_th I 0 (Or.inl rfl) (Or.inl rfl)] at hL
  have hS : SameM I I1 := (SameM.th I).tr hL.same
  have c1 : I1 96 0 = nI c := by rw [hS.1 96 (by omega)]; exact hc
  dsimp only [pushR]
  refine x_bipush (-9) (by decide) cM_whereToCut_9 ?_
  refine x_istore_1 cM_whereToCut_11 rfl (Nat.le_of_ble_eq_true rfl) ?_
  refine x_iconst 1 (by decide) cM_whereToCut_12 ?_
  refine x_istore_2 cM_whereToCut_13 rfl (Nat.le_of_ble_eq_true rfl) ?_
  exact s_mwhere_loop (c := c) c1 hc5 (fun r hr => hq _ _ ⟨by rw [← hL.2.2.1]; exact hr, hS⟩) (c - 1) 1 (by omega) (by decide) _ (Or.inl ⟨rfl, fun j h1 h2 => absurd h2 (by omega)⟩)
