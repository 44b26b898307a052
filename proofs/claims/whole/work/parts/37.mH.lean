theorem w01 {w : Int32} : (0 ≤ w ∧ w ≤ 1) ↔ (w = 0 ∨ w = 1) := by
  constructor
  · intro ⟨h1, h2⟩
    obtain ⟨j, hj, e⟩ := nI_of2 (M := 1) (n := 1) (by decide) (Int32.not_lt.mpr h1) h2
    subst e
    rcases (show j = 0 ∨ j = 1 by omega) with rfl | rfl
    · exact Or.inl rfl
    · exact Or.inr rfl
  · intro h
    rcases h with rfl | rfl <;> decide
theorem s_noSpot {Po : Option Value → HS → Prop} {h : HS} {x w : Int32} (h1 : ¬ ((-100 ≤ x ∧ x ≤ 100) ∧ (w = 0 ∨ w = 1)) → Po (some (.int 1)) h) (h0 : ((-100 ≤ x ∧ x ≤ 100) ∧ (w = 0 ∨ w = 1)) → Po (some (.int 0)) h) : xj yM_noSpot (mG yM_noSpot Po) 0 [some (.int x), some (.int w)] [] h 0 0 := by
  refine x_iload_0 cM_noSpot_0 ?_
  refine x_i2l cM_noSpot_1 ?_
  refine x_ldc2 cM_noSpot_2 qM_151 ?_
  refine x_ldc2 cM_noSpot_5 qM_153 ?_
  refine x_s3 (ls0 := [some _, none, some _, none, some _, none]) cM_noSpot_8 kM_69 okM_in ⟨(Nat.le_of_ble_eq_true rfl), (Nat.le_of_ble_eq_true rfl)⟩ (Nat.le_of_ble_eq_true rfl) rfl (Nat.le_of_ble_eq_true rfl) rfl rfl (Nat.zero_le _) (Nat.zero_le _) ?_
  refine s_in (a := -100) (b := 100) (by decide) (by decide) (fun hw => ?_) (fun hw => ?_)
  · dsimp only [pushR]
    refine x_if_eq cM_noSpot_11 (fun q => absurd q (by decide)) (fun _ => ?_)
    refine x_iload_1 cM_noSpot_14 ?_
    refine x_i2l cM_noSpot_15 ?_
    refine x_lconst 0 (by decide) cM_noSpot_16 ?_
    refine x_lconst 1 (by decide) cM_noSpot_17 ?_
    refine x_s3 (ls0 := [some _, none, some _, none, some _, none]) cM_noSpot_18 kM_69 okM_in ⟨(Nat.le_of_ble_eq_true rfl), (Nat.le_of_ble_eq_true rfl)⟩ (Nat.le_of_ble_eq_true rfl) rfl (Nat.le_of_ble_eq_true rfl) rfl rfl (Nat.zero_le _) (Nat.zero_le _) ?_
    refine s_in (a := 0) (b := 1) (by decide) (by decide) (fun hz => ?_) (fun hz => ?_)
    · dsimp only [pushR]
      refine x_if_ne cM_noSpot_21 (fun _ => ?_) (fun q => absurd q (by decide))
      refine x_iconst 0 (by decide) cM_noSpot_28 ?_
      refine x_ireturn cM_noSpot_29 rfl rfl (Nat.zero_le _) (Nat.zero_le _) ?_
      exact h0 ⟨hw, w01.mp hz⟩
    · dsimp only [pushR]
      refine x_if_ne cM_noSpot_21 (fun q => absurd rfl q) (fun _ => ?_)
      refine x_iconst 1 (by decide) cM_noSpot_24 ?_
      refine x_goto cM_noSpot_25 ?_
      refine x_ireturn cM_noSpot_29 rfl rfl (Nat.zero_le _) (Nat.zero_le _) ?_
      exact h1 (fun z => hz (w01.mpr z.2))
  · dsimp only [pushR]
    refine x_if_eq cM_noSpot_11 (fun _ => ?_) (fun q => absurd rfl q)
    refine x_iconst 1 (by decide) cM_noSpot_24 ?_
    refine x_goto cM_noSpot_25 ?_
    refine x_ireturn cM_noSpot_29 rfl rfl (Nat.zero_le _) (Nat.zero_le _) ?_
    exact h1 (fun z => hw z.1)
theorem s_wayY {Po : Option Value → HS → Prop} {I : IT} {J : JT} {P : PT} {c : Nat} {x : Int32} (hc5 : c ≤ 5) (hc : I 96 0 = nI c) (h30 : ∀ k, k < c → I 96 (3 + k) ≤ 30) (hG : ∀ t, t < 4 ^ c → Rg (wyD (mdD I 96 92) (dig 4 c t)) c ∧ Rv (wyD (mdD I 96 92) (dig 4 c t)) c x) (hq : ∀ I2 p q, SameM I I2 → Sch (costY c) (numW 4 c) (okY (mdD I 96 92) c x) (4 ^ c) p q → MS (I2 90 31) (I2 90 30) p q → Po none (hp I2 J P)) : xj yM_findWay (mG yM_findWay Po) 0 [some (.ref 90), some (.int x), some (.int 1), none, none, none, none, none, none, none, none] [] (hp I J P) 0 0 := by
  refine x_aload_0 cM_findWay_0 ?_
  refine x_gR (b := 96) cM_findWay_1 fM_29 rfl rfl rfl ?_
  refine x_iconst 0 (by decide) cM_findWay_4 ?_
  refine x_al (0) cM_findWay_5 rfl rfl (by decide) (by decide) ?_
  refine x_top (nI c) hc ?_
  refine x_istore_3 cM_findWay_6 rfl (Nat.le_of_ble_eq_true rfl) ?_
  refine x_iload_2 cM_findWay_7 ?_
  refine x_if_eq cM_findWay_8 (fun q8 => absurd q8 (by decide)) (fun q8 => ?_)
  refine x_iconst 4 (by decide) cM_findWay_11 ?_
  refine x_goto cM_findWay_12 ?_
  refine x_istore_4 cM_findWay_16 rfl (Nat.le_of_ble_eq_true rfl) ?_
  refine x_aload_0 cM_findWay_18 ?_
  refine x_bipush (-9) (by decide) cM_findWay_19 ?_
  refine x_pI cM_findWay_21 fM_159 rfl rfl ?_
  refine x_aload_0 cM_findWay_24 ?_
  refine x_sipush 9999 (by decide) cM_findWay_25 ?_
  refine x_pI cM_findWay_28 fM_162 rfl rfl ?_
  refine x_iconst 0 (by decide) cM_findWay_31 ?_
  refine x_istore_5 cM_findWay_32 rfl (Nat.le_of_ble_eq_true rfl) ?_
  rcases Nat.eq_zero_or_pos c with e0 | hcp
  · subst e0
    refine x_iload_5 cM_findWay_34 ?_
    refine x_iload_4 cM_findWay_36 ?_
    refine x_iload_3 cM_findWay_38 ?_
    refine x_s2 (ls0 := [some _, some _, none, none]) cM_findWay_39 kM_165 okM_power ⟨(Nat.le_of_ble_eq_true rfl), (Nat.le_of_ble_eq_true rfl)⟩ (Nat.le_of_ble_eq_true rfl) rfl (Nat.le_of_ble_eq_true rfl) rfl rfl (Nat.zero_le _) (Nat.zero_le _) ?_
    refine s_power (m := 0) (by omega) ?_
    dsimp only [pushR]
    refine x_icmp_ge cM_findWay_42 (fun q42 => absurd q42 (by decide)) (fun q42 => ?_)
    refine x_iload_3 cM_findWay_45 ?_
    refine x_if_le cM_findWay_46 (fun q46 => ?_) (fun q46 => absurd q46 (fun z => z (by decide)))
    refine x_return cM_findWay_262 rfl (Nat.zero_le _) (Nat.zero_le _) ?_
    refine hq _ (-9) (-9) ⟨fun a ha => by rw [u2_n (by omega), u2_n (by omega)], fun j hj => by rw [u2_sn (by omega), u2_sn (by omega)]⟩ (sch_no ⟨rfl, rfl⟩ (fun z => ?_)) (Or.inl ⟨rfl, rfl, by rw [u2_sn (by decide), u2_ss], by rw [u2_ss]⟩)
    exact absurd z.2.2.1 (by decide)
  · exact s_wayY_loop hcp hc5 hc h30 hG hq (4 ^ c) 0 (by omega) _ ⟨fun a ha => by rw [u2_n (by omega), u2_n (by omega)], fun j hj => by rw [u2_sn (by omega), u2_sn (by omega)]⟩ ⟨-9, -9, ⟨rfl, rfl⟩, (Or.inl ⟨rfl, rfl, by rw [u2_sn (by decide), u2_ss], by rw [u2_ss]⟩)⟩
theorem m_cheapest {Po : Option Value → HS → Prop} {I : IT} {J : JT} {P : PT} {c : Nat} {x w : Int32} (hc5 : c ≤ 5) (hc : I 96 0 = nI c) (h30 : ∀ k, k < c → I 96 (3 + k) ≤ 30) (hG : (-100 ≤ x ∧ x ≤ 100) → ∀ t, t < 4 ^ c → Rg (wyD (mdD I 96 92) (dig 4 c t)) c ∧ Rv (wyD (mdD I 96 92) (dig 4 c t)) c x) (hq : ∀ (r : Int32) (I' : IT), (RSeek (costY c) (numW 4 c) (okY (mdD I 96 92) c x) (4 ^ c) x w r ∧ SameM I I') → Po (some (.int r)) (hp I' J P)) : xj yM_cheapest (mG yM_cheapest Po) 0 [some (.ref 90), some (.int x), some (.int w)] [] (hp I J P) 0 0 := by
  refine x_aload_0 cM_cheapest_0 ?_
  refine x_iconst 0 (by decide) cM_cheapest_1 ?_
  refine x_pI cM_cheapest_2 fM_66 rfl rfl ?_
  refine x_iload_1 cM_cheapest_5 ?_
  refine x_iload_2 cM_cheapest_6 ?_
  refine x_s2 (ls0 := [some _, some _]) cM_cheapest_7 kM_171 okM_noSpot ⟨(Nat.le_of_ble_eq_true rfl), (Nat.le_of_ble_eq_true rfl)⟩ (Nat.le_of_ble_eq_true rfl) rfl (Nat.le_of_ble_eq_true rfl) rfl rfl (Nat.zero_le _) (Nat.zero_le _) ?_
  refine s_noSpot (fun hw => ?_) (fun hw => ?_)
  · dsimp only [pushR]
    refine x_if_eq cM_cheapest_10 (fun q => absurd q (by decide)) (fun _ => ?_)
    refine x_bipush (-2) (by decide) cM_cheapest_13 ?_
    refine x_ireturn cM_cheapest_15 rfl rfl (Nat.zero_le _) (Nat.zero_le _) ?_
    exact hq _ _ ⟨⟨fun _ => rfl, fun z => absurd z hw⟩, SameM.th I⟩
  · dsimp only [pushR]
    refine x_if_eq cM_cheapest_10 (fun _ => ?_) (fun q => absurd rfl q)
    refine x_aload_0 cM_cheapest_16 ?_
    refine x_iload_1 cM_cheapest_17 ?_
    refine x_iconst 1 (by decide) cM_cheapest_18 ?_
    refine x_v2 (ls0 := [some _, some _, some _, none, none, none, none, none, none, none, none]) cM_cheapest_19 kM_175 okM_findWay ⟨(Nat.le_of_ble_eq_true rfl), (Nat.le_of_ble_eq_true rfl)⟩ (Nat.le_of_ble_eq_true rfl) rfl (Nat.le_of_ble_eq_true rfl) rfl ⟨_, rfl, rfl⟩ rfl rfl (Nat.zero_le _) (Nat.zero_le _) ?_
    refine s_wayY (c := c) (x := x) hc5 (by rw [u2_n (by decide)]; exact hc) (by rw [u2_n (show 96 ≠ 90 by decide)]; exact h30) (by rw [mdD_th I 0 (Or.inl rfl) (Or.inl rfl)]; exact hG hw.1) (fun I2 p q hS hs hm => ?_)
    rw [mdD_th I 0 (Or.inl rfl) (Or.inl rfl)] at hs
    have hS2 : SameM I I2 := (SameM.th I).tr hS
    dsimp only [pushR]
    refine x_aload_0 cM_cheapest_22 ?_
    refine x_gI cM_cheapest_23 fM_159 rfl rfl ?_
    refine x_bipush (-9) (by decide) cM_cheapest_26 ?_
    refine x_icmp_ne cM_cheapest_28 (fun q28 => ?_) (fun q28 => ?_)
    · refine x_iload_2 cM_cheapest_36 ?_
      refine x_if_ne cM_cheapest_37 (fun q37 => ?_) (fun q37 => ?_)
      · refine x_aload_0 cM_cheapest_47 ?_
        refine x_gI cM_cheapest_48 fM_159 rfl rfl ?_
        refine x_ireturn cM_cheapest_51 rfl rfl (Nat.zero_le _) (Nat.zero_le _) ?_
        refine hq _ _ ⟨⟨fun z => absurd hw z, fun _ => ⟨p, q, hs, ?_⟩⟩, hS2⟩
        rcases hm with ⟨m1, m2, m3, m4⟩ | ⟨m1, m2, m3, m4⟩
        · exact absurd m3 q28
        · exact ⟨fun z => absurd z q37, fun _ => m1⟩
      · refine x_aload_0 cM_cheapest_40 ?_
        refine x_gI cM_cheapest_41 fM_162 rfl rfl ?_
        refine x_goto cM_cheapest_44 ?_
        refine x_ireturn cM_cheapest_51 rfl rfl (Nat.zero_le _) (Nat.zero_le _) ?_
        refine hq _ _ ⟨⟨fun z => absurd hw z, fun _ => ⟨p, q, hs, ?_⟩⟩, hS2⟩
        rcases hm with ⟨m1, m2, m3, m4⟩ | ⟨m1, m2, m3, m4⟩
        · exact absurd m3 q28
        · exact ⟨fun _ => m2, fun z => absurd (by simpa using q37) z⟩
    · refine x_bipush (-9) (by decide) cM_cheapest_31 ?_
      refine x_goto cM_cheapest_33 ?_
      refine x_ireturn cM_cheapest_51 rfl rfl (Nat.zero_le _) (Nat.zero_le _) ?_
      refine hq _ _ ⟨⟨fun z => absurd hw z, fun _ => ⟨p, q, hs, ?_⟩⟩, hS2⟩
      rcases hm with ⟨m1, m2, m3, m4⟩ | ⟨m1, m2, m3, m4⟩
      · exact ⟨fun _ => m1.symm, fun _ => m2.symm⟩
      · exact absurd (m1.symm.trans (by simpa using q28)) m4
theorem s_wayB {Po : Option Value → HS → Prop} {I : IT} {J : JT} {P : PT} {c : Nat} {x : Int32} (hc5 : c ≤ 5) (hc : I 96 0 = nI c)  (hG : ∀ t, t < 5 ^ c → Rg (wbD (mdD I 96 92) (dig 5 c t)) c ∧ Rv (wbD (mdD I 96 92) (dig 5 c t)) c x) (hq : ∀ I2 p q, SameM I I2 → Sch (costB (mdD I 96 92) c) (numW 5 c) (okB (mdD I 96 92) c x) (5 ^ c) p q → MS (I2 90 31) (I2 90 30) p q → Po none (hp I2 J P)) : xj yM_findWay (mG yM_findWay Po) 0 [some (.ref 90), some (.int x), some (.int 0), none, none, none, none, none, none, none, none] [] (hp I J P) 0 0 := by
  refine x_aload_0 cM_findWay_0 ?_
  refine x_gR (b := 96) cM_findWay_1 fM_29 rfl rfl rfl ?_
  refine x_iconst 0 (by decide) cM_findWay_4 ?_
  refine x_al (0) cM_findWay_5 rfl rfl (by decide) (by decide) ?_
  refine x_top (nI c) hc ?_
  refine x_istore_3 cM_findWay_6 rfl (Nat.le_of_ble_eq_true rfl) ?_
  refine x_iload_2 cM_findWay_7 ?_
  refine x_if_eq cM_findWay_8 (fun q8 => ?_) (fun q8 => absurd q8 (fun z => z rfl))
  refine x_iconst 5 (by decide) cM_findWay_15 ?_
  refine x_istore_4 cM_findWay_16 rfl (Nat.le_of_ble_eq_true rfl) ?_
  refine x_aload_0 cM_findWay_18 ?_
  refine x_bipush (-9) (by decide) cM_findWay_19 ?_
  refine x_pI cM_findWay_21 fM_159 rfl rfl ?_
  refine x_aload_0 cM_findWay_24 ?_
  refine x_sipush 9999 (by decide) cM_findWay_25 ?_
  refine x_pI cM_findWay_28 fM_162 rfl rfl ?_
  refine x_iconst 0 (by decide) cM_findWay_31 ?_
  refine x_istore_5 cM_findWay_32 rfl (Nat.le_of_ble_eq_true rfl) ?_
  rcases Nat.eq_zero_or_pos c with e0 | hcp
  · subst e0
    refine x_iload_5 cM_findWay_34 ?_
    refine x_iload_4 cM_findWay_36 ?_
    refine x_iload_3 cM_findWay_38 ?_
    refine x_s2 (ls0 := [some _, some _, none, none]) cM_findWay_39 kM_165 okM_power ⟨(Nat.le_of_ble_eq_true rfl), (Nat.le_of_ble_eq_true rfl)⟩ (Nat.le_of_ble_eq_true rfl) rfl (Nat.le_of_ble_eq_true rfl) rfl rfl (Nat.zero_le _) (Nat.zero_le _) ?_
    refine s_power (m := 0) (by omega) ?_
    dsimp only [pushR]
    refine x_icmp_ge cM_findWay_42 (fun q42 => absurd q42 (by decide)) (fun q42 => ?_)
    refine x_iload_3 cM_findWay_45 ?_
    refine x_if_le cM_findWay_46 (fun q46 => ?_) (fun q46 => absurd q46 (fun z => z (by decide)))
    refine x_return cM_findWay_262 rfl (Nat.zero_le _) (Nat.zero_le _) ?_
    refine hq _ (-9) (-9) ⟨fun a ha => by rw [u2_n (by omega), u2_n (by omega)], fun j hj => by rw [u2_sn (by omega), u2_sn (by omega)]⟩ (sch_no ⟨rfl, rfl⟩ (fun z => ?_)) (Or.inl ⟨rfl, rfl, by rw [u2_sn (by decide), u2_ss], by rw [u2_ss]⟩)
    exact absurd z.2.1 (by decide)
  · exact s_wayB_loop hcp hc5 hc  hG hq (5 ^ c) 0 (by omega) _ ⟨fun a ha => by rw [u2_n (by omega), u2_n (by omega)], fun j hj => by rw [u2_sn (by omega), u2_sn (by omega)]⟩ ⟨-9, -9, ⟨rfl, rfl⟩, (Or.inl ⟨rfl, rfl, by rw [u2_sn (by decide), u2_ss], by rw [u2_ss]⟩)⟩
theorem m_fewest {Po : Option Value → HS → Prop} {I : IT} {J : JT} {P : PT} {c : Nat} {x w : Int32} (hc5 : c ≤ 5) (hc : I 96 0 = nI c)  (hG : (-100 ≤ x ∧ x ≤ 100) → ∀ t, t < 5 ^ c → Rg (wbD (mdD I 96 92) (dig 5 c t)) c ∧ Rv (wbD (mdD I 96 92) (dig 5 c t)) c x) (hq : ∀ (r : Int32) (I' : IT), (RSeek (costB (mdD I 96 92) c) (numW 5 c) (okB (mdD I 96 92) c x) (5 ^ c) x w r ∧ SameM I I') → Po (some (.int r)) (hp I' J P)) : xj yM_fewest (mG yM_fewest Po) 0 [some (.ref 90), some (.int x), some (.int w)] [] (hp I J P) 0 0 := by
  refine x_aload_0 cM_fewest_0 ?_
  refine x_iconst 0 (by decide) cM_fewest_1 ?_
  refine x_pI cM_fewest_2 fM_66 rfl rfl ?_
  refine x_iload_1 cM_fewest_5 ?_
  refine x_iload_2 cM_fewest_6 ?_
  refine x_s2 (ls0 := [some _, some _]) cM_fewest_7 kM_171 okM_noSpot ⟨(Nat.le_of_ble_eq_true rfl), (Nat.le_of_ble_eq_true rfl)⟩ (Nat.le_of_ble_eq_true rfl) rfl (Nat.le_of_ble_eq_true rfl) rfl rfl (Nat.zero_le _) (Nat.zero_le _) ?_
  refine s_noSpot (fun hw => ?_) (fun hw => ?_)
  · dsimp only [pushR]
    refine x_if_eq cM_fewest_10 (fun q => absurd q (by decide)) (fun _ => ?_)
    refine x_bipush (-2) (by decide) cM_fewest_13 ?_
    refine x_ireturn cM_fewest_15 rfl rfl (Nat.zero_le _) (Nat.zero_le _) ?_
    exact hq _ _ ⟨⟨fun _ => rfl, fun z => absurd z hw⟩, SameM.th I⟩
  · dsimp only [pushR]
    refine x_if_eq cM_fewest_10 (fun _ => ?_) (fun q => absurd rfl q)
    refine x_aload_0 cM_fewest_16 ?_
    refine x_iload_1 cM_fewest_17 ?_
    refine x_iconst 0 (by decide) cM_fewest_18 ?_
    refine x_v2 (ls0 := [some _, some _, some _, none, none, none, none, none, none, none, none]) cM_fewest_19 kM_175 okM_findWay ⟨(Nat.le_of_ble_eq_true rfl), (Nat.le_of_ble_eq_true rfl)⟩ (Nat.le_of_ble_eq_true rfl) rfl (Nat.le_of_ble_eq_true rfl) rfl ⟨_, rfl, rfl⟩ rfl rfl (Nat.zero_le _) (Nat.zero_le _) ?_
    refine s_wayB (c := c) (x := x) hc5 (by rw [u2_n (by decide)]; exact hc)  (by rw [mdD_th I 0 (Or.inl rfl) (Or.inl rfl)]; exact hG hw.1) (fun I2 p q hS hs hm => ?_)
    rw [mdD_th I 0 (Or.inl rfl) (Or.inl rfl)] at hs
    have hS2 : SameM I I2 := (SameM.th I).tr hS
    dsimp only [pushR]
    refine x_aload_0 cM_fewest_22 ?_
    refine x_gI cM_fewest_23 fM_159 rfl rfl ?_
    refine x_bipush (-9) (by decide) cM_fewest_26 ?_
    refine x_icmp_ne cM_fewest_28 (fun q28 => ?_) (fun q28 => ?_)
    · refine x_iload_2 cM_fewest_36 ?_
      refine x_if_ne cM_fewest_37 (fun q37 => ?_) (fun q37 => ?_)
      · refine x_aload_0 cM_fewest_47 ?_
        refine x_gI cM_fewest_48 fM_159 rfl rfl ?_
        refine x_ireturn cM_fewest_51 rfl rfl (Nat.zero_le _) (Nat.zero_le _) ?_
        refine hq _ _ ⟨⟨fun z => absurd hw z, fun _ => ⟨p, q, hs, ?_⟩⟩, hS2⟩
        rcases hm with ⟨m1, m2, m3, m4⟩ | ⟨m1, m2, m3, m4⟩
        · exact absurd m3 q28
        · exact ⟨fun z => absurd z q37, fun _ => m1⟩
      · refine x_aload_0 cM_fewest_40 ?_
        refine x_gI cM_fewest_41 fM_162 rfl rfl ?_
        refine x_goto cM_fewest_44 ?_
        refine x_ireturn cM_fewest_51 rfl rfl (Nat.zero_le _) (Nat.zero_le _) ?_
        refine hq _ _ ⟨⟨fun z => absurd hw z, fun _ => ⟨p, q, hs, ?_⟩⟩, hS2⟩
        rcases hm with ⟨m1, m2, m3, m4⟩ | ⟨m1, m2, m3, m4⟩
        · exact absurd m3 q28
        · exact ⟨fun _ => m2, fun z => absurd (by simpa using q37) z⟩
    · refine x_bipush (-9) (by decide) cM_fewest_31 ?_
      refine x_goto cM_fewest_33 ?_
      refine x_ireturn cM_fewest_51 rfl rfl (Nat.zero_le _) (Nat.zero_le _) ?_
      refine hq _ _ ⟨⟨fun z => absurd hw z, fun _ => ⟨p, q, hs, ?_⟩⟩, hS2⟩
      rcases hm with ⟨m1, m2, m3, m4⟩ | ⟨m1, m2, m3, m4⟩
      · exact ⟨fun _ => m1.symm, fun _ => m2.symm⟩
      · exact absurd (m1.symm.trans (by simpa using q28)) m4
