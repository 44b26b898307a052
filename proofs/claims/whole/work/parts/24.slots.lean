theorem x_aloadN_2 {y : YI} {G : GT} {pc nx : Nat} {st : List Value} {h : HS} {k n : Nat} {a0 a1 : Option Value} {r : List (Option Value)} (d : Dc y pc (.aload_n 2) 1 nx) (K : xj y G nx (a0 :: a1 :: some .null :: r) (.null :: st) h k n) : xj y G pc (a0 :: a1 :: some .null :: r) st h k n := by
  intro E p l e s m args below meth c H locs la C hH hS hl
  obtain ⟨hx, hb, -⟩ := id C
  obtain ⟨d, rfl⟩ := d
  exact lv_aload_nN hx hb d rfl (la_get hl (i := 2) (v := .null) rfl) (K E p l e s m args below meth c H locs la C hH hS hl)
theorem x_astoreN_2 {y : YI} {G : GT} {pc nx : Nat} {st : List Value} {h : HS} {k n : Nat} {a0 a1 b : Option Value} {r : List (Option Value)} (d : Dc y pc (.astore_n 2) 1 nx) (hp : isC2 a1 = false) (hi : 2 < yL y) (K : xj y G nx (a0 :: a1 :: some .null :: r) st h k n) : xj y G pc (a0 :: a1 :: b :: r) (.null :: st) h k n := by
  intro E p l e s m args below meth c H locs la C hH hS hl
  obtain ⟨hx, hb, -⟩ := id C
  obtain ⟨d, rfl⟩ := d
  exact lv_astore_nN hx hb d rfl hl hi rfl (fun la2 hl2 => K E p l e s m args below meth c H locs la2 C hH hS (la_set1 (E := E) (i := 2) (ls := a0 :: a1 :: b :: r) (w := .null) (fun j q => by (obtain rfl : j = 1 := by omega); exact hp) (by simp) hl2))
theorem ln_kept : ∀ s, s < 2 → isLn (67 + 4 * s) := by unfold isLn; decide +kernel
theorem s_slot_in {Po : Option Value → HS → Prop} {I : IT} {J : JT} {P : PT} {s : Nat} (hk : ∀ s, s < 2 → P 66 s = 67 + 4 * s) (hs : s < 2) (hq : Po (some (.ref (67 + 4 * s))) (hp I J P)) : xj yK_slotLine (mG yK_slotLine Po) 0 [some (.ref 1), some (.int (nI s))] [] (hp I J P) 0 0 := by
  refine x_iload_1 cK_slotLine_0 ?_
  refine x_if_lt cK_slotLine_1 (fun q1 => absurd q1 (nI_pos (by omega))) (fun q1 => ?_)
  refine x_iload_1 cK_slotLine_4 ?_
  refine x_aload_0 cK_slotLine_5 ?_
  refine x_gR (b := 66) cK_slotLine_6 fK_34 rfl rfl rfl ?_
  refine x_l3 (2) cK_slotLine_9 rfl rfl ?_
  refine x_icmp_ge cK_slotLine_10 (fun q10 => absurd q10 (nI_ge hs (by decide))) (fun q10 => ?_)
  refine x_aload_0 cK_slotLine_13 ?_
  refine x_gR (b := 66) cK_slotLine_14 fK_34 rfl rfl rfl ?_
  refine x_iload_1 cK_slotLine_17 ?_
  refine x_rl (s) cK_slotLine_18 rfl rfl hs (by decide) (hk s hs) (by omega) ?_
  refine x_goto cK_slotLine_19 ?_
  refine x_areturn cK_slotLine_23 rfl (Or.inl ⟨_, rfl⟩) (Or.inr ⟨_, rfl⟩) (Nat.zero_le _) (Nat.zero_le _) ?_
  exact hq
theorem s_slot_out {Po : Option Value → HS → Prop} {I : IT} {J : JT} {P : PT} {i : Int32} (hi : i < 0 ∨ nI 2 ≤ i) (hq : Po (some .null) (hp I J P)) : xj yK_slotLine (mG yK_slotLine Po) 0 [some (.ref 1), some (.int i)] [] (hp I J P) 0 0 := by
  refine x_iload_1 cK_slotLine_0 ?_
  refine x_if_lt cK_slotLine_1 (fun q1 => ?_) (fun q1 => ?_)
  · refine x_null cK_slotLine_22 ?_
    refine x_areturn cK_slotLine_23 rfl (Or.inl ⟨_, rfl⟩) (Or.inl rfl) (Nat.zero_le _) (Nat.zero_le _) ?_
    exact hq
  · refine x_iload_1 cK_slotLine_4 ?_
    refine x_aload_0 cK_slotLine_5 ?_
    refine x_gR (b := 66) cK_slotLine_6 fK_34 rfl rfl rfl ?_
    refine x_l3 (2) cK_slotLine_9 rfl rfl ?_
    refine x_icmp_ge cK_slotLine_10 (fun q10 => ?_) (fun q10 => absurd q10 (fun z => z (hi.resolve_left q1)))
    refine x_null cK_slotLine_22 ?_
    refine x_areturn cK_slotLine_23 rfl (Or.inl ⟨_, rfl⟩) (Or.inl rfl) (Nat.zero_le _) (Nat.zero_le _) ?_
    exact hq
def RKeep (I I' : IT) (c : Nat) (i r : Int32) : Prop := ((i < 0 ∨ nI 2 ≤ i) → r = -1 ∧ I' = I) ∧ ∀ s, s < 2 → i = nI s → r = nI c ∧ ∃ I1, CpOut I I1 (67 + 4 * s) 4 c ∧ I' = u2 I1 75 s 1
def RAgain (I I' : IT) (i r : Int32) : Prop := ((i < 0 ∨ nI 2 ≤ i) → r = -1 ∧ I' = I) ∧ ∀ s, s < 2 → i = nI s → (I 75 s = 0 → r = -3 ∧ I' = I) ∧ (¬ I 75 s = 0 → ∃ c, c ≤ 5 ∧ I (67 + 4 * s) 0 = nI c ∧ r = nI c ∧ ∃ I1, CpOut I I1 4 (67 + 4 * s) c ∧ I' = u2 I1 8 1 0)
theorem k_keep {Po : Option Value → HS → Prop} {I : IT} {J : JT} {P : PT} {c : Nat} {i : Int32} (hc : I 4 0 = nI c) (hc5 : c ≤ 5) (hk : ∀ s, s < 2 → P 66 s = 67 + 4 * s) (hq : ∀ (r : Int32) (I' : IT), RKeep I I' c i r → Po (some (.int r)) (hp I' J P)) : xj yK_keep (mG yK_keep Po) 0 [some (.ref 1), some (.int i), none] [] (hp I J P) 0 0 := by
  rcases pk_ix i (n := 2) (by decide) with hi | hi | ⟨s, hs, rfl⟩
  · refine x_aload_0 cK_keep_0 ?_
    refine x_iload_1 cK_keep_1 ?_
    refine x_v1 (ls0 := [some _, some _]) cK_keep_2 kK_248 okK_slotLine ⟨(Nat.le_of_ble_eq_true rfl), (Nat.le_of_ble_eq_true rfl)⟩ (Nat.le_of_ble_eq_true rfl) rfl (Nat.le_of_ble_eq_true rfl) rfl ⟨_, rfl, rfl⟩ rfl rfl (Nat.zero_le _) (Nat.zero_le _) ?_
    refine s_slot_out (Or.inl hi) ?_
    dsimp only [pushR]
    refine x_astoreN_2 cK_keep_5 rfl (Nat.le_of_ble_eq_true rfl) ?_
    refine x_aloadN_2 cK_keep_6 ?_
    refine x_ifnullN cK_keep_7 ?_
    refine x_iconst (-1) (by decide) cK_keep_23 ?_
    refine x_ireturn cK_keep_24 rfl rfl (Nat.zero_le _) (Nat.zero_le _) ?_
    exact hq _ _ ⟨fun _ => ⟨rfl, rfl⟩, fun s hs e => (tbl_ne (n := 2) e ((Or.inl hi)) ⟨hs, by decide⟩).elim⟩
  · refine x_aload_0 cK_keep_0 ?_
    refine x_iload_1 cK_keep_1 ?_
    refine x_v1 (ls0 := [some _, some _]) cK_keep_2 kK_248 okK_slotLine ⟨(Nat.le_of_ble_eq_true rfl), (Nat.le_of_ble_eq_true rfl)⟩ (Nat.le_of_ble_eq_true rfl) rfl (Nat.le_of_ble_eq_true rfl) rfl ⟨_, rfl, rfl⟩ rfl rfl (Nat.zero_le _) (Nat.zero_le _) ?_
    refine s_slot_out (Or.inr hi) ?_
    dsimp only [pushR]
    refine x_astoreN_2 cK_keep_5 rfl (Nat.le_of_ble_eq_true rfl) ?_
    refine x_aloadN_2 cK_keep_6 ?_
    refine x_ifnullN cK_keep_7 ?_
    refine x_iconst (-1) (by decide) cK_keep_23 ?_
    refine x_ireturn cK_keep_24 rfl rfl (Nat.zero_le _) (Nat.zero_le _) ?_
    exact hq _ _ ⟨fun _ => ⟨rfl, rfl⟩, fun s hs e => (tbl_ne (n := 2) e ((Or.inr hi)) ⟨hs, by decide⟩).elim⟩
  · have hL := ln_kept s hs
    refine x_aload_0 cK_keep_0 ?_
    refine x_iload_1 cK_keep_1 ?_
    refine x_v1 (ls0 := [some _, some _]) cK_keep_2 kK_248 okK_slotLine ⟨(Nat.le_of_ble_eq_true rfl), (Nat.le_of_ble_eq_true rfl)⟩ (Nat.le_of_ble_eq_true rfl) rfl (Nat.le_of_ble_eq_true rfl) rfl ⟨_, rfl, rfl⟩ rfl rfl (Nat.zero_le _) (Nat.zero_le _) ?_
    refine s_slot_in hk hs ?_
    dsimp only [pushR]
    refine x_astore_2 cK_keep_5 rfl (Nat.le_of_ble_eq_true rfl) ?_
    refine x_aload_2 cK_keep_6 ?_
    refine x_ifnull cK_keep_7 ?_
    refine x_iload_1 cK_keep_10 ?_
    refine x_if_lt cK_keep_11 (fun q11 => absurd q11 (nI_pos (by omega))) (fun q11 => ?_)
    refine x_iload_1 cK_keep_14 ?_
    refine x_aload_0 cK_keep_15 ?_
    refine x_gR (b := 75) cK_keep_16 fK_38 rfl rfl rfl ?_
    refine x_l2 (2) cK_keep_19 rfl rfl ?_
    refine x_icmp_lt cK_keep_20 (fun q20 => ?_) (fun q20 => absurd q20 (fun z => z (nI_lt hs (by decide))))
    refine x_aload_2 cK_keep_25 ?_
    refine x_aload_0 cK_keep_26 ?_
    refine x_gR (b := 4) cK_keep_27 fK_19 rfl rfl rfl ?_
    refine x_v1 (ls0 := [some _, some _]) cK_keep_30 kK_239 okLine_take ⟨(Nat.le_of_ble_eq_true rfl), (Nat.le_of_ble_eq_true rfl)⟩ (Nat.le_of_ble_eq_true rfl) rfl (Nat.le_of_ble_eq_true rfl) hL.1 ⟨_, rfl, rfl⟩ rfl rfl (Nat.zero_le _) (Nat.zero_le _) ?_
    refine s_take (A := 67 + 4 * s) (B := 4) hL ln_4 (by omega) hc hc5 (fun I1 hC => ?_)
    dsimp only [pushR]
    refine x_aload_0 cK_keep_33 ?_
    refine x_gR (b := 75) cK_keep_34 fK_38 rfl rfl rfl ?_
    refine x_iload_1 cK_keep_37 ?_
    refine x_iconst 1 (by decide) cK_keep_38 ?_
    refine x_zs (s) cK_keep_39 rfl rfl hs (by decide) rfl ?_
    refine x_aload_0 cK_keep_40 ?_
    refine x_gR (b := 4) cK_keep_41 fK_19 rfl rfl rfl ?_
    refine x_gI cK_keep_44 fK_106 rfl rfl ?_
    refine x_top (nI c) (by rw [u2_n (by decide), hC.1 4 (by omega) (by omega) (by omega) (by omega)]; exact hc) ?_
    refine x_ireturn cK_keep_47 rfl rfl (Nat.zero_le _) (Nat.zero_le _) ?_
    refine hq _ _ ⟨fun z => absurd z (fun z => by rcases z with z | z; exact nI_pos (by omega) z; exact nI_ge hs (by decide) z), fun s2 h2 e => ?_⟩
    obtain rfl : s = s2 := (nI_eq (by omega) (by omega)).mp e
    exact ⟨rfl, I1, hC, rfl⟩
theorem k_again {Po : Option Value → HS → Prop} {I : IT} {J : JT} {P : PT} {i : Int32} (hk : ∀ s, s < 2 → P 66 s = 67 + 4 * s) (hcs : ∀ s, s < 2 → ¬ I 75 s = 0 → ∃ c, c ≤ 5 ∧ I (67 + 4 * s) 0 = nI c) (hq : ∀ (r : Int32) (I' : IT), RAgain I I' i r → Po (some (.int r)) (hp I' J P)) : xj yK_again (mG yK_again Po) 0 [some (.ref 1), some (.int i), none] [] (hp I J P) 0 0 := by
  rcases pk_ix i (n := 2) (by decide) with hi | hi | ⟨s, hs, rfl⟩
  · refine x_aload_0 cK_again_0 ?_
    refine x_iload_1 cK_again_1 ?_
    refine x_v1 (ls0 := [some _, some _]) cK_again_2 kK_248 okK_slotLine ⟨(Nat.le_of_ble_eq_true rfl), (Nat.le_of_ble_eq_true rfl)⟩ (Nat.le_of_ble_eq_true rfl) rfl (Nat.le_of_ble_eq_true rfl) rfl ⟨_, rfl, rfl⟩ rfl rfl (Nat.zero_le _) (Nat.zero_le _) ?_
    refine s_slot_out (Or.inl hi) ?_
    dsimp only [pushR]
    refine x_astoreN_2 cK_again_5 rfl (Nat.le_of_ble_eq_true rfl) ?_
    refine x_aloadN_2 cK_again_6 ?_
    refine x_ifnullN cK_again_7 ?_
    refine x_iconst (-1) (by decide) cK_again_23 ?_
    refine x_ireturn cK_again_24 rfl rfl (Nat.zero_le _) (Nat.zero_le _) ?_
    exact hq _ _ ⟨fun _ => ⟨rfl, rfl⟩, fun s hs e => (tbl_ne (n := 2) e ((Or.inl hi)) ⟨hs, by decide⟩).elim⟩
  · refine x_aload_0 cK_again_0 ?_
    refine x_iload_1 cK_again_1 ?_
    refine x_v1 (ls0 := [some _, some _]) cK_again_2 kK_248 okK_slotLine ⟨(Nat.le_of_ble_eq_true rfl), (Nat.le_of_ble_eq_true rfl)⟩ (Nat.le_of_ble_eq_true rfl) rfl (Nat.le_of_ble_eq_true rfl) rfl ⟨_, rfl, rfl⟩ rfl rfl (Nat.zero_le _) (Nat.zero_le _) ?_
    refine s_slot_out (Or.inr hi) ?_
    dsimp only [pushR]
    refine x_astoreN_2 cK_again_5 rfl (Nat.le_of_ble_eq_true rfl) ?_
    refine x_aloadN_2 cK_again_6 ?_
    refine x_ifnullN cK_again_7 ?_
    refine x_iconst (-1) (by decide) cK_again_23 ?_
    refine x_ireturn cK_again_24 rfl rfl (Nat.zero_le _) (Nat.zero_le _) ?_
    exact hq _ _ ⟨fun _ => ⟨rfl, rfl⟩, fun s hs e => (tbl_ne (n := 2) e ((Or.inr hi)) ⟨hs, by decide⟩).elim⟩
  · have hL := ln_kept s hs
    refine x_aload_0 cK_again_0 ?_
    refine x_iload_1 cK_again_1 ?_
    refine x_v1 (ls0 := [some _, some _]) cK_again_2 kK_248 okK_slotLine ⟨(Nat.le_of_ble_eq_true rfl), (Nat.le_of_ble_eq_true rfl)⟩ (Nat.le_of_ble_eq_true rfl) rfl (Nat.le_of_ble_eq_true rfl) rfl ⟨_, rfl, rfl⟩ rfl rfl (Nat.zero_le _) (Nat.zero_le _) ?_
    refine s_slot_in hk hs ?_
    dsimp only [pushR]
    refine x_astore_2 cK_again_5 rfl (Nat.le_of_ble_eq_true rfl) ?_
    refine x_aload_2 cK_again_6 ?_
    refine x_ifnull cK_again_7 ?_
    refine x_iload_1 cK_again_10 ?_
    refine x_if_lt cK_again_11 (fun q11 => absurd q11 (nI_pos (by omega))) (fun q11 => ?_)
    refine x_iload_1 cK_again_14 ?_
    refine x_aload_0 cK_again_15 ?_
    refine x_gR (b := 75) cK_again_16 fK_38 rfl rfl rfl ?_
    refine x_l2 (2) cK_again_19 rfl rfl ?_
    refine x_icmp_lt cK_again_20 (fun q20 => ?_) (fun q20 => absurd q20 (fun z => z (nI_lt hs (by decide))))
    refine x_aload_0 cK_again_25 ?_
    refine x_gR (b := 75) cK_again_26 fK_38 rfl rfl rfl ?_
    refine x_iload_1 cK_again_29 ?_
    refine x_zl (s) cK_again_30 rfl rfl hs (by decide) ?_
    refine x_if_ne cK_again_31 (fun q31 => ?_) (fun q31 => ?_)
    · obtain ⟨c, hc5, hcc⟩ := hcs s hs q31
      refine x_aload_0 cK_again_37 ?_
      refine x_gR (b := 4) cK_again_38 fK_19 rfl rfl rfl ?_
      refine x_aload_2 cK_again_41 ?_
      refine x_v1 (ls0 := [some _, some _]) cK_again_42 kK_239 okLine_take ⟨(Nat.le_of_ble_eq_true rfl), (Nat.le_of_ble_eq_true rfl)⟩ (Nat.le_of_ble_eq_true rfl) rfl (Nat.le_of_ble_eq_true rfl) rfl ⟨_, rfl, rfl⟩ rfl rfl (Nat.zero_le _) (Nat.zero_le _) ?_
      refine s_take (A := 4) (B := 67 + 4 * s) ln_4 hL (by omega) hcc hc5 (fun I1 hC => ?_)
      dsimp only [pushR]
      refine x_aload_0 cK_again_45 ?_
      refine x_gR (b := 8) cK_again_46 fK_26 rfl rfl rfl ?_
      refine x_v0 (ls0 := [some _]) cK_again_49 kK_100 okPast_forget ⟨(Nat.le_of_ble_eq_true rfl), (Nat.le_of_ble_eq_true rfl)⟩ (Nat.le_of_ble_eq_true rfl) rfl (Nat.le_of_ble_eq_true rfl) rfl ⟨_, rfl, rfl⟩ rfl rfl (Nat.zero_le _) (Nat.zero_le _) ?_
      refine s_forget ?_
      dsimp only [pushR]
      refine x_aload_0 cK_again_52 ?_
      refine x_gR (b := 4) cK_again_53 fK_19 rfl rfl rfl ?_
      refine x_gI cK_again_56 fK_106 rfl rfl ?_
      refine x_top (nI c) (by rw [u2_n (by decide)]; exact hC.2.1) ?_
      refine x_ireturn cK_again_59 rfl rfl (Nat.zero_le _) (Nat.zero_le _) ?_
      refine hq _ _ ⟨fun z => absurd z (fun z => by rcases z with z | z; exact nI_pos (by omega) z; exact nI_ge hs (by decide) z), fun s2 h2 e => ?_⟩
      obtain rfl : s = s2 := (nI_eq (by omega) (by omega)).mp e
      exact ⟨fun z => absurd z q31, fun _ => ⟨c, hc5, hcc, rfl, I1, hC, rfl⟩⟩
    · refine x_bipush (-3) (by decide) cK_again_34 ?_
      refine x_ireturn cK_again_36 rfl rfl (Nat.zero_le _) (Nat.zero_le _) ?_
      refine hq _ _ ⟨fun z => absurd z (fun z => by rcases z with z | z; exact nI_pos (by omega) z; exact nI_ge hs (by decide) z), fun s2 h2 e => ?_⟩
      obtain rfl : s = s2 := (nI_eq (by omega) (by omega)).mp e
      exact ⟨fun _ => ⟨rfl, rfl⟩, fun z => absurd q31 z⟩
theorem s_Sight_add {Po : Option Value → HS → Prop} {I : IT} {J : JT} {P : PT} {c : Nat} {a1 a2 : Int32} (hc : I 76 2 = nI c) (hc6 : c < 6) (hq : Po (some (.int (nI (c + 1)))) (hp (u2 (u2 (u2 I 77 c a1) 78 c a2) 76 2 (nI (c + 1))) J P)) : xj ySightings_add (mG ySightings_add Po) 0 [some (.ref 76), some (.int a1), some (.int a2)] [] (hp I J P) 0 0 := by
  refine x_aload_0 cSightings_add_0 ?_
  refine x_gR (b := 77) cSightings_add_1 fSightings_9 rfl rfl rfl ?_
  refine x_aload_0 cSightings_add_4 ?_
  refine x_gI cSightings_add_5 fSightings_18 rfl rfl ?_
  refine x_iload_1 cSightings_add_8 ?_
  refine x_t3 (ls0 := [some _, some _, some _]) cSightings_add_9 kSightings_22 okK_put ⟨(Nat.le_of_ble_eq_true rfl), (Nat.le_of_ble_eq_true rfl)⟩ (Nat.le_of_ble_eq_true rfl) rfl (Nat.le_of_ble_eq_true rfl) rfl rfl (Nat.zero_le _) (Nat.zero_le _) ?_
  refine s_put c rfl hc hc6 (by decide) ?_
  dsimp only [pushR]
  refine x_aload_0 cSightings_add_12 ?_
  refine x_gR (b := 78) cSightings_add_13 fSightings_15 rfl rfl rfl ?_
  refine x_aload_0 cSightings_add_16 ?_
  refine x_gI cSightings_add_17 fSightings_18 rfl rfl ?_
  refine x_iload_2 cSightings_add_20 ?_
  refine x_t3 (ls0 := [some _, some _, some _]) cSightings_add_21 kSightings_22 okK_put ⟨(Nat.le_of_ble_eq_true rfl), (Nat.le_of_ble_eq_true rfl)⟩ (Nat.le_of_ble_eq_true rfl) rfl (Nat.le_of_ble_eq_true rfl) rfl rfl (Nat.zero_le _) (Nat.zero_le _) ?_
  refine s_put c rfl hc hc6 (by decide) ?_
  dsimp only [pushR]
  refine x_aload_0 cSightings_add_24 ?_
  refine x_dup rfl cSightings_add_25 ?_
  refine x_gI cSightings_add_26 fSightings_18 rfl rfl ?_
  refine x_iconst 1 (by decide) cSightings_add_29 ?_
  refine x_iadd cSightings_add_30 ?_
  refine x_top (nI (c + 1)) (by rw [u2_n (by decide), u2_n (by decide), hc, nI_1]) ?_
  refine x_pI cSightings_add_31 fSightings_18 rfl rfl ?_
  refine x_aload_0 cSightings_add_34 ?_
  refine x_gI cSightings_add_35 fSightings_18 rfl rfl ?_
  refine x_top (nI (c + 1)) (by rw [u2_ss]) ?_
  refine x_ireturn cSightings_add_38 rfl rfl (Nat.zero_le _) (Nat.zero_le _) ?_
  exact hq
def RSeeAt (I I' : IT) (c n : Nat) (i x r : Int32) : Prop :=
  ((¬ ∃ j, j < c ∧ i = nI j) → r = -1 ∧ I' = I) ∧ ((∃ j, j < c ∧ i = nI j) → (¬ (-30 ≤ x ∧ x ≤ 30) → r = -2 ∧ I' = I) ∧ ((-30 ≤ x ∧ x ≤ 30) → (n = 6 → r = -4 ∧ I' = I) ∧ (n < 6 → r = nI (n + 1) ∧ I' = u2 (u2 (u2 I 77 n i) 78 n x) 76 2 (nI (n + 1)))))
theorem k_seeAt {Po : Option Value → HS → Prop} {I : IT} {J : JT} {P : PT} {c n : Nat} {i x : Int32} (hc : I 4 0 = nI c) (hc5 : c ≤ 5) (hn : I 76 2 = nI n) (hn6 : n ≤ 6) (hq : ∀ (r : Int32) (I' : IT), RSeeAt I I' c n i x r → Po (some (.int r)) (hp I' J P)) : xj yK_seeAt (mG yK_seeAt Po) 0 [some (.ref 1), some (.int i), some (.int x)] [] (hp I J P) 0 0 := by
  refine x_aload_0 cK_seeAt_0 ?_
  refine x_gR (b := 4) cK_seeAt_1 fK_19 rfl rfl rfl ?_
  refine x_iload_1 cK_seeAt_4 ?_
  refine x_v1 (ls0 := [some _, some _]) cK_seeAt_5 kK_132 okLine_has ⟨(Nat.le_of_ble_eq_true rfl), (Nat.le_of_ble_eq_true rfl)⟩ (Nat.le_of_ble_eq_true rfl) rfl (Nat.le_of_ble_eq_true rfl) rfl ⟨_, rfl, rfl⟩ rfl rfl (Nat.zero_le _) (Nat.zero_le _) ?_
  refine s_has ln_4 hc hc5 (fun j hj ej => ?_) (fun hno => ?_)
  · dsimp only [pushR]
    refine x_if_ne cK_seeAt_8 (fun _ => ?_) (fun q => absurd q (by decide))
    refine x_iload_2 cK_seeAt_13 ?_
    refine x_bipush 30 (by decide) cK_seeAt_14 ?_
    refine x_s2 (ls0 := [some _, some _]) cK_seeAt_16 kK_156 okK_within ⟨(Nat.le_of_ble_eq_true rfl), (Nat.le_of_ble_eq_true rfl)⟩ (Nat.le_of_ble_eq_true rfl) rfl (Nat.le_of_ble_eq_true rfl) rfl rfl (Nat.zero_le _) (Nat.zero_le _) ?_
    refine s_within (fun hw => ?_) (fun hw => ?_)
    · dsimp only [pushR]
      refine x_if_ne cK_seeAt_19 (fun _ => ?_) (fun q => absurd q (by decide))
      refine x_aload_0 cK_seeAt_25 ?_
      refine x_gR (b := 76) cK_seeAt_26 fK_45 rfl rfl rfl ?_
      refine x_gI cK_seeAt_29 fK_131 rfl rfl ?_
      refine x_bipush 6 (by decide) cK_seeAt_32 ?_
      refine x_icmp_lt cK_seeAt_34 (fun q34 => ?_) (fun q34 => ?_)
      · have hn7 : n < 6 := by
          rw [hn] at q34
          exact (nI_ltI (by omega) (by decide)).mp q34
        refine x_aload_0 cK_seeAt_40 ?_
        refine x_gR (b := 76) cK_seeAt_41 fK_45 rfl rfl rfl ?_
        refine x_iload_1 cK_seeAt_44 ?_
        refine x_iload_2 cK_seeAt_45 ?_
        refine x_v2 (ls0 := [some _, some _, some _]) cK_seeAt_46 kK_222 okSightings_add ⟨(Nat.le_of_ble_eq_true rfl), (Nat.le_of_ble_eq_true rfl)⟩ (Nat.le_of_ble_eq_true rfl) rfl (Nat.le_of_ble_eq_true rfl) rfl ⟨_, rfl, rfl⟩ rfl rfl (Nat.zero_le _) (Nat.zero_le _) ?_
        refine s_Sight_add hn hn7 ?_
        dsimp only [pushR]
        refine x_ireturn cK_seeAt_49 rfl rfl (Nat.zero_le _) (Nat.zero_le _) ?_
        exact hq _ _ ⟨fun z => absurd ⟨j, hj, ej⟩ z, fun _ => ⟨fun z => absurd hw z, fun _ => ⟨fun z => absurd z (by omega), fun _ => ⟨rfl, rfl⟩⟩⟩⟩
      · have hn7 : n = 6 := by
          rw [hn] at q34
          rcases Nat.lt_or_ge n 6 with z | z
          · exact absurd (nI_lt z (by decide)) q34
          · omega
        refine x_bipush (-4) (by decide) cK_seeAt_37 ?_
        refine x_ireturn cK_seeAt_39 rfl rfl (Nat.zero_le _) (Nat.zero_le _) ?_
        exact hq _ _ ⟨fun z => absurd ⟨j, hj, ej⟩ z, fun _ => ⟨fun z => absurd hw z, fun _ => ⟨fun _ => ⟨rfl, rfl⟩, fun z => absurd z (by omega)⟩⟩⟩
    · dsimp only [pushR]
      refine x_if_ne cK_seeAt_19 (fun q => absurd rfl q) (fun _ => ?_)
      refine x_bipush (-2) (by decide) cK_seeAt_22 ?_
      refine x_ireturn cK_seeAt_24 rfl rfl (Nat.zero_le _) (Nat.zero_le _) ?_
      exact hq _ _ ⟨fun z => absurd ⟨j, hj, ej⟩ z, fun _ => ⟨fun _ => ⟨rfl, rfl⟩, fun z => absurd z hw⟩⟩
  · dsimp only [pushR]
    refine x_if_ne cK_seeAt_8 (fun q => absurd rfl q) (fun _ => ?_)
    refine x_iconst (-1) (by decide) cK_seeAt_11 ?_
    refine x_ireturn cK_seeAt_12 rfl rfl (Nat.zero_le _) (Nat.zero_le _) ?_
    exact hq _ _ ⟨fun _ => ⟨rfl, rfl⟩, fun z => absurd z hno⟩
theorem k_unsee {Po : Option Value → HS → Prop} {I : IT} {J : JT} {P : PT}   (hq : ∀ (r : Int32) (I' : IT), r = I 76 2 ∧ I' = u2 I 76 2 0 → Po (some (.int r)) (hp I' J P)) : xj yK_unsee (mG yK_unsee Po) 0 [some (.ref 1), none] [] (hp I J P) 0 0 := by
  refine x_aload_0 cK_unsee_0 ?_
  refine x_gR (b := 76) cK_unsee_1 fK_45 rfl rfl rfl ?_
  refine x_gI cK_unsee_4 fK_131 rfl rfl ?_
  refine x_istore_1 cK_unsee_7 rfl (Nat.le_of_ble_eq_true rfl) ?_
  refine x_aload_0 cK_unsee_8 ?_
  refine x_gR (b := 76) cK_unsee_9 fK_45 rfl rfl rfl ?_
  refine x_iconst 0 (by decide) cK_unsee_12 ?_
  refine x_pI cK_unsee_13 fK_131 rfl rfl ?_
  refine x_iload_1 cK_unsee_16 ?_
  refine x_ireturn cK_unsee_17 rfl rfl (Nat.zero_le _) (Nat.zero_le _) ?_
  exact hq _ _ ⟨rfl, rfl⟩
