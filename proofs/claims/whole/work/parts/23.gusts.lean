theorem lj_8 : ∀ i : Nat, (fk 8)[i]? = some 1 → i = 6 := fun i h => by
  have hl : i < 12 := (List.getElem?_eq_some_iff.mp h).1
  have hd : ∀ i, i < 12 → (fk 8)[i]? = some 1 → i = 6 := by decide +kernel
  exact hd i hl h
theorem lj_9 : ∀ i : Nat, (fk 9)[i]? = some 1 → i = 24 := fun i h => by
  have hl : i < 38 := (List.getElem?_eq_some_iff.mp h).1
  have hd : ∀ i, i < 38 → (fk 9)[i]? = some 1 → i = 24 := by decide +kernel
  exact hd i hl h
def gD (D : LD) (a b : Int32) : LD := (dY D, dB D, dT D, dLo D + a, dHi D + b, dBo D, dFo D)
def wD (D : LD) (a b : Int32) : LD := (dY D, dB D, dT D, a, b, dBo D, dFo D)
def calI (D : LD) (c : Nat) (a b : Int32) : Int32 := if fF (gD D a b) c = 0 then 1 else 0
theorem cp_leq {I I1 : IT} {c : Nat} (h : CpOut I I1 79 4 c) (a b : Int32) : LEq (lnD (u2 (u2 I1 79 1 a) 79 2 b) 79) (wD (lnD I 4) a b) c := by
  obtain ⟨-, -, h3, h4⟩ := h
  refine ⟨fun k hk => ?_, ?_, ?_, ?_, ?_⟩
  · show u2 (u2 I1 79 1 a) 79 2 b 80 k = I 5 k ∧ u2 (u2 I1 79 1 a) 79 2 b 81 k = I 6 k ∧ u2 (u2 I1 79 1 a) 79 2 b 82 k = I 7 k
    simp only [u2_n (show 80 ≠ 79 by decide), u2_n (show 81 ≠ 79 by decide), u2_n (show 82 ≠ 79 by decide)]
    exact h4 k hk
  · show u2 (u2 I1 79 1 a) 79 2 b 79 1 = a
    rw [u2_sn (by decide), u2_ss]
  · show u2 (u2 I1 79 1 a) 79 2 b 79 2 = b
    rw [u2_ss]
  · show u2 (u2 I1 79 1 a) 79 2 b 79 3 = I 4 3
    rw [u2_sn (by decide), u2_sn (by decide)]; exact h3 3 (by decide) (by decide)
  · show u2 (u2 I1 79 1 a) 79 2 b 79 4 = I 4 4
    rw [u2_sn (by decide), u2_sn (by decide)]; exact h3 4 (by decide) (by decide)
theorem s_calmIn {Po : Option Value → HS → Prop} {I : IT} {J : JT} {P : PT} {c : Nat} {a b : Int32} (hc : I 4 0 = nI c) (hc5 : c ≤ 5) (hq : ∀ I', SameC I I' → Po (some (.int (calI (lnD I 4) c a b))) (hp I' J P)) : xj yK_calmIn (mG yK_calmIn Po) 0 [some (.ref 1), some (.int a), some (.int b)] [] (hp I J P) 0 0 := by
  refine x_aload_0 cK_calmIn_0 ?_
  refine x_gR (b := 79) cK_calmIn_1 fK_53 rfl rfl rfl ?_
  refine x_aload_0 cK_calmIn_4 ?_
  refine x_gR (b := 4) cK_calmIn_5 fK_19 rfl rfl rfl ?_
  refine x_v1 (ls0 := [some _, some _]) cK_calmIn_8 kK_239 okLine_take ⟨(Nat.le_of_ble_eq_true rfl), (Nat.le_of_ble_eq_true rfl)⟩ (Nat.le_of_ble_eq_true rfl) rfl (Nat.le_of_ble_eq_true rfl) rfl ⟨_, rfl, rfl⟩ rfl rfl (Nat.zero_le _) (Nat.zero_le _) ?_
  refine s_take (A := 79) (B := 4) ln_79 ln_4 (by decide) hc hc5 (fun I1 hC => ?_)
  have e4 : I1 4 = I 4 := hC.1 4 (by decide) (by decide) (by decide) (by decide)
  have hLE := (cp_leq hC (I 4 1 + a) (I 4 2 + b)).fl c (Nat.le_refl c)
  dsimp only [pushR]
  refine x_aload_0 cK_calmIn_11 ?_
  refine x_gR (b := 79) cK_calmIn_12 fK_53 rfl rfl rfl ?_
  refine x_aload_0 cK_calmIn_15 ?_
  refine x_gR (b := 4) cK_calmIn_16 fK_19 rfl rfl rfl ?_
  refine x_gI cK_calmIn_19 fK_109 rfl rfl ?_
  refine x_iload_1 cK_calmIn_22 ?_
  refine x_iadd cK_calmIn_23 ?_
  rw [e4]
  refine x_pI cK_calmIn_24 fK_109 rfl rfl ?_
  refine x_aload_0 cK_calmIn_27 ?_
  refine x_gR (b := 79) cK_calmIn_28 fK_53 rfl rfl rfl ?_
  refine x_aload_0 cK_calmIn_31 ?_
  refine x_gR (b := 4) cK_calmIn_32 fK_19 rfl rfl rfl ?_
  refine x_gI cK_calmIn_35 fK_112 rfl rfl ?_
  refine x_iload_2 cK_calmIn_38 ?_
  refine x_iadd cK_calmIn_39 ?_
  rw [u2_n (show 4 ≠ 79 by decide), e4]
  refine x_pI cK_calmIn_40 fK_112 rfl rfl ?_
  refine x_aload_0 cK_calmIn_43 ?_
  refine x_gR (b := 83) cK_calmIn_44 fK_59 rfl rfl rfl ?_
  refine x_aload_0 cK_calmIn_47 ?_
  refine x_gR (b := 79) cK_calmIn_48 fK_53 rfl rfl rfl ?_
  refine x_v1 (ls0 := [some _, some _, none, none, none, none, none, none]) cK_calmIn_51 kK_124 okFlight_follow ⟨(Nat.le_of_ble_eq_true rfl), (Nat.le_of_ble_eq_true rfl)⟩ (Nat.le_of_ble_eq_true rfl) rfl (Nat.le_of_ble_eq_true rfl) rfl ⟨_, rfl, rfl⟩ rfl rfl (Nat.zero_le _) (Nat.zero_le _) ?_
  refine s_follow ln_79 (by decide) hc5 (by rw [u2_sn (by decide), u2_sn (by decide)]; exact hC.2.1) (fun I2 hF => ?_)
  have eF : I2 83 3 = fF (gD (lnD I 4) a b) c := by rw [hF.2.2.1]; exact hLE.2.2.2
  have hS : SameC I I2 := fun x hx => by rw [hF.1 x (by omega) (by omega) (by omega), u2_n (by omega), u2_n (by omega), hC.1 x (by omega) (by omega) (by omega) (by omega)]
  dsimp only [pushR]
  refine x_aload_0 cK_calmIn_54 ?_
  refine x_gR (b := 83) cK_calmIn_55 fK_59 rfl rfl rfl ?_
  refine x_gI cK_calmIn_58 fK_127 rfl rfl ?_
  refine x_if_ne cK_calmIn_61 (fun q61 => ?_) (fun q61 => ?_)
  · refine x_iconst 0 (by decide) cK_calmIn_68 ?_
    refine x_ireturn cK_calmIn_69 rfl rfl (Nat.zero_le _) (Nat.zero_le _) ?_
    have e : calI (lnD I 4) c a b = 0 := by unfold calI; rw [if_neg (by rw [← eF]; exact q61)]
    rw [← e]
    exact hq I2 hS
  · refine x_iconst 1 (by decide) cK_calmIn_64 ?_
    refine x_goto cK_calmIn_65 ?_
    refine x_ireturn cK_calmIn_69 rfl rfl (Nat.zero_le _) (Nat.zero_le _) ?_
    have e : calI (lnD I 4) c a b = 1 := by unfold calI; rw [if_pos (by rw [← eF]; exact q61)]
    rw [← e]
    exact hq I2 hS
def guS (D : LD) (c : Nat) (x y : Int32) : Int32 := calI D c 0 0 * (10 - x) * (10 - y) + calI D c 0 1 * (10 - x) * y + calI D c 1 0 * x * (10 - y) + calI D c 1 1 * x * y
def RGusts (D : LD) (c : Nat) (x y u r : Int32) : Prop :=
  (¬ ((0 ≤ x ∧ x ≤ 10) ∧ (0 ≤ y ∧ y ≤ 10)) → r = -2) ∧ (((0 ≤ x ∧ x ≤ 10) ∧ (0 ≤ y ∧ y ≤ 10)) → ∀ a, a < 2 ^ 31 → absI (guS D c x y) = nI a → (¬ u = 0 → r = guS D c x y / nI (Nat.gcd a 100)) ∧ (u = 0 → r = nI 100 / nI (Nat.gcd a 100)))
theorem k_gusts {Po : Option Value → HS → Prop} {I : IT} {J : JT} {P : PT} {c : Nat} {x y u : Int32} (hc : I 4 0 = nI c) (hc5 : c ≤ 5) (hab : (0 ≤ x ∧ x ≤ 10) → (0 ≤ y ∧ y ≤ 10) → ∃ a, a < 2 ^ 31 ∧ absI (guS (lnD I 4) c x y) = nI a) (hq : ∀ (r : Int32) (I' : IT), RGusts (lnD I 4) c x y u r ∧ SameC I I' → Po (some (.int r)) (hp I' J P)) : xj yK_gusts (mG yK_gusts Po) 0 [some (.ref 1), some (.int x), some (.int y), some (.int u), none] [] (hp I J P) 0 0 := by
  refine x_iload_1 cK_gusts_0 ?_
  refine x_if_lt cK_gusts_1 (fun q1 => ?_) (fun q1 => ?_)
  · refine x_bipush (-2) (by decide) cK_gusts_20 ?_
    refine x_ireturn cK_gusts_22 rfl rfl (Nat.zero_le _) (Nat.zero_le _) ?_
    exact hq _ _ ⟨⟨fun _ => rfl, fun z => absurd z.1.1 (nle_of q1)⟩, SameC.rf⟩
  · refine x_iload_1 cK_gusts_4 ?_
    refine x_bipush 10 (by decide) cK_gusts_5 ?_
    refine x_icmp_gt cK_gusts_7 (fun q7 => ?_) (fun q7 => ?_)
    · refine x_bipush (-2) (by decide) cK_gusts_20 ?_
      refine x_ireturn cK_gusts_22 rfl rfl (Nat.zero_le _) (Nat.zero_le _) ?_
      exact hq _ _ ⟨⟨fun _ => rfl, fun z => absurd z.1.2 (nle_of q7)⟩, SameC.rf⟩
    · refine x_iload_2 cK_gusts_10 ?_
      refine x_if_lt cK_gusts_11 (fun q11 => ?_) (fun q11 => ?_)
      · refine x_bipush (-2) (by decide) cK_gusts_20 ?_
        refine x_ireturn cK_gusts_22 rfl rfl (Nat.zero_le _) (Nat.zero_le _) ?_
        exact hq _ _ ⟨⟨fun _ => rfl, fun z => absurd z.2.1 (nle_of q11)⟩, SameC.rf⟩
      · refine x_iload_2 cK_gusts_14 ?_
        refine x_bipush 10 (by decide) cK_gusts_15 ?_
        refine x_icmp_le cK_gusts_17 (fun q17 => ?_) (fun q17 => ?_)
        · refine x_aload_0 cK_gusts_23 ?_
          refine x_iconst 0 (by decide) cK_gusts_24 ?_
          refine x_iconst 0 (by decide) cK_gusts_25 ?_
          refine x_v2 (ls0 := [some _, some _, some _]) cK_gusts_26 kK_236 okK_calmIn ⟨(Nat.le_of_ble_eq_true rfl), (Nat.le_of_ble_eq_true rfl)⟩ (Nat.le_of_ble_eq_true rfl) rfl (Nat.le_of_ble_eq_true rfl) rfl ⟨_, rfl, rfl⟩ rfl rfl (Nat.zero_le _) (Nat.zero_le _) ?_
          refine s_calmIn (c := c) hc hc5 (fun J0 hS0 => ?_)
          dsimp only [pushR]
          refine x_top (calI (lnD I 4) c 0 0) (rfl) ?_
          have hc1 : J0 4 0 = nI c := by rw [hS0 4 (by decide)]; exact hc
          refine x_bipush 10 (by decide) cK_gusts_29 ?_
          refine x_iload_1 cK_gusts_31 ?_
          refine x_isub cK_gusts_32 ?_
          refine x_imul cK_gusts_33 ?_
          refine x_bipush 10 (by decide) cK_gusts_34 ?_
          refine x_iload_2 cK_gusts_36 ?_
          refine x_isub cK_gusts_37 ?_
          refine x_imul cK_gusts_38 ?_
          refine x_istore_4 cK_gusts_39 rfl (Nat.le_of_ble_eq_true rfl) ?_
          refine x_iload_4 cK_gusts_41 ?_
          refine x_aload_0 cK_gusts_43 ?_
          refine x_iconst 0 (by decide) cK_gusts_44 ?_
          refine x_iconst 1 (by decide) cK_gusts_45 ?_
          refine x_v2 (ls0 := [some _, some _, some _]) cK_gusts_46 kK_236 okK_calmIn ⟨(Nat.le_of_ble_eq_true rfl), (Nat.le_of_ble_eq_true rfl)⟩ (Nat.le_of_ble_eq_true rfl) rfl (Nat.le_of_ble_eq_true rfl) rfl ⟨_, rfl, rfl⟩ rfl rfl (Nat.zero_le _) (Nat.zero_le _) ?_
          refine s_calmIn (c := c) hc1 hc5 (fun J1 hS1 => ?_)
          dsimp only [pushR]
          refine x_top (calI (lnD I 4) c 0 1) (by rw [lnD_4 hS0]) ?_
          have hc2 : J1 4 0 = nI c := by rw [(hS0.tr hS1) 4 (by decide)]; exact hc
          refine x_bipush 10 (by decide) cK_gusts_49 ?_
          refine x_iload_1 cK_gusts_51 ?_
          refine x_isub cK_gusts_52 ?_
          refine x_imul cK_gusts_53 ?_
          refine x_iload_2 cK_gusts_54 ?_
          refine x_imul cK_gusts_55 ?_
          refine x_iadd cK_gusts_56 ?_
          refine x_istore_4 cK_gusts_57 rfl (Nat.le_of_ble_eq_true rfl) ?_
          refine x_iload_4 cK_gusts_59 ?_
          refine x_aload_0 cK_gusts_61 ?_
          refine x_iconst 1 (by decide) cK_gusts_62 ?_
          refine x_iconst 0 (by decide) cK_gusts_63 ?_
          refine x_v2 (ls0 := [some _, some _, some _]) cK_gusts_64 kK_236 okK_calmIn ⟨(Nat.le_of_ble_eq_true rfl), (Nat.le_of_ble_eq_true rfl)⟩ (Nat.le_of_ble_eq_true rfl) rfl (Nat.le_of_ble_eq_true rfl) rfl ⟨_, rfl, rfl⟩ rfl rfl (Nat.zero_le _) (Nat.zero_le _) ?_
          refine s_calmIn (c := c) hc2 hc5 (fun J2 hS2 => ?_)
          dsimp only [pushR]
          refine x_top (calI (lnD I 4) c 1 0) (by rw [lnD_4 (hS0.tr hS1)]) ?_
          have hc3 : J2 4 0 = nI c := by rw [((hS0.tr hS1).tr hS2) 4 (by decide)]; exact hc
          refine x_iload_1 cK_gusts_67 ?_
          refine x_imul cK_gusts_68 ?_
          refine x_bipush 10 (by decide) cK_gusts_69 ?_
          refine x_iload_2 cK_gusts_71 ?_
          refine x_isub cK_gusts_72 ?_
          refine x_imul cK_gusts_73 ?_
          refine x_iadd cK_gusts_74 ?_
          refine x_istore_4 cK_gusts_75 rfl (Nat.le_of_ble_eq_true rfl) ?_
          refine x_iload_4 cK_gusts_77 ?_
          refine x_aload_0 cK_gusts_79 ?_
          refine x_iconst 1 (by decide) cK_gusts_80 ?_
          refine x_iconst 1 (by decide) cK_gusts_81 ?_
          refine x_v2 (ls0 := [some _, some _, some _]) cK_gusts_82 kK_236 okK_calmIn ⟨(Nat.le_of_ble_eq_true rfl), (Nat.le_of_ble_eq_true rfl)⟩ (Nat.le_of_ble_eq_true rfl) rfl (Nat.le_of_ble_eq_true rfl) rfl ⟨_, rfl, rfl⟩ rfl rfl (Nat.zero_le _) (Nat.zero_le _) ?_
          refine s_calmIn (c := c) hc3 hc5 (fun J3 hS3 => ?_)
          dsimp only [pushR]
          refine x_top (calI (lnD I 4) c 1 1) (by rw [lnD_4 ((hS0.tr hS1).tr hS2)]) ?_
          have hc4 : J3 4 0 = nI c := by rw [(((hS0.tr hS1).tr hS2).tr hS3) 4 (by decide)]; exact hc
          refine x_iload_1 cK_gusts_85 ?_
          refine x_imul cK_gusts_86 ?_
          refine x_iload_2 cK_gusts_87 ?_
          refine x_imul cK_gusts_88 ?_
          refine x_iadd cK_gusts_89 ?_
          refine x_top (guS (lnD I 4) c x y) rfl ?_
          refine x_istore_4 cK_gusts_90 rfl (Nat.le_of_ble_eq_true rfl) ?_
          refine x_iload_4 cK_gusts_92 ?_
          refine x_bipush 100 (by decide) cK_gusts_94 ?_
          refine x_iload_3 cK_gusts_96 ?_
          refine x_s3 (ls0 := [some _, some _, some _, none]) cK_gusts_97 kK_204 okK_fraction ⟨(Nat.le_of_ble_eq_true rfl), (Nat.le_of_ble_eq_true rfl)⟩ (Nat.le_of_ble_eq_true rfl) rfl (Nat.le_of_ble_eq_true rfl) rfl rfl (Nat.zero_le _) (Nat.zero_le _) ?_
          obtain ⟨a, ha, hxa⟩ := hab ⟨lts_of q1, lts_of q7⟩ ⟨lts_of q11, q17⟩
          refine s_fraction hxa ha (show 0 < 100 by decide) (show 100 < 1000 by decide) (fun hu => ?_) (fun hu => ?_)
          · dsimp only [pushR]
            refine x_ireturn cK_gusts_100 rfl rfl (Nat.zero_le _) (Nat.zero_le _) ?_
            exact hq _ _ ⟨⟨fun z => absurd ⟨⟨lts_of q1, lts_of q7⟩, lts_of q11, q17⟩ z, fun _ a2 ha2 hxa2 => by
              obtain rfl : a2 = a := (nI_eq ha2 ha).mp (hxa2.symm.trans hxa)
              exact ⟨fun _ => rfl, fun z => absurd z hu⟩⟩, ((hS0.tr hS1).tr hS2).tr hS3⟩
          · dsimp only [pushR]
            refine x_ireturn cK_gusts_100 rfl rfl (Nat.zero_le _) (Nat.zero_le _) ?_
            exact hq _ _ ⟨⟨fun z => absurd ⟨⟨lts_of q1, lts_of q7⟩, lts_of q11, q17⟩ z, fun _ a2 ha2 hxa2 => by
              obtain rfl : a2 = a := (nI_eq ha2 ha).mp (hxa2.symm.trans hxa)
              exact ⟨fun z => absurd hu z, fun _ => rfl⟩⟩, ((hS0.tr hS1).tr hS2).tr hS3⟩
        · refine x_bipush (-2) (by decide) cK_gusts_20 ?_
          refine x_ireturn cK_gusts_22 rfl rfl (Nat.zero_le _) (Nat.zero_le _) ?_
          exact hq _ _ ⟨⟨fun _ => rfl, fun z => absurd z.2.2 q17⟩, SameC.rf⟩
theorem k_seed {Po : Option Value → HS → Prop} {I : IT} {J : JT} {P : PT} {v : Int64} (hq : Po (some (.long (J 1))) (hp I (uJ J 1 v) P)) : xj yK_seed (mG yK_seed Po) 0 [some (.ref 1), some (.long v), none, none, none] [] (hp I J P) 0 0 := by
  refine x_aload_0 cK_seed_0 ?_
  refine x_gJ cK_seed_1 fK_49 rfl rfl ?_
  refine x_lstore_3 cK_seed_4 rfl (Nat.le_of_ble_eq_true rfl) ?_
  refine x_aload_0 cK_seed_5 ?_
  refine x_lload_1 cK_seed_6 ?_
  refine x_pJ cK_seed_7 fK_49 rfl rfl lj_8 ?_
  refine x_lload_3 cK_seed_10 ?_
  refine x_lreturn cK_seed_11 rfl (Nat.zero_le _) (Nat.zero_le _) ?_
  exact hq
def sdI (s : Int64) : Nat → Int64
  | 0 => s
  | t + 1 => sdI s t * 6364136223846793005 + 1442695040888963407
def drI (s : Int64) : Int32 := ((s.toUInt64 >>> ((33 : Int32).toInt64.toUInt64 &&& Int64.toUInt64 63)).toInt64 - (s.toUInt64 >>> ((33 : Int32).toInt64.toUInt64 &&& Int64.toUInt64 63)).toInt64 / 25 * 25).toInt32
def adD (D : LD) (s : Int64) : LD := wD D (drI s / 5 - 2) (drI s - drI s / 5 * 5 - 2)
def aftS (D : LD) (c : Nat) (s : Int64) : Nat → Int32
  | 0 => 0
  | t + 1 => aftS D c s t + bcE (fF (adD D (sdI s (t + 1))) c)
theorem uJ_uJ (J : JT) (a : Nat) (v w : Int64) : uJ (uJ J a v) a w = uJ J a w := by
  funext x
  by_cases h : x = a <;> simp [uJ, h]
theorem uJ_self (J : JT) (a : Nat) : uJ J a (J a) = J := by
  funext x
  by_cases h : x = a
  · subst h; simp [uJ]
  · simp [uJ, h]
theorem uJ_s (J : JT) (a : Nat) (v : Int64) : uJ J a v a = v := by simp [uJ]
def RAft (D : LD) (c : Nat) (J J' : JT) (a : Nat) (m r : Int32) : Prop := (¬ (1 ≤ m ∧ m ≤ 30) → r = -2 ∧ J' = J) ∧ ∀ N, 1 ≤ N → N ≤ 30 → m = nI N → r = aftS D c (J a) N ∧ J' = uJ J a (sdI (J a) N)
theorem s_aft_loop {Po : Option Value → HS → Prop} {I : IT} {J : JT} {P : PT} {c N : Nat} (hc : I 4 0 = nI c) (hc5 : c ≤ 5) (hN : N ≤ 30) (hq : ∀ I', SameC I I' → Po (some (.int (aftS (lnD I 4) c (J 1) N))) (hp I' (uJ J 1 (sdI (J 1) N)) P)) : ∀ n t, t + n = N → ∀ I1, CpOut I I1 79 4 c → ∀ I2, SameC I I2 → (∀ a, a = 80 ∨ a = 81 ∨ a = 82 → I2 a = I1 a) → (∀ j, j ≠ 1 → j ≠ 2 → I2 79 j = I1 79 j) → ∀ g4, xj yK_afternoons (mG yK_afternoons Po) 29 [some (.ref 1), some (.int (nI N)), some (.int (aftS (lnD I 4) c (J 1) t)), some (.int (nI t)), g4] [] (hp I2 (uJ J 1 (sdI (J 1) t)) P) 0 0 := by
  intro n
  induction n with
  | zero =>
    intro t ht I1 hC I2 hS h8 h79 g4
    obtain rfl : t = N := by omega
    refine x_iload_3 cK_afternoons_29 ?_
    refine x_iload_1 cK_afternoons_30 ?_
    refine x_icmp_ge cK_afternoons_31 (fun q31 => ?_) (fun q31 => absurd q31 (fun z => z (Int32.le_refl _)))
    refine x_iload_2 cK_afternoons_120 ?_
    refine x_ireturn cK_afternoons_121 rfl rfl (Nat.zero_le _) (Nat.zero_le _) ?_
    exact hq I2 hS
  | succ n ih =>
    intro t ht I1 hC I2 hS h8 h79 g4
    have hLE := (cp_leq hC (drI (sdI (J 1) (t + 1)) / 5 - 2) (drI (sdI (J 1) (t + 1)) - drI (sdI (J 1) (t + 1)) / 5 * 5 - 2))
    refine x_iload_3 cK_afternoons_29 ?_
    refine x_iload_1 cK_afternoons_30 ?_
    refine x_icmp_ge cK_afternoons_31 (fun q31 => absurd q31 (nI_ge (show t < N by omega) (by omega))) (fun q31 => ?_)
    refine x_aload_0 cK_afternoons_34 ?_
    refine x_aload_0 cK_afternoons_35 ?_
    refine x_gJ cK_afternoons_36 fK_49 rfl rfl ?_
    rw [uJ_s]
    refine x_ldc2 cK_afternoons_39 qK_242 ?_
    refine x_lmul cK_afternoons_42 ?_
    refine x_ldc2 cK_afternoons_43 qK_244 ?_
    refine x_ladd cK_afternoons_46 ?_
    refine x_pJ cK_afternoons_47 fK_49 rfl rfl lj_8 ?_
    rw [uJ_uJ]
    refine x_aload_0 cK_afternoons_50 ?_
    refine x_gJ cK_afternoons_51 fK_49 rfl rfl ?_
    rw [uJ_s]
    refine x_bipush 33 (by decide) cK_afternoons_54 ?_
    refine x_lushr cK_afternoons_56 ?_
    refine x_ldc2 cK_afternoons_57 qK_246 ?_
    refine x_lrem (by decide) cK_afternoons_60 ?_
    refine x_l2i cK_afternoons_61 ?_
    refine x_top (drI (sdI (J 1) (t + 1))) rfl ?_
    refine x_istore_4 cK_afternoons_62 rfl (Nat.le_of_ble_eq_true rfl) ?_
    refine x_aload_0 cK_afternoons_64 ?_
    refine x_gR (b := 79) cK_afternoons_65 fK_53 rfl rfl rfl ?_
    refine x_iload_4 cK_afternoons_68 ?_
    refine x_iconst 5 (by decide) cK_afternoons_70 ?_
    refine x_idiv (by decide) cK_afternoons_71 ?_
    refine x_iconst 2 (by decide) cK_afternoons_72 ?_
    refine x_isub cK_afternoons_73 ?_
    refine x_pI cK_afternoons_74 fK_109 rfl rfl ?_
    refine x_aload_0 cK_afternoons_77 ?_
    refine x_gR (b := 79) cK_afternoons_78 fK_53 rfl rfl rfl ?_
    refine x_iload_4 cK_afternoons_81 ?_
    refine x_iconst 5 (by decide) cK_afternoons_83 ?_
    refine x_irem (by decide) cK_afternoons_84 ?_
    refine x_iconst 2 (by decide) cK_afternoons_85 ?_
    refine x_isub cK_afternoons_86 ?_
    refine x_pI cK_afternoons_87 fK_112 rfl rfl ?_
    refine x_aload_0 cK_afternoons_90 ?_
    refine x_gR (b := 83) cK_afternoons_91 fK_59 rfl rfl rfl ?_
    refine x_aload_0 cK_afternoons_94 ?_
    refine x_gR (b := 79) cK_afternoons_95 fK_53 rfl rfl rfl ?_
    refine x_v1 (ls0 := [some _, some _, none, none, none, none, none, none]) cK_afternoons_98 kK_124 okFlight_follow ⟨(Nat.le_of_ble_eq_true rfl), (Nat.le_of_ble_eq_true rfl)⟩ (Nat.le_of_ble_eq_true rfl) rfl (Nat.le_of_ble_eq_true rfl) rfl ⟨_, rfl, rfl⟩ rfl rfl (Nat.zero_le _) (Nat.zero_le _) ?_
    refine s_follow ln_79 (by decide) hc5 (by rw [u2_sn (by decide), u2_sn (by decide), h79 0 (by decide) (by decide)]; exact hC.2.1) (fun I3 hF => ?_)
    have eF : I3 83 3 = fF (adD (lnD I 4) (sdI (J 1) (t + 1))) c := by
      rw [hF.2.2.1]
      refine Eq.trans ?_ (hLE.fl c (Nat.le_refl c)).2.2.2
      congr 1
      unfold lnD
      simp only [u2_n (show 79 + 1 ≠ 79 by decide), u2_n (show 79 + 2 ≠ 79 by decide), u2_n (show 79 + 3 ≠ 79 by decide), u2_g]
      rw [h8 (79 + 1) (by decide), h8 (79 + 2) (by decide), h8 (79 + 3) (by decide)]
      simp [h79]
    dsimp only [pushR]
    refine x_iload_2 cK_afternoons_101 ?_
    refine x_aload_0 cK_afternoons_102 ?_
    refine x_gR (b := 83) cK_afternoons_103 fK_59 rfl rfl rfl ?_
    refine x_gI cK_afternoons_106 fK_127 rfl rfl ?_
    refine x_s1 (ls0 := [some _]) cK_afternoons_109 kK_193 okInt_bitCount ⟨(Nat.le_of_ble_eq_true rfl), (Nat.le_of_ble_eq_true rfl)⟩ (Nat.le_of_ble_eq_true rfl) rfl (Nat.le_of_ble_eq_true rfl) rfl rfl (Nat.zero_le _) (Nat.zero_le _) ?_
    refine s_bitCount ?_
    dsimp only [pushR]
    refine x_top (bcE (fF (adD (lnD I 4) (sdI (J 1) (t + 1))) c)) (by rw [eF]) ?_
    refine x_iadd cK_afternoons_112 ?_
    refine x_top (aftS (lnD I 4) c (J 1) (t + 1)) rfl ?_
    refine x_istore_2 cK_afternoons_113 rfl (Nat.le_of_ble_eq_true rfl) ?_
    refine x_iinc_3 (nI (t + 1)) cK_afternoons_114 rfl (nI_inc t) (Nat.le_of_ble_eq_true rfl) ?_
    refine x_goto cK_afternoons_117 ?_
    exact ih (t + 1) (by omega) I1 hC I3 (fun a ha => by rw [hF.1 a (by omega) (by omega) (by omega), u2_n (by omega), u2_n (by omega)]; exact hS a ha) (fun a ha => by rw [hF.1 a (by omega) (by omega) (by omega), u2_n (by omega), u2_n (by omega)]; exact h8 a ha) (fun j j1 j2 => by rw [hF.1 79 (by decide) (by decide) (by decide), u2_sn j2, u2_sn j1]; exact h79 j j1 j2) _
theorem k_afternoons {Po : Option Value → HS → Prop} {I : IT} {J : JT} {P : PT} {c : Nat} {m : Int32} (hc : I 4 0 = nI c) (hc5 : c ≤ 5) (hq : ∀ r I' J', RAft (lnD I 4) c J J' 1 m r → SameC I I' → Po (some (.int r)) (hp I' J' P)) : xj yK_afternoons (mG yK_afternoons Po) 0 [some (.ref 1), some (.int m), none, none, none] [] (hp I J P) 0 0 := by
  refine x_iload_1 cK_afternoons_0 ?_
  refine x_iconst 1 (by decide) cK_afternoons_1 ?_
  refine x_icmp_lt cK_afternoons_2 (fun q2 => ?_) (fun q2 => ?_)
  · refine x_bipush (-2) (by decide) cK_afternoons_11 ?_
    refine x_ireturn cK_afternoons_13 rfl rfl (Nat.zero_le _) (Nat.zero_le _) ?_
    exact hq _ _ _ ⟨fun _ => ⟨rfl, rfl⟩, fun N h1 h2 e => absurd q2 (by subst e; exact nI_nlt (b := 1) h1 (by omega))⟩ SameC.rf
  · refine x_iload_1 cK_afternoons_5 ?_
    refine x_bipush 30 (by decide) cK_afternoons_6 ?_
    refine x_icmp_le cK_afternoons_8 (fun q8 => ?_) (fun q8 => ?_)
    · obtain ⟨N, hN, em⟩ : ∃ N, N < 31 ∧ m = nI N := ix_of (c := 31) (fun z => absurd (Int32.lt_of_lt_of_le z (by decide : (0 : Int32) ≤ 1)) q2) (fun z => absurd (Int32.le_trans z q8) (by decide)) (by decide)
      have hN1 : 1 ≤ N := by
        subst em
        rcases Nat.eq_zero_or_pos N with e | e
        · subst e; exact absurd (by decide) q2
        · exact e
      subst em
      refine x_iconst 0 (by decide) cK_afternoons_14 ?_
      refine x_istore_2 cK_afternoons_15 rfl (Nat.le_of_ble_eq_true rfl) ?_
      refine x_aload_0 cK_afternoons_16 ?_
      refine x_gR (b := 79) cK_afternoons_17 fK_53 rfl rfl rfl ?_
      refine x_aload_0 cK_afternoons_20 ?_
      refine x_gR (b := 4) cK_afternoons_21 fK_19 rfl rfl rfl ?_
      refine x_v1 (ls0 := [some _, some _]) cK_afternoons_24 kK_239 okLine_take ⟨(Nat.le_of_ble_eq_true rfl), (Nat.le_of_ble_eq_true rfl)⟩ (Nat.le_of_ble_eq_true rfl) rfl (Nat.le_of_ble_eq_true rfl) rfl ⟨_, rfl, rfl⟩ rfl rfl (Nat.zero_le _) (Nat.zero_le _) ?_
      refine s_take (A := 79) (B := 4) ln_79 ln_4 (by decide) hc hc5 (fun I1 hC => ?_)
      dsimp only [pushR]
      refine x_iconst 0 (by decide) cK_afternoons_27 ?_
      refine x_istore_3 cK_afternoons_28 rfl (Nat.le_of_ble_eq_true rfl) ?_
      have e0 : hp I1 J P = hp I1 (uJ J 1 (sdI (J 1) 0)) P := by
        show _ = hp I1 (uJ J 1 (J 1)) P
        rw [uJ_self]
      rw [e0]
      refine s_aft_loop (N := N) hc hc5 (by omega) (fun I' hS => hq _ _ _ ⟨fun z => absurd ⟨lts_of q2, q8⟩ z, fun N2 h1 h2 e2 => ?_⟩ hS) N 0 (by omega) I1 hC I1 (fun a ha => hC.1 a (by omega) (by omega) (by omega) (by omega)) (fun _ _ => rfl) (fun _ _ _ => rfl) _
      obtain rfl : N = N2 := (nI_eq (by omega) (by omega)).mp e2
      exact ⟨rfl, rfl⟩
    · refine x_bipush (-2) (by decide) cK_afternoons_11 ?_
      refine x_ireturn cK_afternoons_13 rfl rfl (Nat.zero_le _) (Nat.zero_le _) ?_
      exact hq _ _ _ ⟨fun _ => ⟨rfl, rfl⟩, fun N h1 h2 e => absurd (by subst e; exact nI_le (b := 30) h2 (by decide)) q8⟩ SameC.rf
