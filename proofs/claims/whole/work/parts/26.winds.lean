/-- the figures of winds and bridles, as they are -/
def lw (a : Nat) : Int32 := nI a - 2
theorem lw_gt : ∀ a, a < 6 → ((2 : Int32) < lw a ↔ a = 5) := by decide +kernel
theorem lw_inc (a : Nat) : lw a + Int32.ofInt 1 = lw (a + 1) := by
  show nI a - 2 + 1 = nI (a + 1) - 2
  rw [← nI_1, Int32.sub_eq_add_neg, Int32.sub_eq_add_neg, Int32.add_assoc, Int32.add_assoc, Int32.add_comm (-2) 1]
theorem lw_told : ∀ a, a < 5 → ∀ b, b < 5 → 10 * (lw a + 2) + lw b + 2 = nI (10 * a + b) := by decide +kernel
theorem lw_shl : ∀ a, a < 5 → (1 : Int32) <<< ((lw a + 2) &&& 31) = (1 : Int32) <<< (nI a &&& 31) := by decide +kernel
/-- the pairs of winds that agree: how many, the first one, the bits of LOW, behind t of them -/
def Wn (ok : Nat → Prop) : Nat → Int32 → Int32 → Int32 → Prop
  | 0, n, f, l => n = 0 ∧ f = -9 ∧ l = 0
  | t + 1, n, f, l => ∃ n0 f0 l0, Wn ok t n0 f0 l0 ∧ (ok t → n = n0 + 1 ∧ f = (if n0 = 0 then nI (10 * (t / 5) + t % 5) else f0) ∧ l = l0 ||| ((1 : Int32) <<< (nI (t / 5) &&& 31))) ∧ (¬ ok t → n = n0 ∧ f = f0 ∧ l = l0)
/-- whether what was seen agrees with the places by a pair of winds -/
def okW (D : LD) (kp : Nat → Nat) (pl : Nat → Int32) (c sn t : Nat) : Prop := ∀ r, r < sn → kp r < c → fP (wD D (lw (t / 5)) (lw (t % 5))) (kp r + 1) = pl r
/-- the trial line is a copy but for its winds -/
def TrW (I I1 I' : IT) : Prop := SameC I I' ∧ (∀ a, a = 80 ∨ a = 81 ∨ a = 82 → I' a = I1 a) ∧ ∀ j, j ≠ 1 → j ≠ 2 → I' 79 j = I1 79 j
theorem s_winds_in {Po : Option Value → HS → Prop} {I : IT} {J : JT} {P : PT} {c sn a : Nat} {kp : Nat → Nat} {I1 : IT} (hc : I 4 0 = nI c) (hc5 : c ≤ 5) (hsn : I 76 2 = nI sn) (hs6 : sn ≤ 6) (hkp : ∀ r, r < sn → I 77 r = nI (kp r) ∧ kp r < 5) (ha : a < 5) (hC : CpOut I I1 79 4 c) (K : ∀ I' l, TrW I I1 I' → Wn (okW (lnD I 4) kp (I 78) c sn) (5 * a + 5) (I' 89 0) (I' 89 1) l → ∀ g, xj yK_seekWinds (mG yK_seekWinds Po) 103 [some (.ref 1), some (.int l), some (.int (lw a)), g] [] (hp I' J P) 0 0) : ∀ n b, b + n = 5 → ∀ I' l, TrW I I1 I' → Wn (okW (lnD I 4) kp (I 78) c sn) (5 * a + b) (I' 89 0) (I' 89 1) l → xj yK_seekWinds (mG yK_seekWinds Po) 31 [some (.ref 1), some (.int l), some (.int (lw a)), some (.int (lw b))] [] (hp I' J P) 0 0 := by
  intro n
  induction n with
  | zero =>
    intro b hb I' l hT hW
    obtain rfl : b = 5 := by omega
    refine x_iload_3 cK_seekWinds_31 ?_
    refine x_iconst 2 (by decide) cK_seekWinds_32 ?_
    refine x_icmp_gt cK_seekWinds_33 (fun q33 => ?_) (fun q33 => absurd q33 (fun z => z (by decide)))
    exact K I' l hT hW _
  | succ n ih =>
    intro b hb I' l hT hW
    have hb5 : b < 5 := by omega
    have hLE := (cp_leq hC (lw a) (lw b)).fl
    have ed : (5 * a + b) / 5 = a := by omega
    have em : (5 * a + b) % 5 = b := by omega
    have J97 : ∀ I2 l2, TrW I I1 I2 → Wn (okW (lnD I 4) kp (I 78) c sn) (5 * a + (b + 1)) (I2 89 0) (I2 89 1) l2 → xj yK_seekWinds (mG yK_seekWinds Po) 97 [some (.ref 1), some (.int l2), some (.int (lw a)), some (.int (lw b))] [] (hp I2 J P) 0 0 := by
      intro I2 l2 kT kW
      refine x_iinc_3 (lw (b + 1)) cK_seekWinds_97 rfl (lw_inc b) (Nat.le_of_ble_eq_true rfl) ?_
      refine x_goto cK_seekWinds_100 ?_
      exact ih (b + 1) (by omega) I2 l2 kT kW
    refine x_iload_3 cK_seekWinds_31 ?_
    refine x_iconst 2 (by decide) cK_seekWinds_32 ?_
    refine x_icmp_gt cK_seekWinds_33 (fun q33 => absurd q33 (fun z => absurd ((lw_gt b (by omega)).mp z) (by omega))) (fun q33 => ?_)
    refine x_aload_0 cK_seekWinds_36 ?_
    refine x_gR (b := 79) cK_seekWinds_37 fK_53 rfl rfl rfl ?_
    refine x_iload_2 cK_seekWinds_40 ?_
    refine x_pI cK_seekWinds_41 fK_109 rfl rfl ?_
    refine x_aload_0 cK_seekWinds_44 ?_
    refine x_gR (b := 79) cK_seekWinds_45 fK_53 rfl rfl rfl ?_
    refine x_iload_3 cK_seekWinds_48 ?_
    refine x_pI cK_seekWinds_49 fK_112 rfl rfl ?_
    refine x_aload_0 cK_seekWinds_52 ?_
    refine x_gR (b := 83) cK_seekWinds_53 fK_59 rfl rfl rfl ?_
    refine x_aload_0 cK_seekWinds_56 ?_
    refine x_gR (b := 79) cK_seekWinds_57 fK_53 rfl rfl rfl ?_
    refine x_v1 (ls0 := [some _, some _, none, none, none, none, none, none]) cK_seekWinds_60 kK_124 okFlight_follow ⟨(Nat.le_of_ble_eq_true rfl), (Nat.le_of_ble_eq_true rfl)⟩ (Nat.le_of_ble_eq_true rfl) rfl (Nat.le_of_ble_eq_true rfl) rfl ⟨_, rfl, rfl⟩ rfl rfl (Nat.zero_le _) (Nat.zero_le _) ?_
    refine s_follow ln_79 (by decide) hc5 (by rw [u2_sn (by decide), u2_sn (by decide), hT.2.2 0 (by decide) (by decide)]; exact hC.2.1) (fun I3 hF => ?_)
    have eD : lnD (u2 (u2 I' 79 1 (lw a)) 79 2 (lw b)) 79 = lnD (u2 (u2 I1 79 1 (lw a)) 79 2 (lw b)) 79 := by
      unfold lnD
      simp only [u2_n (show 79 + 1 ≠ 79 by decide), u2_n (show 79 + 2 ≠ 79 by decide), u2_n (show 79 + 3 ≠ 79 by decide), u2_g]
      rw [hT.2.1 (79 + 1) (by decide), hT.2.1 (79 + 2) (by decide), hT.2.1 (79 + 3) (by decide)]
      simp [hT.2.2]
    rw [eD] at hF
    have hT3 : TrW I I1 I3 := by
      obtain ⟨t1, t2, t3⟩ := hT
      exact ⟨fun x hx => by rw [hF.1 x (by omega) (by omega) (by omega), u2_n (by omega), u2_n (by omega)]; exact t1 x hx, fun x hx => by rw [hF.1 x (by omega) (by omega) (by omega), u2_n (by omega), u2_n (by omega)]; exact t2 x hx, fun j j1 j2 => by rw [hF.1 79 (by decide) (by decide) (by decide), u2_sn j2, u2_sn j1]; exact t3 j j1 j2⟩
    have h89 : I3 89 = I' 89 := by rw [hF.1 89 (by decide) (by decide) (by decide), u2_n (by decide), u2_n (by decide)]
    have e78 : I3 78 = I 78 := hT3.1 78 (by decide)
    have hag : Agr I3 kp c sn ↔ (okW (lnD I 4) kp (I 78) c sn) (5 * a + b) := by
      unfold Agr okW
      rw [ed, em, e78]
      have e85 : ∀ k, k < c → I3 85 k = fP (wD (lnD I 4) (lw a) (lw b)) (k + 1) := fun k hk => by rw [(hF.2.2.2 k hk).2]; exact (hLE (k + 1) (by omega)).2.1
      exact ⟨fun h r h1 h2 => by rw [← e85 _ h2]; exact h r h1 h2, fun h r h1 h2 => by rw [e85 _ h2]; exact h r h1 h2⟩
    rw [← h89] at hW
    dsimp only [pushR]
    refine x_aload_0 cK_seekWinds_63 ?_
    refine x_gR (b := 76) cK_seekWinds_64 fK_45 rfl rfl rfl ?_
    refine x_aload_0 cK_seekWinds_67 ?_
    refine x_gR (b := 83) cK_seekWinds_68 fK_59 rfl rfl rfl ?_
    refine x_v1 (ls0 := [some _, some _, none, none]) cK_seekWinds_71 kK_297 okSightings_agreeWith ⟨(Nat.le_of_ble_eq_true rfl), (Nat.le_of_ble_eq_true rfl)⟩ (Nat.le_of_ble_eq_true rfl) rfl (Nat.le_of_ble_eq_true rfl) rfl ⟨_, rfl, rfl⟩ rfl rfl (Nat.zero_le _) (Nat.zero_le _) ?_
    refine s_agree (c := sn) (fc := c) (kp := kp) (by rw [hT3.1 76 (by decide)]; exact hsn) hs6 hF.2.1 hc5 (fun r hr => by rw [hT3.1 77 (by decide)]; exact hkp r hr) (fun hok => ?_) (fun hok => ?_)
    · dsimp only [pushR]
      refine x_if_eq cK_seekWinds_74 (fun q => absurd q (by decide)) (fun _ => ?_)
      refine x_aload_0 cK_seekWinds_77 ?_
      refine x_gR (b := 89) cK_seekWinds_78 fK_80 rfl rfl rfl ?_
      refine x_iload_2 cK_seekWinds_81 ?_
      refine x_iload_3 cK_seekWinds_82 ?_
      refine x_s2 (ls0 := [some _, some _]) cK_seekWinds_83 kK_167 okK_toldTogether ⟨(Nat.le_of_ble_eq_true rfl), (Nat.le_of_ble_eq_true rfl)⟩ (Nat.le_of_ble_eq_true rfl) rfl (Nat.le_of_ble_eq_true rfl) rfl rfl (Nat.zero_le _) (Nat.zero_le _) ?_
      refine s_toldTogether ?_
      dsimp only [pushR]
      refine x_top (nI (10 * a + b)) (lw_told a ha b hb5) ?_
      refine x_v1 (ls0 := [some _, some _]) cK_seekWinds_86 kK_301 okTally_add ⟨(Nat.le_of_ble_eq_true rfl), (Nat.le_of_ble_eq_true rfl)⟩ (Nat.le_of_ble_eq_true rfl) rfl (Nat.le_of_ble_eq_true rfl) rfl ⟨_, rfl, rfl⟩ rfl rfl (Nat.zero_le _) (Nat.zero_le _) ?_
      refine s_Tally_add (fun I4 f1 f2 f3 => ?_)
      dsimp only [pushR]
      refine x_iload_1 cK_seekWinds_89 ?_
      refine x_iconst 1 (by decide) cK_seekWinds_90 ?_
      refine x_iload_2 cK_seekWinds_91 ?_
      refine x_iconst 2 (by decide) cK_seekWinds_92 ?_
      refine x_iadd cK_seekWinds_93 ?_
      refine x_ishl cK_seekWinds_94 ?_
      refine x_top ((1 : Int32) <<< (nI a &&& 31)) (lw_shl a ha) ?_
      refine x_ior cK_seekWinds_95 ?_
      refine x_istore_1 cK_seekWinds_96 rfl (Nat.le_of_ble_eq_true rfl) ?_
      refine J97 I4 _ ⟨fun x hx => by rw [f1 x (by omega)]; exact hT3.1 x hx, fun x hx => by rw [f1 x (by omega)]; exact hT3.2.1 x hx, fun j j1 j2 => by rw [f1 79 (by decide)]; exact hT3.2.2 j j1 j2⟩ ⟨_, _, _, hW, fun _ => ?_, fun z => absurd (hag.mp hok) z⟩
      show I4 89 0 = I3 89 0 + 1 ∧ (I4 89 1 = if I3 89 0 = 0 then nI (10 * ((5 * a + b) / 5) + (5 * a + b) % 5) else I3 89 1) ∧ l ||| ((1 : Int32) <<< (nI a &&& 31)) = l ||| ((1 : Int32) <<< (nI ((5 * a + b) / 5) &&& 31))
      rw [ed, em]
      exact ⟨f2, f3, rfl⟩
    · dsimp only [pushR]
      refine x_if_eq cK_seekWinds_74 (fun _ => ?_) (fun q => absurd rfl q)
      exact J97 I3 l hT3 ⟨_, _, _, hW, fun z => absurd (hag.mpr z) hok, fun _ => ⟨rfl, rfl, rfl⟩⟩
theorem s_winds_out {Po : Option Value → HS → Prop} {I : IT} {J : JT} {P : PT} {c sn : Nat} {kp : Nat → Nat} {I1 : IT} (hc : I 4 0 = nI c) (hc5 : c ≤ 5) (hsn : I 76 2 = nI sn) (hs6 : sn ≤ 6) (hkp : ∀ r, r < sn → I 77 r = nI (kp r) ∧ kp r < 5) (hC : CpOut I I1 79 4 c) (hq : ∀ I' l, SameC I I' → Wn (okW (lnD I 4) kp (I 78) c sn) 25 (I' 89 0) (I' 89 1) l → Po (some (.int l)) (hp I' J P)) : ∀ n a, a + n = 5 → ∀ I' l, TrW I I1 I' → Wn (okW (lnD I 4) kp (I 78) c sn) (5 * a) (I' 89 0) (I' 89 1) l → ∀ g, xj yK_seekWinds (mG yK_seekWinds Po) 23 [some (.ref 1), some (.int l), some (.int (lw a)), g] [] (hp I' J P) 0 0 := by
  intro n
  induction n with
  | zero =>
    intro a ha I' l hT hW g
    obtain rfl : a = 5 := by omega
    refine x_iload_2 cK_seekWinds_23 ?_
    refine x_iconst 2 (by decide) cK_seekWinds_24 ?_
    refine x_icmp_gt cK_seekWinds_25 (fun q25 => ?_) (fun q25 => absurd q25 (fun z => z (by decide)))
    refine x_iload_1 cK_seekWinds_109 ?_
    refine x_ireturn cK_seekWinds_110 rfl rfl (Nat.zero_le _) (Nat.zero_le _) ?_
    exact hq I' l hT.1 hW
  | succ n ih =>
    intro a ha I' l hT hW g
    have ha5 : a < 5 := by omega
    refine x_iload_2 cK_seekWinds_23 ?_
    refine x_iconst 2 (by decide) cK_seekWinds_24 ?_
    refine x_icmp_gt cK_seekWinds_25 (fun q25 => absurd q25 (fun z => absurd ((lw_gt a (by omega)).mp z) (by omega))) (fun q25 => ?_)
    refine x_bipush (-2) (by decide) cK_seekWinds_28 ?_
    refine x_istore_3 cK_seekWinds_30 rfl (Nat.le_of_ble_eq_true rfl) ?_
    refine s_winds_in hc hc5 hsn hs6 hkp ha5 hC (fun I2 l2 kT kW g2 => ?_) 5 0 (by omega) I' l hT hW
    refine x_iinc_2 (lw (a + 1)) cK_seekWinds_103 rfl (lw_inc a) (Nat.le_of_ble_eq_true rfl) ?_
    refine x_goto cK_seekWinds_106 ?_
    exact ih (a + 1) (by omega) I2 l2 kT kW _
theorem s_seekWinds {Po : Option Value → HS → Prop} {I : IT} {J : JT} {P : PT} {c sn : Nat} {kp : Nat → Nat} (hc : I 4 0 = nI c) (hc5 : c ≤ 5) (hsn : I 76 2 = nI sn) (hs6 : sn ≤ 6) (hkp : ∀ r, r < sn → I 77 r = nI (kp r) ∧ kp r < 5) (hq : ∀ I' l, SameC I I' → Wn (okW (lnD I 4) kp (I 78) c sn) 25 (I' 89 0) (I' 89 1) l → Po (some (.int l)) (hp I' J P)) : xj yK_seekWinds (mG yK_seekWinds Po) 0 [some (.ref 1), none, none, none] [] (hp I J P) 0 0 := by
  refine x_iconst 0 (by decide) cK_seekWinds_0 ?_
  refine x_istore_1 cK_seekWinds_1 rfl (Nat.le_of_ble_eq_true rfl) ?_
  refine x_aload_0 cK_seekWinds_2 ?_
  refine x_gR (b := 89) cK_seekWinds_3 fK_80 rfl rfl rfl ?_
  refine x_v0 (ls0 := [some _]) cK_seekWinds_6 kK_296 okTally_clear ⟨(Nat.le_of_ble_eq_true rfl), (Nat.le_of_ble_eq_true rfl)⟩ (Nat.le_of_ble_eq_true rfl) rfl (Nat.le_of_ble_eq_true rfl) rfl ⟨_, rfl, rfl⟩ rfl rfl (Nat.zero_le _) (Nat.zero_le _) ?_
  refine s_Tally_clear ?_
  dsimp only [pushR]
  refine x_aload_0 cK_seekWinds_9 ?_
  refine x_gR (b := 79) cK_seekWinds_10 fK_53 rfl rfl rfl ?_
  refine x_aload_0 cK_seekWinds_13 ?_
  refine x_gR (b := 4) cK_seekWinds_14 fK_19 rfl rfl rfl ?_
  refine x_v1 (ls0 := [some _, some _]) cK_seekWinds_17 kK_239 okLine_take ⟨(Nat.le_of_ble_eq_true rfl), (Nat.le_of_ble_eq_true rfl)⟩ (Nat.le_of_ble_eq_true rfl) rfl (Nat.le_of_ble_eq_true rfl) rfl ⟨_, rfl, rfl⟩ rfl rfl (Nat.zero_le _) (Nat.zero_le _) ?_
  refine s_take (A := 79) (B := 4) (c := c) ln_79 ln_4 (by decide) (by rw [u2_n (by decide), u2_n (by decide)]; exact hc) hc5 (fun I1 hC => ?_)
  dsimp only [pushR]
  refine x_bipush (-2) (by decide) cK_seekWinds_20 ?_
  refine x_istore_2 cK_seekWinds_22 rfl (Nat.le_of_ble_eq_true rfl) ?_
  have hz : ∀ x, x ≠ 89 → u2 (u2 I 89 0 0) 89 1 (-9) x = I x := fun x hx => by rw [u2_n hx, u2_n hx]
  obtain ⟨c1, c2, c3, c4⟩ := hC
  have hS1 : SameC I I1 := fun x hx => by rw [c1 x (by omega) (by omega) (by omega) (by omega), hz x (by omega)]
  have hD : ∀ x, x ≠ 89 → x < 79 → u2 (u2 I 89 0 0) 89 1 (-9) x = I x := fun x h1 _ => hz x h1
  have hCI : CpOut (u2 (u2 I 89 0 0) 89 1 (-9)) I1 79 4 c := ⟨c1, c2, c3, c4⟩
  have e89 : I1 89 = u2 (u2 I 89 0 0) 89 1 (-9) 89 := c1 89 (by decide) (by decide) (by decide) (by decide)
  have hC4 : CpOut (fun x => if x = 89 then I1 89 else I x) I1 79 4 c := by
    refine ⟨fun x h1 h2 h3 h4 => ?_, c2, fun j j1 j2 => ?_, fun k hk => ?_⟩
    · by_cases e : x = 89
      · subst e; simp
      · rw [c1 x h1 h2 h3 h4, hz x e]; simp [e]
    · rw [c3 j j1 j2, hz 4 (by decide)]; simp
    · have := c4 k hk
      rw [hz (4 + 1) (by decide), hz (4 + 2) (by decide), hz (4 + 3) (by decide)] at this
      simpa using this
  have eL : lnD (fun x => if x = 89 then I1 89 else I x) 4 = lnD I 4 := by simp [lnD]
  refine s_winds_out (I := fun x => if x = 89 then I1 89 else I x) (sn := sn) (kp := kp) (by simpa using hc) hc5 (by simpa using hsn) hs6 (by simpa using hkp) hC4 (fun I' l kS kW => hq I' l (fun x hx => by rw [kS x hx]; simp [show x ≠ 89 by omega]) (by
    rw [eL] at kW
    simpa using kW)) 5 0 (by omega) I1 0 ⟨fun x hx => by rw [hS1 x hx]; simp [show x ≠ 89 by omega], fun _ _ => rfl, fun _ _ _ => rfl⟩ ?_ _
  rw [e89, u2_ss, u2_sn (by decide), u2_ss]
  exact ⟨rfl, rfl, rfl⟩
def RWinds (ok : Nat → Prop) (w r : Int32) : Prop :=
  (¬ (w = nI 0 ∨ w = nI 1 ∨ w = nI 2) → r = -2) ∧ ((w = nI 0 ∨ w = nI 1 ∨ w = nI 2) → ∃ n f l, Wn ok 25 n f l ∧ (w = nI 0 → r = n) ∧ (w = nI 1 → r = f) ∧ (w = nI 2 → (bcE l = 1 → r = f / 10) ∧ (¬ bcE l = 1 → r = -9)))
theorem k_winds {Po : Option Value → HS → Prop} {I : IT} {J : JT} {P : PT} {c sn : Nat} {kp : Nat → Nat} {w : Int32} (hc : I 4 0 = nI c) (hc5 : c ≤ 5) (hsn : I 76 2 = nI sn) (hs6 : sn ≤ 6) (hkp : ∀ r, r < sn → I 77 r = nI (kp r) ∧ kp r < 5) (hq : ∀ (r : Int32) (I' : IT), RWinds (okW (lnD I 4) kp (I 78) c sn) w r → SameC I I' → Po (some (.int r)) (hp I' J P)) : xj yK_winds (mG yK_winds Po) 0 [some (.ref 1), some (.int w), none] [] (hp I J P) 0 0 := by
  refine x_iload_1 cK_winds_0 ?_
  refine x_if_lt cK_winds_1 (fun q1 => ?_) (fun q1 => ?_)
  · refine x_bipush (-2) (by decide) cK_winds_9 ?_
    refine x_ireturn cK_winds_11 rfl rfl (Nat.zero_le _) (Nat.zero_le _) ?_
    exact hq _ _ ⟨fun _ => rfl, fun z => absurd q1 (by rcases z with rfl | rfl | rfl <;> decide)⟩ SameC.rf
  · refine x_iload_1 cK_winds_4 ?_
    refine x_iconst 2 (by decide) cK_winds_5 ?_
    refine x_icmp_le cK_winds_6 (fun q6 => ?_) (fun q6 => ?_)
    · refine x_aload_0 cK_winds_12 ?_
      refine x_v0 (ls0 := [some _, none, none, none]) cK_winds_13 kK_225 okK_seekWinds ⟨(Nat.le_of_ble_eq_true rfl), (Nat.le_of_ble_eq_true rfl)⟩ (Nat.le_of_ble_eq_true rfl) rfl (Nat.le_of_ble_eq_true rfl) rfl ⟨_, rfl, rfl⟩ rfl rfl (Nat.zero_le _) (Nat.zero_le _) ?_
      refine s_seekWinds hc hc5 hsn hs6 hkp (fun I1 l hS hW => ?_)
      dsimp only [pushR]
      refine x_istore_2 cK_winds_16 rfl (Nat.le_of_ble_eq_true rfl) ?_
      refine x_iload_1 cK_winds_17 ?_
      obtain ⟨jw, hjw, ew⟩ := ix_of (c := 3) q1 (fun z => absurd (Int32.le_trans z q6) (by decide)) (by decide)
      subst ew
      rcases (show jw = 0 ∨ jw = 1 ∨ jw = 2 by omega) with rfl | rfl | rfl
      · refine x_lookup (nx := 0) (off := 26) (tg := 44) cK_winds_18 (by decide) (by decide) (by decide) ?_
        refine x_aload_0 cK_winds_44 ?_
        refine x_gR (b := 89) cK_winds_45 fK_80 rfl rfl rfl ?_
        refine x_gI cK_winds_48 fK_228 rfl rfl ?_
        refine x_ireturn cK_winds_51 rfl rfl (Nat.zero_le _) (Nat.zero_le _) ?_
        exact hq _ _ ⟨fun z => absurd (Or.inl rfl) z, fun _ => ⟨_, _, _, hW, fun _ => rfl, fun z => absurd z (by decide), fun z => absurd z (by decide)⟩⟩ hS
      · refine x_lookup (nx := 0) (off := 34) (tg := 52) cK_winds_18 (by decide) (by decide) (by decide) ?_
        refine x_aload_0 cK_winds_52 ?_
        refine x_gR (b := 89) cK_winds_53 fK_80 rfl rfl rfl ?_
        refine x_gI cK_winds_56 fK_229 rfl rfl ?_
        refine x_ireturn cK_winds_59 rfl rfl (Nat.zero_le _) (Nat.zero_le _) ?_
        exact hq _ _ ⟨fun z => absurd (Or.inr (Or.inl rfl)) z, fun _ => ⟨_, _, _, hW, fun z => absurd z (by decide), fun _ => rfl, fun z => absurd z (by decide)⟩⟩ hS
      · refine x_lookup (nx := 0) (off := 42) (tg := 60) cK_winds_18 (by decide) (by decide) (by decide) ?_
        refine x_iload_2 cK_winds_60 ?_
        refine x_s1 (ls0 := [some _]) cK_winds_61 kK_193 okInt_bitCount ⟨(Nat.le_of_ble_eq_true rfl), (Nat.le_of_ble_eq_true rfl)⟩ (Nat.le_of_ble_eq_true rfl) rfl (Nat.le_of_ble_eq_true rfl) rfl rfl (Nat.zero_le _) (Nat.zero_le _) ?_
        refine s_bitCount ?_
        dsimp only [pushR]
        refine x_iconst 1 (by decide) cK_winds_64 ?_
        refine x_icmp_ne cK_winds_65 (fun q65 => ?_) (fun q65 => ?_)
        · refine x_bipush (-9) (by decide) cK_winds_81 ?_
          refine x_ireturn cK_winds_83 rfl rfl (Nat.zero_le _) (Nat.zero_le _) ?_
          exact hq _ _ ⟨fun z => absurd (Or.inr (Or.inr rfl)) z, fun _ => ⟨_, _, _, hW, fun z => absurd z (by decide), fun z => absurd z (by decide), fun _ => ⟨fun z => absurd z q65, fun _ => rfl⟩⟩⟩ hS
        · refine x_aload_0 cK_winds_68 ?_
          refine x_gR (b := 89) cK_winds_69 fK_80 rfl rfl rfl ?_
          refine x_gI cK_winds_72 fK_229 rfl rfl ?_
          refine x_bipush 10 (by decide) cK_winds_75 ?_
          refine x_idiv (by decide) cK_winds_77 ?_
          refine x_goto cK_winds_78 ?_
          refine x_ireturn cK_winds_83 rfl rfl (Nat.zero_le _) (Nat.zero_le _) ?_
          exact hq _ _ ⟨fun z => absurd (Or.inr (Or.inr rfl)) z, fun _ => ⟨_, _, _, hW, fun z => absurd z (by decide), fun z => absurd z (by decide), fun _ => ⟨fun _ => rfl, fun z => absurd q65 z⟩⟩⟩ hS
    · refine x_bipush (-2) (by decide) cK_winds_9 ?_
      refine x_ireturn cK_winds_11 rfl rfl (Nat.zero_le _) (Nat.zero_le _) ?_
      exact hq _ _ ⟨fun _ => rfl, fun z => absurd q6 (by rcases z with rfl | rfl | rfl <;> decide)⟩ SameC.rf
