theorem s_seekBridles_loop {Po : Option Value → HS → Prop} {I : IT} {J : JT} {P : PT} {c : Nat} {x : Int32} (hc : I 4 0 = nI c) (hc5 : c ≤ 5) (hq : ∀ I', SameC I I' → Sch (costB (lnD I 4) c) (numW 5 c) (okB (lnD I 4) c x) (5 ^ c) (I' 88 0) (I' 88 1) → Po none (hp I' J P)) : ∀ n t, t + n = 5 ^ c → ∀ I', (∀ a, (a < 79 ∨ 89 < a) → I' a = I a) → TrOk I' c 81 → I' 86 1 = nI c → I' 86 2 = nI 4 → ∀ f, Fg I' c 5 f → (t < 5 ^ c → val 5 f c = t) → Sch (costB (lnD I 4) c) (numW 5 c) (okB (lnD I 4) c x) t (I' 88 0) (I' 88 1) → ∀ g, xj yK_seekBridles (mG yK_seekBridles Po) 43 [some (.ref 1), some (.int x), some (.int (nI (5 ^ c))), some (.int (nI t)), g] [] (hp I' J P) 0 0 := by
  have hpow : 5 ^ c ≤ 3125 := Nat.le_trans (Nat.pow_le_pow_right (by decide) hc5) (by decide)
  intro n
  induction n with
  | zero =>
    intro t ht I' hf hT hw1 hw2 f hF hv hS g
    obtain rfl : t = 5 ^ c := by omega
    refine x_iload_3 cK_seekBridles_43 ?_
    refine x_iload_2 cK_seekBridles_44 ?_
    refine x_icmp_ge cK_seekBridles_45 (fun q45 => ?_) (fun q45 => absurd q45 (fun z => z (Int32.le_refl _)))
    refine x_return cK_seekBridles_103 rfl (Nat.zero_le _) (Nat.zero_le _) ?_
    exact hq I' hf hS
  | succ n ih =>
    intro t ht I' hf hT hw1 hw2 f hF hv hS g
    have htl : t < 5 ^ c := by omega
    have hvt := hv htl
    have hdig : ∀ k, k < c → f k = dig 5 c t k := fun k hk => by rw [val_dig (b := 5) (by decide) c (fun j hj => (hF j hj).2) k hk, hvt]; rfl
    have hfd : ∀ k, k < c → I' 87 k = nI (dig 5 c t k) := fun k hk => by rw [(hF k hk).1, hdig k hk]
    have hnum : numI (I' 87) c = numW 5 c t := numI_ext c hfd
    have e4 : I' 4 = I 4 := hf 4 (by decide)
    have e5 : I' 5 = I 5 := hf 5 (by decide)
    have e6 : I' 6 = I 6 := hf 6 (by decide)
    have e7 : I' 7 = I 7 := hf 7 (by decide)
    have hcost : chI (I' 6) (I' 87) c = (costB (lnD I 4) c) t := by rw [e6]; exact chI_ext c hfd
    have JT : ∀ I2, (∀ a, (a < 79 ∨ 89 < a) → I2 a = I a) → TrOk I2 c 81 → I2 86 = I' 86 → I2 87 = I' 87 → Sch (costB (lnD I 4) c) (numW 5 c) (okB (lnD I 4) c x) (t + 1) (I2 88 0) (I2 88 1) → ∀ g2, xj yK_seekBridles (mG yK_seekBridles Po) 90 [some (.ref 1), some (.int x), some (.int (nI (5 ^ c))), some (.int (nI t)), g2] [] (hp I2 J P) 0 0 := by
      intro I2 kf kT k86 k87 kS g2
      have hF2 : Fg I2 c 5 f := fun k hk => by rw [k87]; exact hF k hk
      refine x_aload_0 cK_seekBridles_90 ?_
      refine x_gR (b := 86) cK_seekBridles_91 fK_66 rfl rfl rfl ?_
      refine x_v0 (ls0 := [some _, none]) cK_seekBridles_94 kK_280 okWay_step ⟨(Nat.le_of_ble_eq_true rfl), (Nat.le_of_ble_eq_true rfl)⟩ (Nat.le_of_ble_eq_true rfl) rfl (Nat.le_of_ble_eq_true rfl) rfl ⟨_, rfl, rfl⟩ rfl rfl (Nat.zero_le _) (Nat.zero_le _) ?_
      refine s_Way_step (b := 5) (f := f) (by rw [k86]; exact hw1) hc5 (by decide) (by decide) (by rw [k86]; exact hw2) hF2 (fun I3 m1 m2 => ?_)
      dsimp only [pushR]
      refine x_iinc_3 (nI (t + 1)) cK_seekBridles_97 rfl (nI_inc t) (Nat.le_of_ble_eq_true rfl) ?_
      refine x_goto cK_seekBridles_100 ?_
      refine ih (t + 1) (by omega) I3 (fun a ha => by rw [m1 a (by omega)]; exact kf a ha) ?_ (by rw [m1 86 (by decide), k86]; exact hw1) (by rw [m1 86 (by decide), k86]; exact hw2) _ m2 (fun h => by rw [nxt_val (by decide) c f (fun k hk => (hF k hk).2) (by rw [hvt]; exact h), hvt]) (by rw [m1 88 (by decide)]; exact kS) _
      obtain ⟨t1, t2, t3⟩ := kT
      refine ⟨by rw [m1 79 (by decide)]; exact t1, fun j h1 h2 => by rw [m1 79 (by decide), m1 4 (by decide)]; exact t2 j h1 h2, fun k hk => ?_⟩
      rw [m1 80 (by decide), m1 81 (by decide), m1 82 (by decide), m1 5 (by decide), m1 6 (by decide), m1 7 (by decide)]
      exact t3 k hk
    refine x_iload_3 cK_seekBridles_43 ?_
    refine x_iload_2 cK_seekBridles_44 ?_
    refine x_icmp_ge cK_seekBridles_45 (fun q45 => absurd q45 (nI_ge htl (by omega))) (fun q45 => ?_)
    refine x_aload_0 cK_seekBridles_48 ?_
    refine x_v0 (ls0 := [some _, none, none, none]) cK_seekBridles_49 kK_286 okK_setByWay ⟨(Nat.le_of_ble_eq_true rfl), (Nat.le_of_ble_eq_true rfl)⟩ (Nat.le_of_ble_eq_true rfl) rfl (Nat.le_of_ble_eq_true rfl) rfl ⟨_, rfl, rfl⟩ rfl rfl (Nat.zero_le _) (Nat.zero_le _) ?_
    refine s_sbw (c := c) (by rw [e4]; exact hc) hc5 (fun I2 l1 l2 => ?_)
    dsimp only [pushR]
    refine x_top (costB (lnD I 4) c t) hcost ?_
    have hT1 : TrOk I2 c 81 := by
      obtain ⟨t1, t2, t3⟩ := hT
      refine ⟨by rw [l1 79 (by decide)]; exact t1, fun j h1 h2 => by rw [l1 79 (by decide), l1 4 (by decide)]; exact t2 j h1 h2, fun k hk2 => ?_⟩
      rw [l1 80 (by decide), l1 82 (by decide), l1 5 (by decide), l1 7 (by decide)]
      exact ⟨(t3 k hk2).1, Or.inl rfl, (t3 k hk2).2.2⟩
    have hT2 : ∀ I3, FlOut I2 I3 (lnD I2 79) c → TrOk I3 c 81 := fun I3 hF3 => by
      have hk : ∀ a, a ≠ 83 → a ≠ 84 → a ≠ 85 → I3 a = I2 a := fun a h2 h3 h4 => hF3.1 a h2 h3 h4
      obtain ⟨t1, t2, t3⟩ := hT1
      refine ⟨by rw [hk 79 (by decide) (by decide) (by decide)]; exact t1, fun j h1 h2 => by rw [hk 79 (by decide) (by decide) (by decide), hk 4 (by decide) (by decide) (by decide)]; exact t2 j h1 h2, fun k hk2 => ?_⟩
      rw [hk 80 (by decide) (by decide) (by decide), hk 81 (by decide) (by decide) (by decide), hk 82 (by decide) (by decide) (by decide), hk 5 (by decide) (by decide) (by decide), hk 6 (by decide) (by decide) (by decide), hk 7 (by decide) (by decide) (by decide)]
      exact t3 k hk2
    have w88 : I2 88 = I' 88 := l1 88 (by decide)
    rw [← w88] at hS
    refine x_istore_4 cK_seekBridles_52 rfl (Nat.le_of_ble_eq_true rfl) ?_
    refine x_aload_0 cK_seekBridles_54 ?_
    refine x_gR (b := 88) cK_seekBridles_55 fK_73 rfl rfl rfl ?_
    refine x_iload_4 cK_seekBridles_58 ?_
    refine x_v1 (ls0 := [some _, some _]) cK_seekBridles_60 kK_265 okBest_wants ⟨(Nat.le_of_ble_eq_true rfl), (Nat.le_of_ble_eq_true rfl)⟩ (Nat.le_of_ble_eq_true rfl) rfl (Nat.le_of_ble_eq_true rfl) rfl ⟨_, rfl, rfl⟩ rfl rfl (Nat.zero_le _) (Nat.zero_le _) ?_
    refine s_Best_wants (fun hwn => ?_) (fun hwn => ?_)
    · dsimp only [pushR]
      refine x_if_eq cK_seekBridles_63 (fun q => absurd q (by decide)) (fun _ => ?_)
      refine x_aload_0 cK_seekBridles_66 ?_
      refine x_iload_1 cK_seekBridles_67 ?_
      refine x_v1 (ls0 := [some _, some _]) cK_seekBridles_68 kK_272 okK_trialViews ⟨(Nat.le_of_ble_eq_true rfl), (Nat.le_of_ble_eq_true rfl)⟩ (Nat.le_of_ble_eq_true rfl) rfl (Nat.le_of_ble_eq_true rfl) rfl ⟨_, rfl, rfl⟩ rfl rfl (Nat.zero_le _) (Nat.zero_le _) ?_
      have hLE : LEq (lnD I2 79) (wbD (lnD I 4) (dig 5 c t)) c := by
        obtain ⟨t1, t2, t3⟩ := hT
        refine ⟨fun k hk => ⟨?_, ?_, ?_⟩, ?_, ?_, ?_, ?_⟩
        · show I2 80 k = I 5 k
          rw [l1 80 (by decide), ← e5]
          exact (t3 k hk).1.resolve_left (by decide)
        · show I2 81 k = nI (dig 5 c t k) - 2
          rw [l2 k hk, hfd k hk]
        · show I2 82 k = I 7 k
          rw [l1 82 (by decide), ← e7]
          exact (t3 k hk).2.2
        · show I2 79 1 = I 4 1
          rw [l1 79 (by decide), ← e4]; exact t2 1 (by decide) (by decide)
        · show I2 79 2 = I 4 2
          rw [l1 79 (by decide), ← e4]; exact t2 2 (by decide) (by decide)
        · show I2 79 3 = I 4 3
          rw [l1 79 (by decide), ← e4]; exact t2 3 (by decide) (by decide)
        · show I2 79 4 = I 4 4
          rw [l1 79 (by decide), ← e4]; exact t2 4 (by decide) (by decide)
      have h79 : I2 79 0 = nI c := by rw [l1 79 (by decide)]; exact hT.1
      refine s_trialViews (c := c) h79 hc5 (fun hv1 I3 hF3 => ?_) (fun hv1 I3 hF3 => ?_)
      · dsimp only [pushR]
        have hok : okB (lnD I 4) c x t := (hLE.vd x).mp hv1
        refine x_if_eq cK_seekBridles_71 (fun q => absurd q (by decide)) (fun _ => ?_)
        refine x_aload_0 cK_seekBridles_74 ?_
        refine x_gR (b := 88) cK_seekBridles_75 fK_73 rfl rfl rfl ?_
        refine x_iload_4 cK_seekBridles_78 ?_
        refine x_aload_0 cK_seekBridles_80 ?_
        refine x_gR (b := 86) cK_seekBridles_81 fK_66 rfl rfl rfl ?_
        refine x_v0 (ls0 := [some _, none, none]) cK_seekBridles_84 kK_275 okWay_number ⟨(Nat.le_of_ble_eq_true rfl), (Nat.le_of_ble_eq_true rfl)⟩ (Nat.le_of_ble_eq_true rfl) rfl (Nat.le_of_ble_eq_true rfl) rfl ⟨_, rfl, rfl⟩ rfl rfl (Nat.zero_le _) (Nat.zero_le _) ?_
        refine s_Way_number (c := c) (by rw [hF3.1 86 (by decide) (by decide) (by decide), l1 86 (by decide)]; exact hw1) hc5 ?_
        dsimp only [pushR]
        refine x_v2 (ls0 := [some _, some _, some _]) cK_seekBridles_87 kK_277 okBest_keepThis ⟨(Nat.le_of_ble_eq_true rfl), (Nat.le_of_ble_eq_true rfl)⟩ (Nat.le_of_ble_eq_true rfl) rfl (Nat.le_of_ble_eq_true rfl) rfl ⟨_, rfl, rfl⟩ rfl rfl (Nat.zero_le _) (Nat.zero_le _) ?_
        refine s_Best_keepThis ?_
        dsimp only [pushR]
        have k88 : I3 88 = I2 88 := by rw [hF3.1 88 (by decide) (by decide) (by decide)]
        have k87 : I3 87 = I' 87 := by rw [hF3.1 87 (by decide) (by decide) (by decide), l1 87 (by decide)]
        refine JT _ (fun a ha => by rw [u2_n (by omega), u2_n (by omega), hF3.1 a (by omega) (by omega) (by omega), l1 a (by omega)]; exact hf a ha) ?_ (by rw [u2_n (by decide), u2_n (by decide), hF3.1 86 (by decide) (by decide) (by decide), l1 86 (by decide)]) (by rw [u2_n (by decide), u2_n (by decide), k87]) ⟨_, _, hS, fun _ => ⟨?_, ?_⟩, fun z => absurd ⟨hwn, hok⟩ z⟩ _
        · obtain ⟨t1, t2, t3⟩ := hT2 I3 hF3
          refine ⟨by rw [u2_n (by decide), u2_n (by decide)]; exact t1, fun j h1 h2 => by rw [u2_n (by decide), u2_n (by decide), u2_n (by decide), u2_n (by decide)]; exact t2 j h1 h2, fun k hk => ?_⟩
          have := t3 k hk
          rw [u2_n (by decide), u2_n (by decide), u2_n (by decide), u2_n (by decide), u2_n (by decide), u2_n (by decide), u2_n (by decide), u2_n (by decide), u2_n (by decide), u2_n (by decide), u2_n (by decide), u2_n (by decide)]
          exact this
        · rw [u2_sn (by decide), u2_ss]
        · rw [u2_ss, k87, hnum]
      · dsimp only [pushR]
        have hnok : ¬ okB (lnD I 4) c x t := fun z => hv1 ((hLE.vd x).mpr z)
        refine x_if_eq cK_seekBridles_71 (fun _ => ?_) (fun q => absurd rfl q)
        refine JT I3 (fun a ha => by rw [hF3.1 a (by omega) (by omega) (by omega), l1 a (by omega)]; exact hf a ha) (hT2 I3 hF3) (by rw [hF3.1 86 (by decide) (by decide) (by decide), l1 86 (by decide)]) (by rw [hF3.1 87 (by decide) (by decide) (by decide), l1 87 (by decide)]) ⟨_, _, hS, fun z => absurd z.2 hnok, fun _ => ?_⟩ _
        rw [hF3.1 88 (by decide) (by decide) (by decide)]
        exact ⟨rfl, rfl⟩
    · dsimp only [pushR]
      refine x_if_eq cK_seekBridles_63 (fun _ => ?_) (fun q => absurd rfl q)
      exact JT I2 (fun a ha => by rw [l1 a (by omega)]; exact hf a ha) hT1 (by rw [l1 86 (by decide)]) (by rw [l1 87 (by decide)]) ⟨_, _, hS, fun z => absurd z.1 hwn, fun _ => ⟨rfl, rfl⟩⟩ _
theorem s_seekBridles {Po : Option Value → HS → Prop} {I : IT} {J : JT} {P : PT} {c : Nat} {x : Int32} (hc : I 4 0 = nI c) (hc5 : c ≤ 5) (hq : ∀ I', SameC I I' → Sch (costB (lnD I 4) c) (numW 5 c) (okB (lnD I 4) c x) (5 ^ c) (I' 88 0) (I' 88 1) → Po none (hp I' J P)) : xj yK_seekBridles (mG yK_seekBridles Po) 0 [some (.ref 1), some (.int x), none, none, none] [] (hp I J P) 0 0 := by
  have hmost : powI (nI 4 + 1) c = nI (5 ^ c) := powI_n 5 c
  refine x_aload_0 cK_seekBridles_0 ?_
  refine x_gR (b := 88) cK_seekBridles_1 fK_73 rfl rfl rfl ?_
  refine x_v0 (ls0 := [some _]) cK_seekBridles_4 kK_252 okBest_clear ⟨(Nat.le_of_ble_eq_true rfl), (Nat.le_of_ble_eq_true rfl)⟩ (Nat.le_of_ble_eq_true rfl) rfl (Nat.le_of_ble_eq_true rfl) rfl ⟨_, rfl, rfl⟩ rfl rfl (Nat.zero_le _) (Nat.zero_le _) ?_
  refine s_Best_clear ?_
  dsimp only [pushR]
  refine x_aload_0 cK_seekBridles_7 ?_
  refine x_gR (b := 79) cK_seekBridles_8 fK_53 rfl rfl rfl ?_
  refine x_aload_0 cK_seekBridles_11 ?_
  refine x_gR (b := 4) cK_seekBridles_12 fK_19 rfl rfl rfl ?_
  refine x_v1 (ls0 := [some _, some _]) cK_seekBridles_15 kK_239 okLine_take ⟨(Nat.le_of_ble_eq_true rfl), (Nat.le_of_ble_eq_true rfl)⟩ (Nat.le_of_ble_eq_true rfl) rfl (Nat.le_of_ble_eq_true rfl) rfl ⟨_, rfl, rfl⟩ rfl rfl (Nat.zero_le _) (Nat.zero_le _) ?_
  refine s_take (A := 79) (B := 4) (c := c) ln_79 ln_4 (by decide) (by rw [u2_n (by decide), u2_n (by decide)]; exact hc) hc5 (fun I1 hC => ?_)
  obtain ⟨c1, c2, c3, c4⟩ := hC
  dsimp only [pushR]
  refine x_aload_0 cK_seekBridles_18 ?_
  refine x_gR (b := 86) cK_seekBridles_19 fK_66 rfl rfl rfl ?_
  refine x_aload_0 cK_seekBridles_22 ?_
  refine x_gR (b := 4) cK_seekBridles_23 fK_19 rfl rfl rfl ?_
  refine x_gI cK_seekBridles_26 fK_106 rfl rfl ?_
  refine x_iconst 4 (by decide) cK_seekBridles_29 ?_
  refine x_v2 (ls0 := [some _, some _, some _, none]) cK_seekBridles_30 kK_255 okWay_start ⟨(Nat.le_of_ble_eq_true rfl), (Nat.le_of_ble_eq_true rfl)⟩ (Nat.le_of_ble_eq_true rfl) rfl (Nat.le_of_ble_eq_true rfl) rfl ⟨_, rfl, rfl⟩ rfl rfl (Nat.zero_le _) (Nat.zero_le _) ?_
  refine s_Way_start (fun I2 w1 w2 w3 w4 => ?_)
  have hw1 : I2 86 1 = nI c := by rw [w2, c1 4 (by decide) (by decide) (by decide) (by decide), u2_n (by decide), u2_n (by decide), hc]
  have hw2 : I2 86 2 = nI 4 := w3
  dsimp only [pushR]
  refine x_aload_0 cK_seekBridles_33 ?_
  refine x_gR (b := 86) cK_seekBridles_34 fK_66 rfl rfl rfl ?_
  refine x_v0 (ls0 := [some _, none, none]) cK_seekBridles_37 kK_259 okWay_most ⟨(Nat.le_of_ble_eq_true rfl), (Nat.le_of_ble_eq_true rfl)⟩ (Nat.le_of_ble_eq_true rfl) rfl (Nat.le_of_ble_eq_true rfl) rfl ⟨_, rfl, rfl⟩ rfl rfl (Nat.zero_le _) (Nat.zero_le _) ?_
  refine s_Way_most hw1 hc5 ?_
  dsimp only [pushR]
  refine x_top (nI (5 ^ c)) (by rw [hw2]; exact hmost) ?_
  refine x_istore_2 cK_seekBridles_40 rfl (Nat.le_of_ble_eq_true rfl) ?_
  refine x_iconst 0 (by decide) cK_seekBridles_41 ?_
  refine x_istore_3 cK_seekBridles_42 rfl (Nat.le_of_ble_eq_true rfl) ?_
  have hz : ∀ a, a ≠ 79 → a ≠ 80 → a ≠ 81 → a ≠ 82 → a ≠ 86 → a ≠ 87 → I2 a = u2 (u2 I 88 0 (-9)) 88 1 (-9) a := fun a h1 h2 h3 h4 h5 h6 => by rw [w1 a h5 h6, c1 a h1 h2 h3 h4]
  have z4 : I2 4 = I 4 := by rw [hz 4 (by decide) (by decide) (by decide) (by decide) (by decide) (by decide), u2_n (by decide), u2_n (by decide)]
  have z5 : I2 5 = I 5 := by rw [hz 5 (by decide) (by decide) (by decide) (by decide) (by decide) (by decide), u2_n (by decide), u2_n (by decide)]
  have z6 : I2 6 = I 6 := by rw [hz 6 (by decide) (by decide) (by decide) (by decide) (by decide) (by decide), u2_n (by decide), u2_n (by decide)]
  have z7 : I2 7 = I 7 := by rw [hz 7 (by decide) (by decide) (by decide) (by decide) (by decide) (by decide), u2_n (by decide), u2_n (by decide)]
  refine s_seekBridles_loop (I := I) hc hc5 hq (5 ^ c) 0 (by omega) I2 (fun a ha => ?_) ?_ ?_ ?_ (fun _ => 0) (fun k hk => ⟨w4 k (by omega), show 0 < 5 by decide⟩) (fun _ => ?_) ?_ _
  · rw [hz a (by omega) (by omega) (by omega) (by omega) (by omega) (by omega), u2_n (by omega), u2_n (by omega)]
  · refine ⟨by rw [w1 79 (by decide) (by decide)]; exact c2, fun j h1 h2 => ?_, fun k hk => ?_⟩
    · rw [w1 79 (by decide) (by decide), c3 j h1 h2, z4, u2_n (by decide), u2_n (by decide)]
    · obtain ⟨d1, d2, d3⟩ := c4 k hk
      rw [w1 80 (by decide) (by decide), w1 81 (by decide) (by decide), w1 82 (by decide) (by decide), z5, z6, z7, d1, d2, d3, u2_n (by decide), u2_n (by decide), u2_n (by decide), u2_n (by decide), u2_n (by decide), u2_n (by decide)]
      exact ⟨Or.inr rfl, Or.inr rfl, rfl⟩
  · exact hw1
  · exact hw2
  · have hv0 : ∀ m, val 5 (fun _ => 0) m = 0 := fun m => by
      induction m with
      | zero => rfl
      | succ m ih => simp [val, ih]
    exact hv0 c
  · rw [hz 88 (by decide) (by decide) (by decide) (by decide) (by decide) (by decide), u2_ss, u2_sn (by decide), u2_ss]
    exact ⟨rfl, rfl⟩
def RSeek (cost num : Nat → Int32) (ok : Nat → Prop) (N : Nat) (x w r : Int32) : Prop :=
  (¬ ((-100 ≤ x ∧ x ≤ 100) ∧ (w = 0 ∨ w = 1)) → r = -2) ∧ (((-100 ≤ x ∧ x ≤ 100) ∧ (w = 0 ∨ w = 1)) → ∃ a b, Sch cost num ok N a b ∧ (w = 0 → r = a) ∧ (¬ w = 0 → r = b))
theorem k_cheapest {Po : Option Value → HS → Prop} {I : IT} {J : JT} {P : PT} {c : Nat} {x w : Int32} (hc : I 4 0 = nI c) (hc5 : c ≤ 5) (hq : ∀ (r : Int32) (I' : IT), RSeek (costY c) (numW 4 c) (okY (lnD I 4) c x) (4 ^ c) x w r ∧ SameC I I' → Po (some (.int r)) (hp I' J P)) : xj yK_cheapest (mG yK_cheapest Po) 0 [some (.ref 1), some (.int x), some (.int w)] [] (hp I J P) 0 0 := by
  refine x_iload_1 cK_cheapest_0 ?_
  refine x_bipush 100 (by decide) cK_cheapest_1 ?_
  refine x_s2 (ls0 := [some _, some _]) cK_cheapest_3 kK_156 okK_within ⟨(Nat.le_of_ble_eq_true rfl), (Nat.le_of_ble_eq_true rfl)⟩ (Nat.le_of_ble_eq_true rfl) rfl (Nat.le_of_ble_eq_true rfl) rfl rfl (Nat.zero_le _) (Nat.zero_le _) ?_
  refine s_within (fun hw => ?_) (fun hw => ?_)
  · dsimp only [pushR]
    refine x_if_eq cK_cheapest_6 (fun q => absurd q (by decide)) (fun _ => ?_)
    refine x_iload_2 cK_cheapest_9 ?_
    refine x_s1 (ls0 := [some _]) cK_cheapest_10 kK_177 okK_isFirstOrSecond ⟨(Nat.le_of_ble_eq_true rfl), (Nat.le_of_ble_eq_true rfl)⟩ (Nat.le_of_ble_eq_true rfl) rfl (Nat.le_of_ble_eq_true rfl) rfl rfl (Nat.zero_le _) (Nat.zero_le _) ?_
    refine s_isFirstOrSecond (fun hw2 => ?_) (fun hw2 => ?_)
    · dsimp only [pushR]
      refine x_if_ne cK_cheapest_13 (fun _ => ?_) (fun q => absurd q (by decide))
      refine x_aload_0 cK_cheapest_19 ?_
      refine x_iload_1 cK_cheapest_20 ?_
      refine x_v1 (ls0 := [some _, some _, none, none, none]) cK_cheapest_21 kK_180 okK_seekYards ⟨(Nat.le_of_ble_eq_true rfl), (Nat.le_of_ble_eq_true rfl)⟩ (Nat.le_of_ble_eq_true rfl) rfl (Nat.le_of_ble_eq_true rfl) rfl ⟨_, rfl, rfl⟩ rfl rfl (Nat.zero_le _) (Nat.zero_le _) ?_
      refine s_seekYards hc hc5 (fun I1 hC hS => ?_)
      dsimp only [pushR]
      refine x_iload_2 cK_cheapest_24 ?_
      refine x_if_ne cK_cheapest_25 (fun q25 => ?_) (fun q25 => ?_)
      · refine x_aload_0 cK_cheapest_38 ?_
        refine x_gR (b := 88) cK_cheapest_39 fK_73 rfl rfl rfl ?_
        refine x_gI cK_cheapest_42 fK_187 rfl rfl ?_
        refine x_ireturn cK_cheapest_45 rfl rfl (Nat.zero_le _) (Nat.zero_le _) ?_
        exact hq _ _ ⟨⟨fun z => absurd ⟨hw, hw2⟩ z, fun _ => ⟨_, _, hS, fun z => absurd z q25, fun _ => rfl⟩⟩, hC⟩
      · refine x_aload_0 cK_cheapest_28 ?_
        refine x_gR (b := 88) cK_cheapest_29 fK_73 rfl rfl rfl ?_
        refine x_gI cK_cheapest_32 fK_184 rfl rfl ?_
        refine x_goto cK_cheapest_35 ?_
        refine x_ireturn cK_cheapest_45 rfl rfl (Nat.zero_le _) (Nat.zero_le _) ?_
        exact hq _ _ ⟨⟨fun z => absurd ⟨hw, hw2⟩ z, fun _ => ⟨_, _, hS, fun _ => rfl, fun z => absurd q25 z⟩⟩, hC⟩
    · dsimp only [pushR]
      refine x_if_ne cK_cheapest_13 (fun q => absurd rfl q) (fun _ => ?_)
      refine x_bipush (-2) (by decide) cK_cheapest_16 ?_
      refine x_ireturn cK_cheapest_18 rfl rfl (Nat.zero_le _) (Nat.zero_le _) ?_
      exact hq _ _ ⟨⟨fun _ => rfl, fun z => absurd z.2 hw2⟩, SameC.rf⟩
  · dsimp only [pushR]
    refine x_if_eq cK_cheapest_6 (fun _ => ?_) (fun q => absurd rfl q)
    refine x_bipush (-2) (by decide) cK_cheapest_16 ?_
    refine x_ireturn cK_cheapest_18 rfl rfl (Nat.zero_le _) (Nat.zero_le _) ?_
    exact hq _ _ ⟨⟨fun _ => rfl, fun z => absurd z.1 hw⟩, SameC.rf⟩
theorem k_fewest {Po : Option Value → HS → Prop} {I : IT} {J : JT} {P : PT} {c : Nat} {x w : Int32} (hc : I 4 0 = nI c) (hc5 : c ≤ 5) (hq : ∀ (r : Int32) (I' : IT), RSeek (costB (lnD I 4) c) (numW 5 c) (okB (lnD I 4) c x) (5 ^ c) x w r ∧ SameC I I' → Po (some (.int r)) (hp I' J P)) : xj yK_fewest (mG yK_fewest Po) 0 [some (.ref 1), some (.int x), some (.int w)] [] (hp I J P) 0 0 := by
  refine x_iload_1 cK_fewest_0 ?_
  refine x_bipush 100 (by decide) cK_fewest_1 ?_
  refine x_s2 (ls0 := [some _, some _]) cK_fewest_3 kK_156 okK_within ⟨(Nat.le_of_ble_eq_true rfl), (Nat.le_of_ble_eq_true rfl)⟩ (Nat.le_of_ble_eq_true rfl) rfl (Nat.le_of_ble_eq_true rfl) rfl rfl (Nat.zero_le _) (Nat.zero_le _) ?_
  refine s_within (fun hw => ?_) (fun hw => ?_)
  · dsimp only [pushR]
    refine x_if_eq cK_fewest_6 (fun q => absurd q (by decide)) (fun _ => ?_)
    refine x_iload_2 cK_fewest_9 ?_
    refine x_s1 (ls0 := [some _]) cK_fewest_10 kK_177 okK_isFirstOrSecond ⟨(Nat.le_of_ble_eq_true rfl), (Nat.le_of_ble_eq_true rfl)⟩ (Nat.le_of_ble_eq_true rfl) rfl (Nat.le_of_ble_eq_true rfl) rfl rfl (Nat.zero_le _) (Nat.zero_le _) ?_
    refine s_isFirstOrSecond (fun hw2 => ?_) (fun hw2 => ?_)
    · dsimp only [pushR]
      refine x_if_ne cK_fewest_13 (fun _ => ?_) (fun q => absurd q (by decide))
      refine x_aload_0 cK_fewest_19 ?_
      refine x_iload_1 cK_fewest_20 ?_
      refine x_v1 (ls0 := [some _, some _, none, none, none]) cK_fewest_21 kK_190 okK_seekBridles ⟨(Nat.le_of_ble_eq_true rfl), (Nat.le_of_ble_eq_true rfl)⟩ (Nat.le_of_ble_eq_true rfl) rfl (Nat.le_of_ble_eq_true rfl) rfl ⟨_, rfl, rfl⟩ rfl rfl (Nat.zero_le _) (Nat.zero_le _) ?_
      refine s_seekBridles hc hc5 (fun I1 hC hS => ?_)
      dsimp only [pushR]
      refine x_iload_2 cK_fewest_24 ?_
      refine x_if_ne cK_fewest_25 (fun q25 => ?_) (fun q25 => ?_)
      · refine x_aload_0 cK_fewest_38 ?_
        refine x_gR (b := 88) cK_fewest_39 fK_73 rfl rfl rfl ?_
        refine x_gI cK_fewest_42 fK_187 rfl rfl ?_
        refine x_ireturn cK_fewest_45 rfl rfl (Nat.zero_le _) (Nat.zero_le _) ?_
        exact hq _ _ ⟨⟨fun z => absurd ⟨hw, hw2⟩ z, fun _ => ⟨_, _, hS, fun z => absurd z q25, fun _ => rfl⟩⟩, hC⟩
      · refine x_aload_0 cK_fewest_28 ?_
        refine x_gR (b := 88) cK_fewest_29 fK_73 rfl rfl rfl ?_
        refine x_gI cK_fewest_32 fK_184 rfl rfl ?_
        refine x_goto cK_fewest_35 ?_
        refine x_ireturn cK_fewest_45 rfl rfl (Nat.zero_le _) (Nat.zero_le _) ?_
        exact hq _ _ ⟨⟨fun z => absurd ⟨hw, hw2⟩ z, fun _ => ⟨_, _, hS, fun _ => rfl, fun z => absurd q25 z⟩⟩, hC⟩
    · dsimp only [pushR]
      refine x_if_ne cK_fewest_13 (fun q => absurd rfl q) (fun _ => ?_)
      refine x_bipush (-2) (by decide) cK_fewest_16 ?_
      refine x_ireturn cK_fewest_18 rfl rfl (Nat.zero_le _) (Nat.zero_le _) ?_
      exact hq _ _ ⟨⟨fun _ => rfl, fun z => absurd z.2 hw2⟩, SameC.rf⟩
  · dsimp only [pushR]
    refine x_if_eq cK_fewest_6 (fun _ => ?_) (fun q => absurd rfl q)
    refine x_bipush (-2) (by decide) cK_fewest_16 ?_
    refine x_ireturn cK_fewest_18 rfl rfl (Nat.zero_le _) (Nat.zero_le _) ?_
    exact hq _ _ ⟨⟨fun _ => rfl, fun z => absurd z.1 hw⟩, SameC.rf⟩
