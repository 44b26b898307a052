def bD (D : LD) (bt : Nat → Int32) : LD := (dY D, bt, dT D, dLo D, dHi D, dBo D, dFo D)
def dsI (D : LD) (k : Nat) (x : Int32) : Int32 := absI (fP D (k + 1) - x)
def Near (D : LD) (bt : Nat → Int32) (k : Nat) (x : Int32) : Prop := ∀ b, b < 5 → ¬ dsI (bD D (upd bt k (lw b))) k x < dsI (bD D bt) k x
theorem upd_self (f : Nat → Int32) (k : Nat) : upd f k (f k) = f := by
  funext j
  by_cases h : j = k
  · subst h; simp [upd]
  · simp [upd, h]
theorem upd_upd (f : Nat → Int32) (k : Nat) (v w : Int32) : upd (upd f k v) k w = upd f k w := by
  funext j
  by_cases h : j = k <;> simp [upd, h]
theorem tr_leq {I : IT} {c : Nat} (h : TrOk I c 81) : LEq (lnD I 79) (bD (lnD I 4) (I 81)) c := by
  obtain ⟨t1, t2, t3⟩ := h
  exact ⟨fun k hk => ⟨(t3 k hk).1.resolve_left (by decide), rfl, (t3 k hk).2.2⟩, t2 1 (by decide) (by decide), t2 2 (by decide) (by decide), t2 3 (by decide) (by decide), t2 4 (by decide) (by decide)⟩
theorem tr_keep {I I' : IT} {c : Nat} (h : TrOk I c 81) (hs : ∀ a, a ≠ 81 → a ≠ 83 → a ≠ 84 → a ≠ 85 → I' a = I a) : TrOk I' c 81 := by
  obtain ⟨t1, t2, t3⟩ := h
  refine ⟨by rw [hs 79 (by decide) (by decide) (by decide) (by decide)]; exact t1, fun j h1 h2 => by rw [hs 79 (by decide) (by decide) (by decide) (by decide), hs 4 (by decide) (by decide) (by decide) (by decide)]; exact t2 j h1 h2, fun k hk => ?_⟩
  rw [hs 80 (by decide) (by decide) (by decide) (by decide), hs 82 (by decide) (by decide) (by decide) (by decide), hs 5 (by decide) (by decide) (by decide) (by decide), hs 7 (by decide) (by decide) (by decide) (by decide)]
  exact ⟨(t3 k hk).1, Or.inl rfl, (t3 k hk).2.2⟩
theorem tr_keep2 {I I' : IT} {c : Nat} (h : TrOk I c 81) (hs : ∀ a, (a < 81 ∨ a = 82) → I' a = I a) : TrOk I' c 81 := by
  obtain ⟨t1, t2, t3⟩ := h
  refine ⟨by rw [hs 79 (by decide)]; exact t1, fun j h1 h2 => by rw [hs 79 (by decide), hs 4 (by decide)]; exact t2 j h1 h2, fun k hk => ?_⟩
  rw [hs 80 (by decide), hs 82 (by decide), hs 5 (by decide), hs 7 (by decide)]
  exact ⟨(t3 k hk).1, Or.inl rfl, (t3 k hk).2.2⟩
/-- all but the trial's bridles and the flight stays -/
def Sm (I I' : IT) : Prop := ∀ a, a ≠ 81 → a ≠ 83 → a ≠ 84 → a ≠ 85 → I' a = I a
theorem Sm.tr {I I1 I2 : IT} (h1 : Sm I I1) (h2 : Sm I1 I2) : Sm I I2 := fun a a1 a2 a3 a4 => by rw [h2 a a1 a2 a3 a4, h1 a a1 a2 a3 a4]
theorem Sm.d4 {I I' : IT} (h : Sm I I') : lnD I' 4 = lnD I 4 := by
  unfold lnD
  rw [h 4 (by decide) (by decide) (by decide) (by decide), h 5 (by decide) (by decide) (by decide) (by decide), h 6 (by decide) (by decide) (by decide) (by decide), h 7 (by decide) (by decide) (by decide) (by decide)]
theorem s_distanceBy {Po : Option Value → HS → Prop} {I : IT} {J : JT} {P : PT} {c k : Nat} {b x : Int32} (hc5 : c ≤ 5) (hT : TrOk I c 81) (hk : k < c) (hq : ∀ I', Sm I I' → I' 81 = upd (I 81) k b → Po (some (.int (dsI (bD (lnD I 4) (upd (I 81) k b)) k x))) (hp I' J P)) : xj yK_distanceBy (mG yK_distanceBy Po) 0 [some (.ref 1), some (.int (nI k)), some (.int b), some (.int x)] [] (hp I J P) 0 0 := by
  refine x_aload_0 cK_distanceBy_0 ?_
  refine x_gR (b := 79) cK_distanceBy_1 fK_53 rfl rfl rfl ?_
  refine x_gR (b := 81) cK_distanceBy_4 fK_144 rfl rfl rfl ?_
  refine x_iload_1 cK_distanceBy_7 ?_
  refine x_iload_2 cK_distanceBy_8 ?_
  refine x_s3 (ls0 := [some _, some _, some _]) cK_distanceBy_9 kK_163 okK_put ⟨(Nat.le_of_ble_eq_true rfl), (Nat.le_of_ble_eq_true rfl)⟩ (Nat.le_of_ble_eq_true rfl) rfl (Nat.le_of_ble_eq_true rfl) rfl rfl (Nat.zero_le _) (Nat.zero_le _) ?_
  refine s_put k rfl rfl (by omega) (by decide) ?_
  have hT2 : TrOk (u2 I 81 k b) c 81 := tr_keep hT (fun a h1 _ _ _ => u2_n h1)
  have hLE := (tr_leq hT2).fl (k + 1) (by omega)
  have e4 : lnD (u2 I 81 k b) 4 = lnD I 4 := rfl
  rw [e4, u2_s] at hLE
  dsimp only [pushR]
  refine x_aload_0 cK_distanceBy_12 ?_
  refine x_gR (b := 83) cK_distanceBy_13 fK_59 rfl rfl rfl ?_
  refine x_aload_0 cK_distanceBy_16 ?_
  refine x_gR (b := 79) cK_distanceBy_17 fK_53 rfl rfl rfl ?_
  refine x_v1 (ls0 := [some _, some _, none, none, none, none, none, none]) cK_distanceBy_20 kK_124 okFlight_follow ⟨(Nat.le_of_ble_eq_true rfl), (Nat.le_of_ble_eq_true rfl)⟩ (Nat.le_of_ble_eq_true rfl) rfl (Nat.le_of_ble_eq_true rfl) rfl ⟨_, rfl, rfl⟩ rfl rfl (Nat.zero_le _) (Nat.zero_le _) ?_
  refine s_follow ln_79 (by decide) hc5 hT2.1 (fun I2 hF => ?_)
  dsimp only [pushR]
  refine x_aload_0 cK_distanceBy_23 ?_
  refine x_gR (b := 83) cK_distanceBy_24 fK_59 rfl rfl rfl ?_
  refine x_gR (b := 85) cK_distanceBy_27 fK_153 rfl rfl rfl ?_
  refine x_iload_1 cK_distanceBy_30 ?_
  refine x_s2 (ls0 := [some _, some _]) cK_distanceBy_31 kK_140 okK_at ⟨(Nat.le_of_ble_eq_true rfl), (Nat.le_of_ble_eq_true rfl)⟩ (Nat.le_of_ble_eq_true rfl) rfl (Nat.le_of_ble_eq_true rfl) rfl rfl (Nat.zero_le _) (Nat.zero_le _) ?_
  refine s_at k rfl rfl (by omega) (by decide) ?_
  dsimp only [pushR]
  refine x_iload_3 cK_distanceBy_34 ?_
  refine x_isub cK_distanceBy_35 ?_
  refine x_s1 (ls0 := [some _]) cK_distanceBy_36 kK_309 okMath_abs ⟨(Nat.le_of_ble_eq_true rfl), (Nat.le_of_ble_eq_true rfl)⟩ (Nat.le_of_ble_eq_true rfl) rfl (Nat.le_of_ble_eq_true rfl) rfl rfl (Nat.zero_le _) (Nat.zero_le _) ?_
  refine s_abs ?_
  dsimp only [pushR]
  refine x_top (dsI (bD (lnD I 4) (upd (I 81) k b)) k x) (by
    unfold dsI absI
    rw [(hF.2.2.2 k hk).2, hLE.2.1]) ?_
  refine x_ireturn cK_distanceBy_39 rfl rfl (Nat.zero_le _) (Nat.zero_le _) ?_
  exact hq I2 (fun a h1 h2 h3 h4 => by rw [hF.1 a h2 h3 h4, u2_n h1]) (by rw [hF.1 81 (by decide) (by decide) (by decide), u2_s])
theorem s_near_loop {Po : Option Value → HS → Prop} {I : IT} {J : JT} {P : PT} {c k : Nat} {x : Int32} (hc5 : c ≤ 5) (hT : TrOk I c 81) (hk : k < c) (h1 : Near (lnD I 4) (I 81) k x → ∀ I', Sm I I' → I' 81 = I 81 → Po (some (.int 1)) (hp I' J P)) (h0 : ¬ Near (lnD I 4) (I 81) k x → ∀ I', Sm I I' → I' 81 = I 81 → Po (some (.int 0)) (hp I' J P)) : ∀ n b, b + n = 5 → ∀ I' v, Sm I I' → (∃ w, I' 81 = upd (I 81) k w) → (v = 1 ∨ v = 0) → (v = 1 ↔ ∀ j, j < b → ¬ dsI (bD (lnD I 4) (upd (I 81) k (lw j))) k x < dsI (bD (lnD I 4) (I 81)) k x) → xj yK_isNearest (mG yK_isNearest Po) 28 [some (.ref 1), some (.int (nI k)), some (.int x), some (.int (I 81 k)), some (.int (dsI (bD (lnD I 4) (I 81)) k x)), some (.int v), some (.int (lw b))] [] (hp I' J P) 0 0 := by
  intro n
  induction n with
  | zero =>
    intro b hb I' v hS hw hv01 hv
    obtain rfl : b = 5 := by omega
    obtain ⟨w, hw⟩ := hw
    have e81 : u2 I' 81 k (I 81 k) 81 = I 81 := by rw [u2_s, hw, upd_upd, upd_self]
    rcases hv01 with rfl | rfl
    · have hN : Near (lnD I 4) (I 81) k x := hv.mp rfl
      refine x_iload_6 cK_isNearest_28 ?_
      refine x_iconst 2 (by decide) cK_isNearest_30 ?_
      refine x_icmp_gt cK_isNearest_31 (fun q31 => ?_) (fun q31 => absurd q31 (fun z => z (by decide)))
      refine x_aload_0 cK_isNearest_56 ?_
      refine x_gR (b := 79) cK_isNearest_57 fK_53 rfl rfl rfl ?_
      refine x_gR (b := 81) cK_isNearest_60 fK_144 rfl rfl rfl ?_
      refine x_iload_1 cK_isNearest_63 ?_
      refine x_iload_3 cK_isNearest_64 ?_
      refine x_s3 (ls0 := [some _, some _, some _]) cK_isNearest_65 kK_163 okK_put ⟨(Nat.le_of_ble_eq_true rfl), (Nat.le_of_ble_eq_true rfl)⟩ (Nat.le_of_ble_eq_true rfl) rfl (Nat.le_of_ble_eq_true rfl) rfl rfl (Nat.zero_le _) (Nat.zero_le _) ?_
      refine s_put k rfl rfl (by omega) (by decide) ?_
      dsimp only [pushR]
      refine x_iload_5 cK_isNearest_68 ?_
      refine x_ireturn cK_isNearest_70 rfl rfl (Nat.zero_le _) (Nat.zero_le _) ?_
      exact h1 hN _ (fun a a1 a2 a3 a4 => by rw [u2_n a1]; exact hS a a1 a2 a3 a4) e81
    · have hN : ¬ Near (lnD I 4) (I 81) k x := fun z => absurd (hv.mpr z) (by decide)
      refine x_iload_6 cK_isNearest_28 ?_
      refine x_iconst 2 (by decide) cK_isNearest_30 ?_
      refine x_icmp_gt cK_isNearest_31 (fun q31 => ?_) (fun q31 => absurd q31 (fun z => z (by decide)))
      refine x_aload_0 cK_isNearest_56 ?_
      refine x_gR (b := 79) cK_isNearest_57 fK_53 rfl rfl rfl ?_
      refine x_gR (b := 81) cK_isNearest_60 fK_144 rfl rfl rfl ?_
      refine x_iload_1 cK_isNearest_63 ?_
      refine x_iload_3 cK_isNearest_64 ?_
      refine x_s3 (ls0 := [some _, some _, some _]) cK_isNearest_65 kK_163 okK_put ⟨(Nat.le_of_ble_eq_true rfl), (Nat.le_of_ble_eq_true rfl)⟩ (Nat.le_of_ble_eq_true rfl) rfl (Nat.le_of_ble_eq_true rfl) rfl rfl (Nat.zero_le _) (Nat.zero_le _) ?_
      refine s_put k rfl rfl (by omega) (by decide) ?_
      dsimp only [pushR]
      refine x_iload_5 cK_isNearest_68 ?_
      refine x_ireturn cK_isNearest_70 rfl rfl (Nat.zero_le _) (Nat.zero_le _) ?_
      exact h0 hN _ (fun a a1 a2 a3 a4 => by rw [u2_n a1]; exact hS a a1 a2 a3 a4) e81
  | succ n ih =>
    intro b hb I' v hS hw hv01 hv
    obtain ⟨w, hw⟩ := hw
    refine x_iload_6 cK_isNearest_28 ?_
    refine x_iconst 2 (by decide) cK_isNearest_30 ?_
    refine x_icmp_gt cK_isNearest_31 (fun q31 => absurd q31 (fun z => absurd ((lw_gt b (by omega)).mp z) (by omega))) (fun q31 => ?_)
    refine x_aload_0 cK_isNearest_34 ?_
    refine x_iload_1 cK_isNearest_35 ?_
    refine x_iload_6 cK_isNearest_36 ?_
    refine x_iload_2 cK_isNearest_38 ?_
    refine x_v3 (ls0 := [some _, some _, some _, some _]) cK_isNearest_39 kK_306 okK_distanceBy ⟨(Nat.le_of_ble_eq_true rfl), (Nat.le_of_ble_eq_true rfl)⟩ (Nat.le_of_ble_eq_true rfl) rfl (Nat.le_of_ble_eq_true rfl) rfl ⟨_, rfl, rfl⟩ rfl rfl (Nat.zero_le _) (Nat.zero_le _) ?_
    refine s_distanceBy hc5 (tr_keep hT hS) hk (fun I2 hS2 h81 => ?_)
    dsimp only [pushR]
    rw [hS.d4, hw, upd_upd]
    refine x_iload_4 cK_isNearest_42 ?_
    refine x_icmp_ge cK_isNearest_44 (fun q44 => ?_) (fun q44 => ?_)
    · refine x_iinc_6 (lw (b + 1)) cK_isNearest_50 rfl (lw_inc b) (Nat.le_of_ble_eq_true rfl) ?_
      refine x_goto cK_isNearest_53 ?_
      exact ih (b + 1) (by omega) I2 v (hS.tr hS2) ⟨lw b, by rw [h81, hw, upd_upd]⟩ hv01 ⟨fun e j hj => by
        by_cases q : j = b
        · subst q; exact Int32.not_lt.mpr q44
        · exact hv.mp e j (by omega), fun z => hv.mpr (fun j hj => z j (by omega))⟩
    · refine x_iconst 0 (by decide) cK_isNearest_47 ?_
      refine x_istore_5 cK_isNearest_48 rfl (Nat.le_of_ble_eq_true rfl) ?_
      refine x_iinc_6 (lw (b + 1)) cK_isNearest_50 rfl (lw_inc b) (Nat.le_of_ble_eq_true rfl) ?_
      refine x_goto cK_isNearest_53 ?_
      exact ih (b + 1) (by omega) I2 0 (hS.tr hS2) ⟨lw b, by rw [h81, hw, upd_upd]⟩ (Or.inr rfl) ⟨fun e => absurd e (by decide), fun z => absurd (Int32.not_le.mp q44) (z b (by omega))⟩
theorem s_isNearest {Po : Option Value → HS → Prop} {I : IT} {J : JT} {P : PT} {c k : Nat} {x : Int32} (hc5 : c ≤ 5) (hT : TrOk I c 81) (hk : k < c) (h1 : Near (lnD I 4) (I 81) k x → ∀ I', Sm I I' → I' 81 = I 81 → Po (some (.int 1)) (hp I' J P)) (h0 : ¬ Near (lnD I 4) (I 81) k x → ∀ I', Sm I I' → I' 81 = I 81 → Po (some (.int 0)) (hp I' J P)) : xj yK_isNearest (mG yK_isNearest Po) 0 [some (.ref 1), some (.int (nI k)), some (.int x), none, none, none, none] [] (hp I J P) 0 0 := by
  refine x_aload_0 cK_isNearest_0 ?_
  refine x_gR (b := 79) cK_isNearest_1 fK_53 rfl rfl rfl ?_
  refine x_gR (b := 81) cK_isNearest_4 fK_144 rfl rfl rfl ?_
  refine x_iload_1 cK_isNearest_7 ?_
  refine x_s2 (ls0 := [some _, some _]) cK_isNearest_8 kK_140 okK_at ⟨(Nat.le_of_ble_eq_true rfl), (Nat.le_of_ble_eq_true rfl)⟩ (Nat.le_of_ble_eq_true rfl) rfl (Nat.le_of_ble_eq_true rfl) rfl rfl (Nat.zero_le _) (Nat.zero_le _) ?_
  refine s_at k rfl rfl (by omega) (by decide) ?_
  dsimp only [pushR]
  refine x_istore_3 cK_isNearest_11 rfl (Nat.le_of_ble_eq_true rfl) ?_
  refine x_aload_0 cK_isNearest_12 ?_
  refine x_iload_1 cK_isNearest_13 ?_
  refine x_iload_3 cK_isNearest_14 ?_
  refine x_iload_2 cK_isNearest_15 ?_
  refine x_v3 (ls0 := [some _, some _, some _, some _]) cK_isNearest_16 kK_306 okK_distanceBy ⟨(Nat.le_of_ble_eq_true rfl), (Nat.le_of_ble_eq_true rfl)⟩ (Nat.le_of_ble_eq_true rfl) rfl (Nat.le_of_ble_eq_true rfl) rfl ⟨_, rfl, rfl⟩ rfl rfl (Nat.zero_le _) (Nat.zero_le _) ?_
  refine s_distanceBy hc5 hT hk (fun I2 hS2 h81 => ?_)
  dsimp only [pushR]
  rw [upd_self]
  refine x_istore_4 cK_isNearest_19 rfl (Nat.le_of_ble_eq_true rfl) ?_
  refine x_iconst 1 (by decide) cK_isNearest_21 ?_
  refine x_istore_5 cK_isNearest_22 rfl (Nat.le_of_ble_eq_true rfl) ?_
  refine x_bipush (-2) (by decide) cK_isNearest_24 ?_
  refine x_istore_6 cK_isNearest_26 rfl (Nat.le_of_ble_eq_true rfl) ?_
  exact s_near_loop hc5 hT hk h1 h0 5 0 (by omega) I2 1 hS2 ⟨_, h81⟩ (Or.inl rfl) ⟨fun _ j hj => absurd hj (Nat.not_lt_zero j), fun _ => rfl⟩
/-- the pairs of bridles at rest: how many, the first one, behind t of them -/
def Tl (ok : Nat → Prop) : Nat → Int32 → Int32 → Prop
  | 0, n, f => n = 0 ∧ f = -9
  | t + 1, n, f => ∃ n0 f0, Tl ok t n0 f0 ∧ (ok t → n = n0 + 1 ∧ f = (if n0 = 0 then nI (10 * (t / 5) + t % 5) else f0)) ∧ (¬ ok t → n = n0 ∧ f = f0)
def okRs (D : LD) (i j : Nat) (p q : Int32) (t : Nat) : Prop := Near D (upd (upd (dB D) i (lw (t / 5))) j (lw (t % 5))) i p ∧ Near D (upd (upd (dB D) i (lw (t / 5))) j (lw (t % 5))) j q
theorem bD_leq {D : LD} {b b' : Nat → Int32} {c : Nat} (h : ∀ k, k < c → b k = b' k) : LEq (bD D b) (bD D b') c := ⟨fun k hk => ⟨rfl, h k hk, rfl⟩, rfl, rfl, rfl, rfl⟩
theorem near_ext {D : LD} {b b' : Nat → Int32} {c k : Nat} {x : Int32} (hk : k < c) (h : ∀ j, j < c → b j = b' j) : Near D b k x ↔ Near D b' k x := by
  have e0 : dsI (bD D b) k x = dsI (bD D b') k x := by unfold dsI; rw [((bD_leq (D := D) h).fl (k + 1) (by omega)).2.1]
  have e1 : ∀ w, dsI (bD D (upd b k w)) k x = dsI (bD D (upd b' k w)) k x := fun w => by
    unfold dsI
    rw [((bD_leq (D := D) (b := upd b k w) (b' := upd b' k w) (c := c) (fun j hj => by
      by_cases e : j = k
      · simp [upd, e]
      · simp [upd, e, h j hj])).fl (k + 1) (by omega)).2.1]
  unfold Near
  rw [e0]
  exact ⟨fun z b hb => by rw [← e1]; exact z b hb, fun z b hb => by rw [e1]; exact z b hb⟩
theorem s_rests_in {Po : Option Value → HS → Prop} {I : IT} {J : JT} {P : PT} {c i j a : Nat} {p q : Int32} (hc5 : c ≤ 5) (hi : i < c) (hj : j < c) (hij : ¬ i = j) (ha : a < 5) (K : ∀ I', SameC I I' → TrOk I' c 81 → (∀ k, k < c → k ≠ i → k ≠ j → I' 81 k = I 6 k) → Tl (okRs (lnD I 4) i j p q) (5 * a + 5) (I' 89 0) (I' 89 1) → ∀ g, xj yK_seekRests (mG yK_seekRests Po) 103 [some (.ref 1), some (.int (nI i)), some (.int (nI j)), some (.int p), some (.int q), some (.int (lw a)), g] [] (hp I' J P) 0 0) : ∀ n b, b + n = 5 → ∀ I', SameC I I' → TrOk I' c 81 → (∀ k, k < c → k ≠ i → k ≠ j → I' 81 k = I 6 k) → Tl (okRs (lnD I 4) i j p q) (5 * a + b) (I' 89 0) (I' 89 1) → xj yK_seekRests (mG yK_seekRests Po) 32 [some (.ref 1), some (.int (nI i)), some (.int (nI j)), some (.int p), some (.int q), some (.int (lw a)), some (.int (lw b))] [] (hp I' J P) 0 0 := by
  intro n
  induction n with
  | zero =>
    intro b hb I' hS hT h6 hW
    obtain rfl : b = 5 := by omega
    refine x_iload_6 cK_seekRests_32 ?_
    refine x_iconst 2 (by decide) cK_seekRests_34 ?_
    refine x_icmp_gt cK_seekRests_35 (fun q35 => ?_) (fun q35 => absurd q35 (fun z => z (by decide)))
    exact K I' hS hT h6 hW _
  | succ n ih =>
    intro b hb I' hS hT h6 hW
    have hb5 : b < 5 := by omega
    have ed : (5 * a + b) / 5 = a := by omega
    have em : (5 * a + b) % 5 = b := by omega
    have hji : ¬ j = i := fun z => hij z.symm
    have J97 : ∀ I2, SameC I I2 → TrOk I2 c 81 → (∀ k, k < c → k ≠ i → k ≠ j → I2 81 k = I 6 k) → Tl (okRs (lnD I 4) i j p q) (5 * a + (b + 1)) (I2 89 0) (I2 89 1) → xj yK_seekRests (mG yK_seekRests Po) 97 [some (.ref 1), some (.int (nI i)), some (.int (nI j)), some (.int p), some (.int q), some (.int (lw a)), some (.int (lw b))] [] (hp I2 J P) 0 0 := by
      intro I2 kS kT k6 kW
      refine x_iinc_6 (lw (b + 1)) cK_seekRests_97 rfl (lw_inc b) (Nat.le_of_ble_eq_true rfl) ?_
      refine x_goto cK_seekRests_100 ?_
      exact ih (b + 1) (by omega) I2 kS kT k6 kW
    have hT1 : TrOk (u2 (u2 I' 81 i (lw a)) 81 j (lw b)) c 81 := tr_keep hT (fun x h1 _ _ _ => by rw [u2_n h1, u2_n h1])
    have eD1 : lnD (u2 (u2 I' 81 i (lw a)) 81 j (lw b)) 4 = lnD I 4 := by
      rw [show lnD (u2 (u2 I' 81 i (lw a)) 81 j (lw b)) 4 = lnD I' 4 from rfl]; exact lnD_4 hS
    have hbt : ∀ k, k < c → u2 (u2 I' 81 i (lw a)) 81 j (lw b) 81 k = upd (upd (dB (lnD I 4)) i (lw a)) j (lw b) k := fun k hk => by
      rw [u2_s, u2_s]
      show (if k = j then lw b else if k = i then lw a else I' 81 k) = (if k = j then lw b else if k = i then lw a else I 6 k)
      by_cases e1 : k = j
      · rw [if_pos e1, if_pos e1]
      · rw [if_neg e1, if_neg e1]
        by_cases e2 : k = i
        · rw [if_pos e2, if_pos e2]
        · rw [if_neg e2, if_neg e2]; exact h6 k hk e2 e1
    have hfin : ∀ I2, Sm (u2 (u2 I' 81 i (lw a)) 81 j (lw b)) I2 → I2 81 = u2 (u2 I' 81 i (lw a)) 81 j (lw b) 81 → SameC I I2 ∧ TrOk I2 c 81 ∧ (∀ k, k < c → k ≠ i → k ≠ j → I2 81 k = I 6 k) ∧ I2 89 = I' 89 := fun I2 s1 s2 => by
      refine ⟨fun x hx => by rw [s1 x (by omega) (by omega) (by omega) (by omega), u2_n (by omega), u2_n (by omega)]; exact hS x hx, tr_keep hT1 s1, fun k hk k1 k2 => ?_, by rw [s1 89 (by decide) (by decide) (by decide) (by decide), u2_n (by decide), u2_n (by decide)]⟩
      rw [s2, hbt k hk]
      show (if k = j then lw b else if k = i then lw a else I 6 k) = I 6 k
      rw [if_neg k2, if_neg k1]
    refine x_iload_6 cK_seekRests_32 ?_
    refine x_iconst 2 (by decide) cK_seekRests_34 ?_
    refine x_icmp_gt cK_seekRests_35 (fun q35 => absurd q35 (fun z => absurd ((lw_gt b (by omega)).mp z) (by omega))) (fun q35 => ?_)
    refine x_aload_0 cK_seekRests_38 ?_
    refine x_gR (b := 79) cK_seekRests_39 fK_53 rfl rfl rfl ?_
    refine x_gR (b := 81) cK_seekRests_42 fK_144 rfl rfl rfl ?_
    refine x_iload_1 cK_seekRests_45 ?_
    refine x_iload_5 cK_seekRests_46 ?_
    refine x_s3 (ls0 := [some _, some _, some _]) cK_seekRests_48 kK_163 okK_put ⟨(Nat.le_of_ble_eq_true rfl), (Nat.le_of_ble_eq_true rfl)⟩ (Nat.le_of_ble_eq_true rfl) rfl (Nat.le_of_ble_eq_true rfl) rfl rfl (Nat.zero_le _) (Nat.zero_le _) ?_
    refine s_put i rfl rfl (by omega) (by decide) ?_
    dsimp only [pushR]
    refine x_aload_0 cK_seekRests_51 ?_
    refine x_gR (b := 79) cK_seekRests_52 fK_53 rfl rfl rfl ?_
    refine x_gR (b := 81) cK_seekRests_55 fK_144 rfl rfl rfl ?_
    refine x_iload_2 cK_seekRests_58 ?_
    refine x_iload_6 cK_seekRests_59 ?_
    refine x_s3 (ls0 := [some _, some _, some _]) cK_seekRests_61 kK_163 okK_put ⟨(Nat.le_of_ble_eq_true rfl), (Nat.le_of_ble_eq_true rfl)⟩ (Nat.le_of_ble_eq_true rfl) rfl (Nat.le_of_ble_eq_true rfl) rfl rfl (Nat.zero_le _) (Nat.zero_le _) ?_
    refine s_put j rfl rfl (by omega) (by decide) ?_
    dsimp only [pushR]
    refine x_aload_0 cK_seekRests_64 ?_
    refine x_iload_1 cK_seekRests_65 ?_
    refine x_iload_3 cK_seekRests_66 ?_
    refine x_v2 (ls0 := [some _, some _, some _, none, none, none, none]) cK_seekRests_67 kK_303 okK_isNearest ⟨(Nat.le_of_ble_eq_true rfl), (Nat.le_of_ble_eq_true rfl)⟩ (Nat.le_of_ble_eq_true rfl) rfl (Nat.le_of_ble_eq_true rfl) rfl ⟨_, rfl, rfl⟩ rfl rfl (Nat.zero_le _) (Nat.zero_le _) ?_
    refine s_isNearest hc5 hT1 hi (fun hn1 I2 m1 m2 => ?_) (fun hn1 I2 m1 m2 => ?_)
    · dsimp only [pushR]
      rw [eD1, near_ext hi hbt] at hn1
      refine x_if_eq cK_seekRests_70 (fun q => absurd q (by decide)) (fun _ => ?_)
      refine x_aload_0 cK_seekRests_73 ?_
      refine x_iload_2 cK_seekRests_74 ?_
      refine x_iload_4 cK_seekRests_75 ?_
      refine x_v2 (ls0 := [some _, some _, some _, none, none, none, none]) cK_seekRests_77 kK_303 okK_isNearest ⟨(Nat.le_of_ble_eq_true rfl), (Nat.le_of_ble_eq_true rfl)⟩ (Nat.le_of_ble_eq_true rfl) rfl (Nat.le_of_ble_eq_true rfl) rfl ⟨_, rfl, rfl⟩ rfl rfl (Nat.zero_le _) (Nat.zero_le _) ?_
      refine s_isNearest hc5 (tr_keep hT1 m1) hj (fun hn2 I3 m3 m4 => ?_) (fun hn2 I3 m3 m4 => ?_)
      · dsimp only [pushR]
        rw [m1.d4, eD1, m2, near_ext hj hbt] at hn2
        refine x_if_eq cK_seekRests_80 (fun q => absurd q (by decide)) (fun _ => ?_)
        refine x_aload_0 cK_seekRests_83 ?_
        refine x_gR (b := 89) cK_seekRests_84 fK_80 rfl rfl rfl ?_
        refine x_iload_5 cK_seekRests_87 ?_
        refine x_iload_6 cK_seekRests_89 ?_
        refine x_s2 (ls0 := [some _, some _]) cK_seekRests_91 kK_167 okK_toldTogether ⟨(Nat.le_of_ble_eq_true rfl), (Nat.le_of_ble_eq_true rfl)⟩ (Nat.le_of_ble_eq_true rfl) rfl (Nat.le_of_ble_eq_true rfl) rfl rfl (Nat.zero_le _) (Nat.zero_le _) ?_
        refine s_toldTogether ?_
        dsimp only [pushR]
        refine x_top (nI (10 * a + b)) (lw_told a ha b hb5) ?_
        refine x_v1 (ls0 := [some _, some _]) cK_seekRests_94 kK_301 okTally_add ⟨(Nat.le_of_ble_eq_true rfl), (Nat.le_of_ble_eq_true rfl)⟩ (Nat.le_of_ble_eq_true rfl) rfl (Nat.le_of_ble_eq_true rfl) rfl ⟨_, rfl, rfl⟩ rfl rfl (Nat.zero_le _) (Nat.zero_le _) ?_
        refine s_Tally_add (fun I4 f1 f2 f3 => ?_)
        dsimp only [pushR]
        obtain ⟨r1, r2, r3, r4⟩ := hfin I3 (m1.tr m3) (m4.trans m2)
        rw [← r4] at hW
        refine J97 I4 (fun x hx => by rw [f1 x (by omega)]; exact r1 x hx) (tr_keep2 r2 (fun x hx => f1 x (by omega))) (fun k hk k1 k2 => by rw [f1 81 (by decide)]; exact r3 k hk k1 k2) ⟨_, _, hW, fun _ => ?_, fun z => absurd (show okRs (lnD I 4) i j p q (5 * a + b) by unfold okRs; rw [ed, em]; exact ⟨hn1, hn2⟩) z⟩
        show I4 89 0 = I3 89 0 + 1 ∧ I4 89 1 = if I3 89 0 = 0 then nI (10 * ((5 * a + b) / 5) + (5 * a + b) % 5) else I3 89 1
        rw [ed, em]
        exact ⟨f2, f3⟩
      · dsimp only [pushR]
        rw [m1.d4, eD1, m2, near_ext hj hbt] at hn2
        refine x_if_eq cK_seekRests_80 (fun _ => ?_) (fun q => absurd rfl q)
        obtain ⟨r1, r2, r3, r4⟩ := hfin I3 (m1.tr m3) (m4.trans m2)
        rw [← r4] at hW
        exact J97 I3 r1 r2 r3 ⟨_, _, hW, fun z => absurd (show Near (lnD I 4) (upd (upd (dB (lnD I 4)) i (lw a)) j (lw b)) j q by have z2 : okRs (lnD I 4) i j p q (5 * a + b) := z; unfold okRs at z2; rw [ed, em] at z2; exact z2.2) hn2, fun _ => ⟨rfl, rfl⟩⟩
    · dsimp only [pushR]
      rw [eD1, near_ext hi hbt] at hn1
      refine x_if_eq cK_seekRests_70 (fun _ => ?_) (fun q => absurd rfl q)
      obtain ⟨r1, r2, r3, r4⟩ := hfin I2 m1 m2
      rw [← r4] at hW
      exact J97 I2 r1 r2 r3 ⟨_, _, hW, fun z => absurd (show Near (lnD I 4) (upd (upd (dB (lnD I 4)) i (lw a)) j (lw b)) i p by have z2 : okRs (lnD I 4) i j p q (5 * a + b) := z; unfold okRs at z2; rw [ed, em] at z2; exact z2.1) hn1, fun _ => ⟨rfl, rfl⟩⟩
theorem s_rests_out {Po : Option Value → HS → Prop} {I : IT} {J : JT} {P : PT} {c i j : Nat} {p q : Int32} (hc5 : c ≤ 5) (hi : i < c) (hj : j < c) (hij : ¬ i = j) (hq : ∀ I', SameC I I' → Tl (okRs (lnD I 4) i j p q) 25 (I' 89 0) (I' 89 1) → Po none (hp I' J P)) : ∀ n a, a + n = 5 → ∀ I', SameC I I' → TrOk I' c 81 → (∀ k, k < c → k ≠ i → k ≠ j → I' 81 k = I 6 k) → Tl (okRs (lnD I 4) i j p q) (5 * a) (I' 89 0) (I' 89 1) → ∀ g, xj yK_seekRests (mG yK_seekRests Po) 22 [some (.ref 1), some (.int (nI i)), some (.int (nI j)), some (.int p), some (.int q), some (.int (lw a)), g] [] (hp I' J P) 0 0 := by
  intro n
  induction n with
  | zero =>
    intro a ha I' hS hT h6 hW g
    obtain rfl : a = 5 := by omega
    refine x_iload_5 cK_seekRests_22 ?_
    refine x_iconst 2 (by decide) cK_seekRests_24 ?_
    refine x_icmp_gt cK_seekRests_25 (fun q25 => ?_) (fun q25 => absurd q25 (fun z => z (by decide)))
    refine x_return cK_seekRests_109 rfl (Nat.zero_le _) (Nat.zero_le _) ?_
    exact hq I' hS hW
  | succ n ih =>
    intro a ha I' hS hT h6 hW g
    have ha5 : a < 5 := by omega
    refine x_iload_5 cK_seekRests_22 ?_
    refine x_iconst 2 (by decide) cK_seekRests_24 ?_
    refine x_icmp_gt cK_seekRests_25 (fun q25 => absurd q25 (fun z => absurd ((lw_gt a (by omega)).mp z) (by omega))) (fun q25 => ?_)
    refine x_bipush (-2) (by decide) cK_seekRests_28 ?_
    refine x_istore_6 cK_seekRests_30 rfl (Nat.le_of_ble_eq_true rfl) ?_
    refine s_rests_in hc5 hi hj hij ha5 (fun I2 kS kT k6 kW g2 => ?_) 5 0 (by omega) I' hS hT h6 hW
    refine x_iinc_5 (lw (a + 1)) cK_seekRests_103 rfl (lw_inc a) (Nat.le_of_ble_eq_true rfl) ?_
    refine x_goto cK_seekRests_106 ?_
    exact ih (a + 1) (by omega) I2 kS kT k6 kW _
theorem s_seekRests {Po : Option Value → HS → Prop} {I : IT} {J : JT} {P : PT} {c i j : Nat} {p q : Int32} (hc : I 4 0 = nI c) (hc5 : c ≤ 5) (hi : i < c) (hj : j < c) (hij : ¬ i = j) (hq : ∀ I', SameC I I' → Tl (okRs (lnD I 4) i j p q) 25 (I' 89 0) (I' 89 1) → Po none (hp I' J P)) : xj yK_seekRests (mG yK_seekRests Po) 0 [some (.ref 1), some (.int (nI i)), some (.int (nI j)), some (.int p), some (.int q), none, none] [] (hp I J P) 0 0 := by
  refine x_aload_0 cK_seekRests_0 ?_
  refine x_gR (b := 89) cK_seekRests_1 fK_80 rfl rfl rfl ?_
  refine x_v0 (ls0 := [some _]) cK_seekRests_4 kK_296 okTally_clear ⟨(Nat.le_of_ble_eq_true rfl), (Nat.le_of_ble_eq_true rfl)⟩ (Nat.le_of_ble_eq_true rfl) rfl (Nat.le_of_ble_eq_true rfl) rfl ⟨_, rfl, rfl⟩ rfl rfl (Nat.zero_le _) (Nat.zero_le _) ?_
  refine s_Tally_clear ?_
  dsimp only [pushR]
  refine x_aload_0 cK_seekRests_7 ?_
  refine x_gR (b := 79) cK_seekRests_8 fK_53 rfl rfl rfl ?_
  refine x_aload_0 cK_seekRests_11 ?_
  refine x_gR (b := 4) cK_seekRests_12 fK_19 rfl rfl rfl ?_
  refine x_v1 (ls0 := [some _, some _]) cK_seekRests_15 kK_239 okLine_take ⟨(Nat.le_of_ble_eq_true rfl), (Nat.le_of_ble_eq_true rfl)⟩ (Nat.le_of_ble_eq_true rfl) rfl (Nat.le_of_ble_eq_true rfl) rfl ⟨_, rfl, rfl⟩ rfl rfl (Nat.zero_le _) (Nat.zero_le _) ?_
  refine s_take (A := 79) (B := 4) (c := c) ln_79 ln_4 (by decide) (by rw [u2_n (by decide), u2_n (by decide)]; exact hc) hc5 (fun I1 hC => ?_)
  obtain ⟨c1, c2, c3, c4⟩ := hC
  have hz : ∀ x, x ≠ 89 → u2 (u2 I 89 0 0) 89 1 (-9) x = I x := fun x hx => by rw [u2_n hx, u2_n hx]
  have k4 : ∀ x, x < 79 → I1 x = I x := fun x hx => by rw [c1 x (by omega) (by omega) (by omega) (by omega), hz x (by omega)]
  dsimp only [pushR]
  refine x_bipush (-2) (by decide) cK_seekRests_18 ?_
  refine x_istore_5 cK_seekRests_20 rfl (Nat.le_of_ble_eq_true rfl) ?_
  refine s_rests_out (I := I) hc5 hi hj hij hq 5 0 (by omega) I1 (fun x hx => by rw [c1 x (by omega) (by omega) (by omega) (by omega), hz x (by omega)]) ⟨c2, fun j1 h1 h2 => ?_, fun k hk => ?_⟩ (fun k hk _ _ => ?_) ?_ _
  · rw [k4 4 (by decide), c3 j1 h1 h2, hz 4 (by decide)]
  · have := c4 k hk
    rw [hz (4 + 1) (by decide), hz (4 + 2) (by decide), hz (4 + 3) (by decide)] at this
    rw [k4 5 (by decide), k4 6 (by decide), k4 7 (by decide)]
    exact ⟨Or.inr this.1, Or.inl rfl, this.2.2⟩
  · have := (c4 k hk).2.1
    rw [hz (4 + 2) (by decide)] at this
    exact this
  · rw [c1 89 (by decide) (by decide) (by decide) (by decide), u2_ss, u2_sn (by decide), u2_ss]
    exact ⟨rfl, rfl⟩
def RRests (D : LD) (c : Nat) (k o p q w r : Int32) : Prop :=
  (¬ ((∃ i, i < c ∧ k = nI i) ∧ ∃ j, j < c ∧ o = nI j) → r = -1) ∧ ∀ i j, i < c → j < c → k = nI i → o = nI j →
    ((i = j ∨ ¬ (-20 ≤ p ∧ p ≤ 20) ∨ ¬ (-20 ≤ q ∧ q ≤ 20) ∨ ¬ (w = 0 ∨ w = 1)) → r = -2) ∧
    (¬ (i = j ∨ ¬ (-20 ≤ p ∧ p ≤ 20) ∨ ¬ (-20 ≤ q ∧ q ≤ 20) ∨ ¬ (w = 0 ∨ w = 1)) → ∃ n f, Tl (okRs D i j p q) 25 n f ∧ (w = 0 → r = n) ∧ (¬ w = 0 → r = f))
theorem k_rests {Po : Option Value → HS → Prop} {I : IT} {J : JT} {P : PT} {c : Nat} {k o p q w : Int32} (hc : I 4 0 = nI c) (hc5 : c ≤ 5) (hq : ∀ (r : Int32) (I' : IT), RRests (lnD I 4) c k o p q w r → SameC I I' → Po (some (.int r)) (hp I' J P)) : xj yK_rests (mG yK_rests Po) 0 [some (.ref 1), some (.int k), some (.int o), some (.int p), some (.int q), some (.int w), none] [] (hp I J P) 0 0 := by
  refine x_aload_0 cK_rests_0 ?_
  refine x_gR (b := 4) cK_rests_1 fK_19 rfl rfl rfl ?_
  refine x_iload_1 cK_rests_4 ?_
  refine x_v1 (ls0 := [some _, some _]) cK_rests_5 kK_132 okLine_has ⟨(Nat.le_of_ble_eq_true rfl), (Nat.le_of_ble_eq_true rfl)⟩ (Nat.le_of_ble_eq_true rfl) rfl (Nat.le_of_ble_eq_true rfl) rfl ⟨_, rfl, rfl⟩ rfl rfl (Nat.zero_le _) (Nat.zero_le _) ?_
  refine s_has ln_4 hc hc5 (fun i hi ei => ?_) (fun hno => ?_)
  · dsimp only [pushR]
    subst ei
    refine x_if_eq cK_rests_8 (fun q => absurd q (by decide)) (fun _ => ?_)
    refine x_aload_0 cK_rests_11 ?_
    refine x_gR (b := 4) cK_rests_12 fK_19 rfl rfl rfl ?_
    refine x_iload_2 cK_rests_15 ?_
    refine x_v1 (ls0 := [some _, some _]) cK_rests_16 kK_132 okLine_has ⟨(Nat.le_of_ble_eq_true rfl), (Nat.le_of_ble_eq_true rfl)⟩ (Nat.le_of_ble_eq_true rfl) rfl (Nat.le_of_ble_eq_true rfl) rfl ⟨_, rfl, rfl⟩ rfl rfl (Nat.zero_le _) (Nat.zero_le _) ?_
    refine s_has ln_4 hc hc5 (fun j hj ej => ?_) (fun hno => ?_)
    · dsimp only [pushR]
      subst ej
      refine x_if_ne cK_rests_19 (fun _ => ?_) (fun q => absurd q (by decide))
      refine x_iload_3 cK_rests_24 ?_
      refine x_bipush 20 (by decide) cK_rests_25 ?_
      refine x_s2 (ls0 := [some _, some _]) cK_rests_27 kK_156 okK_within ⟨(Nat.le_of_ble_eq_true rfl), (Nat.le_of_ble_eq_true rfl)⟩ (Nat.le_of_ble_eq_true rfl) rfl (Nat.le_of_ble_eq_true rfl) rfl rfl (Nat.zero_le _) (Nat.zero_le _) ?_
      refine s_within (fun hp1 => ?_) (fun hp1 => ?_)
      · dsimp only [pushR]
        refine x_if_eq cK_rests_30 (fun q => absurd q (by decide)) (fun _ => ?_)
        refine x_iload_4 cK_rests_33 ?_
        refine x_bipush 20 (by decide) cK_rests_35 ?_
        refine x_s2 (ls0 := [some _, some _]) cK_rests_37 kK_156 okK_within ⟨(Nat.le_of_ble_eq_true rfl), (Nat.le_of_ble_eq_true rfl)⟩ (Nat.le_of_ble_eq_true rfl) rfl (Nat.le_of_ble_eq_true rfl) rfl rfl (Nat.zero_le _) (Nat.zero_le _) ?_
        refine s_within (fun hp2 => ?_) (fun hp2 => ?_)
        · dsimp only [pushR]
          refine x_if_eq cK_rests_40 (fun q => absurd q (by decide)) (fun _ => ?_)
          refine x_iconst 1 (by decide) cK_rests_43 ?_
          refine x_goto cK_rests_44 ?_
          refine x_istore_6 cK_rests_48 rfl (Nat.le_of_ble_eq_true rfl) ?_
          refine x_iload_1 cK_rests_50 ?_
          refine x_iload_2 cK_rests_51 ?_
          refine x_icmp_eq cK_rests_52 (fun q52 => ?_) (fun q52 => ?_)
          · have hij : i = j := (nI_eq (by omega) (by omega)).mp q52
            refine x_bipush (-2) (by decide) cK_rests_68 ?_
            refine x_ireturn cK_rests_70 rfl rfl (Nat.zero_le _) (Nat.zero_le _) ?_
            refine hq _ _ ⟨fun z => absurd ⟨⟨i, hi, rfl⟩, j, hj, rfl⟩ z, fun i2 j2 hi2 hj2 e1 e2 => ?_⟩ SameC.rf
            obtain rfl := (nI_one hc5 hi rfl hi2 e1).symm
            obtain rfl := (nI_one hc5 hj rfl hj2 e2).symm
            exact ⟨fun _ => rfl, fun z => absurd (Or.inl hij) z⟩
          · have hij : ¬ i = j := fun z => q52 (by rw [z])
            refine x_iload_6 cK_rests_55 ?_
            refine x_if_eq cK_rests_57 (fun q => absurd q (by decide)) (fun _ => ?_)
            refine x_iload_5 cK_rests_60 ?_
            refine x_s1 (ls0 := [some _]) cK_rests_62 kK_177 okK_isFirstOrSecond ⟨(Nat.le_of_ble_eq_true rfl), (Nat.le_of_ble_eq_true rfl)⟩ (Nat.le_of_ble_eq_true rfl) rfl (Nat.le_of_ble_eq_true rfl) rfl rfl (Nat.zero_le _) (Nat.zero_le _) ?_
            refine s_isFirstOrSecond (fun hw => ?_) (fun hw => ?_)
            · dsimp only [pushR]
              refine x_if_ne cK_rests_65 (fun _ => ?_) (fun q => absurd q (by decide))
              refine x_aload_0 cK_rests_71 ?_
              refine x_iload_1 cK_rests_72 ?_
              refine x_iload_2 cK_rests_73 ?_
              refine x_iload_3 cK_rests_74 ?_
              refine x_iload_4 cK_rests_75 ?_
              refine x_v4 (ls0 := [some _, some _, some _, some _, some _, none, none]) cK_rests_77 kK_232 okK_seekRests ⟨(Nat.le_of_ble_eq_true rfl), (Nat.le_of_ble_eq_true rfl)⟩ (Nat.le_of_ble_eq_true rfl) rfl (Nat.le_of_ble_eq_true rfl) rfl ⟨_, rfl, rfl⟩ rfl rfl (Nat.zero_le _) (Nat.zero_le _) ?_
              refine s_seekRests hc hc5 hi hj hij (fun I1 hS hW => ?_)
              dsimp only [pushR]
              refine x_iload_5 cK_rests_80 ?_
              refine x_if_ne cK_rests_82 (fun q82 => ?_) (fun q82 => ?_)
              · refine x_aload_0 cK_rests_95 ?_
                refine x_gR (b := 89) cK_rests_96 fK_80 rfl rfl rfl ?_
                refine x_gI cK_rests_99 fK_229 rfl rfl ?_
                refine x_ireturn cK_rests_102 rfl rfl (Nat.zero_le _) (Nat.zero_le _) ?_
                refine hq _ _ ⟨fun z => absurd ⟨⟨i, hi, rfl⟩, j, hj, rfl⟩ z, fun i2 j2 hi2 hj2 e1 e2 => ?_⟩ hS
                obtain rfl := (nI_one hc5 hi rfl hi2 e1).symm
                obtain rfl := (nI_one hc5 hj rfl hj2 e2).symm
                exact ⟨fun z => (z.elim hij (fun z => z.elim (fun z => z hp1) (fun z => z.elim (fun z => z hp2) (fun z => z hw)))).elim, fun _ => ⟨_, _, hW, fun z => absurd z q82, fun _ => rfl⟩⟩
              · refine x_aload_0 cK_rests_85 ?_
                refine x_gR (b := 89) cK_rests_86 fK_80 rfl rfl rfl ?_
                refine x_gI cK_rests_89 fK_228 rfl rfl ?_
                refine x_goto cK_rests_92 ?_
                refine x_ireturn cK_rests_102 rfl rfl (Nat.zero_le _) (Nat.zero_le _) ?_
                refine hq _ _ ⟨fun z => absurd ⟨⟨i, hi, rfl⟩, j, hj, rfl⟩ z, fun i2 j2 hi2 hj2 e1 e2 => ?_⟩ hS
                obtain rfl := (nI_one hc5 hi rfl hi2 e1).symm
                obtain rfl := (nI_one hc5 hj rfl hj2 e2).symm
                exact ⟨fun z => (z.elim hij (fun z => z.elim (fun z => z hp1) (fun z => z.elim (fun z => z hp2) (fun z => z hw)))).elim, fun _ => ⟨_, _, hW, fun _ => rfl, fun z => absurd q82 z⟩⟩
            · dsimp only [pushR]
              refine x_if_ne cK_rests_65 (fun q => absurd rfl q) (fun _ => ?_)
              refine x_bipush (-2) (by decide) cK_rests_68 ?_
              refine x_ireturn cK_rests_70 rfl rfl (Nat.zero_le _) (Nat.zero_le _) ?_
              refine hq _ _ ⟨fun z => absurd ⟨⟨i, hi, rfl⟩, j, hj, rfl⟩ z, fun i2 j2 hi2 hj2 e1 e2 => ?_⟩ SameC.rf
              obtain rfl := (nI_one hc5 hi rfl hi2 e1).symm
              obtain rfl := (nI_one hc5 hj rfl hj2 e2).symm
              exact ⟨fun _ => rfl, fun z => absurd (Or.inr (Or.inr (Or.inr hw))) z⟩
        · dsimp only [pushR]
          refine x_if_eq cK_rests_40 (fun _ => ?_) (fun q => absurd rfl q)
          refine x_iconst 0 (by decide) cK_rests_47 ?_
          refine x_istore_6 cK_rests_48 rfl (Nat.le_of_ble_eq_true rfl) ?_
          refine x_iload_1 cK_rests_50 ?_
          refine x_iload_2 cK_rests_51 ?_
          refine x_icmp_eq cK_rests_52 (fun q52 => ?_) (fun q52 => ?_)
          · have hij : i = j := (nI_eq (by omega) (by omega)).mp q52
            refine x_bipush (-2) (by decide) cK_rests_68 ?_
            refine x_ireturn cK_rests_70 rfl rfl (Nat.zero_le _) (Nat.zero_le _) ?_
            refine hq _ _ ⟨fun z => absurd ⟨⟨i, hi, rfl⟩, j, hj, rfl⟩ z, fun i2 j2 hi2 hj2 e1 e2 => ?_⟩ SameC.rf
            obtain rfl := (nI_one hc5 hi rfl hi2 e1).symm
            obtain rfl := (nI_one hc5 hj rfl hj2 e2).symm
            exact ⟨fun _ => rfl, fun z => absurd (Or.inl hij) z⟩
          · have hij : ¬ i = j := fun z => q52 (by rw [z])
            refine x_iload_6 cK_rests_55 ?_
            refine x_if_eq cK_rests_57 (fun _ => ?_) (fun q => absurd rfl q)
            refine x_bipush (-2) (by decide) cK_rests_68 ?_
            refine x_ireturn cK_rests_70 rfl rfl (Nat.zero_le _) (Nat.zero_le _) ?_
            refine hq _ _ ⟨fun z => absurd ⟨⟨i, hi, rfl⟩, j, hj, rfl⟩ z, fun i2 j2 hi2 hj2 e1 e2 => ?_⟩ SameC.rf
            obtain rfl := (nI_one hc5 hi rfl hi2 e1).symm
            obtain rfl := (nI_one hc5 hj rfl hj2 e2).symm
            exact ⟨fun _ => rfl, fun z => absurd (Or.inr (Or.inr (Or.inl hp2))) z⟩
      · dsimp only [pushR]
        refine x_if_eq cK_rests_30 (fun _ => ?_) (fun q => absurd rfl q)
        refine x_iconst 0 (by decide) cK_rests_47 ?_
        refine x_istore_6 cK_rests_48 rfl (Nat.le_of_ble_eq_true rfl) ?_
        refine x_iload_1 cK_rests_50 ?_
        refine x_iload_2 cK_rests_51 ?_
        refine x_icmp_eq cK_rests_52 (fun q52 => ?_) (fun q52 => ?_)
        · have hij : i = j := (nI_eq (by omega) (by omega)).mp q52
          refine x_bipush (-2) (by decide) cK_rests_68 ?_
          refine x_ireturn cK_rests_70 rfl rfl (Nat.zero_le _) (Nat.zero_le _) ?_
          refine hq _ _ ⟨fun z => absurd ⟨⟨i, hi, rfl⟩, j, hj, rfl⟩ z, fun i2 j2 hi2 hj2 e1 e2 => ?_⟩ SameC.rf
          obtain rfl := (nI_one hc5 hi rfl hi2 e1).symm
          obtain rfl := (nI_one hc5 hj rfl hj2 e2).symm
          exact ⟨fun _ => rfl, fun z => absurd (Or.inl hij) z⟩
        · have hij : ¬ i = j := fun z => q52 (by rw [z])
          refine x_iload_6 cK_rests_55 ?_
          refine x_if_eq cK_rests_57 (fun _ => ?_) (fun q => absurd rfl q)
          refine x_bipush (-2) (by decide) cK_rests_68 ?_
          refine x_ireturn cK_rests_70 rfl rfl (Nat.zero_le _) (Nat.zero_le _) ?_
          refine hq _ _ ⟨fun z => absurd ⟨⟨i, hi, rfl⟩, j, hj, rfl⟩ z, fun i2 j2 hi2 hj2 e1 e2 => ?_⟩ SameC.rf
          obtain rfl := (nI_one hc5 hi rfl hi2 e1).symm
          obtain rfl := (nI_one hc5 hj rfl hj2 e2).symm
          exact ⟨fun _ => rfl, fun z => absurd (Or.inr (Or.inl hp1)) z⟩
    · dsimp only [pushR]
      refine x_if_ne cK_rests_19 (fun q => absurd rfl q) (fun _ => ?_)
      refine x_iconst (-1) (by decide) cK_rests_22 ?_
      refine x_ireturn cK_rests_23 rfl rfl (Nat.zero_le _) (Nat.zero_le _) ?_
      exact hq _ _ ⟨fun _ => rfl, fun i2 j2 _ hj2 _ e2 => absurd ⟨j2, hj2, e2⟩ hno⟩ SameC.rf
  · dsimp only [pushR]
    refine x_if_eq cK_rests_8 (fun _ => ?_) (fun q => absurd rfl q)
    refine x_iconst (-1) (by decide) cK_rests_22 ?_
    refine x_ireturn cK_rests_23 rfl rfl (Nat.zero_le _) (Nat.zero_le _) ?_
    exact hq _ _ ⟨fun _ => rfl, fun i2 j2 hi2 _ e1 _ => absurd ⟨i2, hi2, e1⟩ hno⟩ SameC.rf
