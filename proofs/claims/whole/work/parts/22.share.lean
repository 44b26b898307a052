def fct : Nat → Nat
  | 0 => 1
  | n + 1 => fct n * (n + 1)
theorem s_orders_loop {Po : Option Value → HS → Prop} {h : HS} {k : Nat} (hk5 : k ≤ 5) (hq : Po (some (.int (nI (fct k)))) h) : ∀ n f, f + n = 6 → 2 ≤ f → (k < f → fct (f - 1) = fct k) → xj yK_orders (mG yK_orders Po) 4 [some (.int (nI k)), some (.int (nI (fct (f - 1)))), some (.int (nI f))] [] h 0 0 := by
  intro n
  induction n with
  | zero =>
    intro f hf h2 he
    have e := he (by omega)
    refine x_iload_2 cK_orders_4 ?_
    refine x_iload_0 cK_orders_5 ?_
    refine x_icmp_gt cK_orders_6 (fun q6 => ?_) (fun q6 => absurd q6 (fun z => z (nI_lt (by omega) (by omega))))
    refine x_iload_1 cK_orders_24 ?_
    refine x_ireturn cK_orders_25 rfl rfl (Nat.zero_le _) (Nat.zero_le _) ?_
    rw [e]; exact hq
  | succ n ih =>
    intro f hf h2 he
    refine x_iload_2 cK_orders_4 ?_
    refine x_iload_0 cK_orders_5 ?_
    refine x_icmp_gt cK_orders_6 (fun q6 => ?_) (fun q6 => ?_)
    · have e := he ((nI_ltI (by omega) (by omega)).mp q6)
      refine x_iload_1 cK_orders_24 ?_
      refine x_ireturn cK_orders_25 rfl rfl (Nat.zero_le _) (Nat.zero_le _) ?_
      rw [e]; exact hq
    · have hfk : f ≤ k := Nat.not_lt.mp (fun z => q6 (nI_lt z (by omega)))
      refine x_iload_2 cK_orders_9 ?_
      refine x_iconst 5 (by decide) cK_orders_10 ?_
      refine x_icmp_gt cK_orders_11 (fun q11 => absurd q11 (nI_nlt (b := f) (a := 5) (by omega) (by decide))) (fun q11 => ?_)
      refine x_iload_1 cK_orders_14 ?_
      refine x_iload_2 cK_orders_15 ?_
      refine x_imul cK_orders_16 ?_
      refine x_top (nI (fct f)) (by
        obtain ⟨d, rfl⟩ : ∃ d, f = d + 1 := ⟨f - 1, by omega⟩
        rw [pk_mul]; rfl) ?_
      refine x_istore_1 cK_orders_17 rfl (Nat.le_of_ble_eq_true rfl) ?_
      refine x_iinc_2 (nI (f + 1)) cK_orders_18 rfl (nI_inc f) (Nat.le_of_ble_eq_true rfl) ?_
      refine x_goto cK_orders_21 ?_
      have := ih (f + 1) (by omega) (by omega) (fun z => by
        obtain rfl : f = k := by omega
        rfl)
      exact this
theorem s_orders {Po : Option Value → HS → Prop} {h : HS} {k : Nat} (hk5 : k ≤ 5) (hq : Po (some (.int (nI (fct k)))) h) : xj yK_orders (mG yK_orders Po) 0 [some (.int (nI k)), none, none] [] h 0 0 := by
  refine x_iconst 1 (by decide) cK_orders_0 ?_
  refine x_istore_1 cK_orders_1 rfl (Nat.le_of_ble_eq_true rfl) ?_
  refine x_iconst 2 (by decide) cK_orders_2 ?_
  refine x_istore_2 cK_orders_3 rfl (Nat.le_of_ble_eq_true rfl) ?_
  exact s_orders_loop hk5 hq 4 2 (by omega) (by omega) (fun z => by
    rcases (show k = 0 ∨ k = 1 by omega) with rfl | rfl <;> rfl)
def bcE (x : Int32) : Int32 :=
  let us := fun (a b : Int32) => (a.toUInt32 >>> (b.toUInt32 &&& Int32.toUInt32 31)).toInt32
  let x1 := x - (us x 1 &&& 1431655765)
  let x2 := (x1 &&& 858993459) + (us x1 2 &&& 858993459)
  let x3 := (x2 + us x2 4) &&& 252645135
  let x4 := x3 + us x3 8
  let x5 := x4 + us x4 16
  x5 &&& 63
def popc (m : Nat) : Nat := (List.range 5).foldl (fun a k => a + m / 2 ^ k % 2) 0
theorem bcE_n : ∀ m, m < 32 → bcE (nI m) = nI (popc m) := by decide +kernel
theorem s_bitCount {Po : Option Value → HS → Prop} {x : Int32} {h : HS} (hq : Po (some (.int (bcE x))) h) : xj yInt_bitCount (mG yInt_bitCount Po) 0 [some (.int x)] [] h 0 0 := by
  refine x_iload_0 cInt_bitCount_0 ?_
  refine x_iload_0 cInt_bitCount_1 ?_
  refine x_iconst 1 (by decide) cInt_bitCount_2 ?_
  refine x_iushr cInt_bitCount_3 ?_
  refine x_ldcw cInt_bitCount_4 qInt_265 ?_
  refine x_iand cInt_bitCount_7 ?_
  refine x_isub cInt_bitCount_8 ?_
  refine x_istore_0 cInt_bitCount_9 (Nat.le_of_ble_eq_true rfl) ?_
  refine x_iload_0 cInt_bitCount_10 ?_
  refine x_ldcw cInt_bitCount_11 qInt_266 ?_
  refine x_iand cInt_bitCount_14 ?_
  refine x_iload_0 cInt_bitCount_15 ?_
  refine x_iconst 2 (by decide) cInt_bitCount_16 ?_
  refine x_iushr cInt_bitCount_17 ?_
  refine x_ldcw cInt_bitCount_18 qInt_266 ?_
  refine x_iand cInt_bitCount_21 ?_
  refine x_iadd cInt_bitCount_22 ?_
  refine x_istore_0 cInt_bitCount_23 (Nat.le_of_ble_eq_true rfl) ?_
  refine x_iload_0 cInt_bitCount_24 ?_
  refine x_iload_0 cInt_bitCount_25 ?_
  refine x_iconst 4 (by decide) cInt_bitCount_26 ?_
  refine x_iushr cInt_bitCount_27 ?_
  refine x_iadd cInt_bitCount_28 ?_
  refine x_ldcw cInt_bitCount_29 qInt_267 ?_
  refine x_iand cInt_bitCount_32 ?_
  refine x_istore_0 cInt_bitCount_33 (Nat.le_of_ble_eq_true rfl) ?_
  refine x_iload_0 cInt_bitCount_34 ?_
  refine x_iload_0 cInt_bitCount_35 ?_
  refine x_bipush 8 (by decide) cInt_bitCount_36 ?_
  refine x_iushr cInt_bitCount_38 ?_
  refine x_iadd cInt_bitCount_39 ?_
  refine x_istore_0 cInt_bitCount_40 (Nat.le_of_ble_eq_true rfl) ?_
  refine x_iload_0 cInt_bitCount_41 ?_
  refine x_iload_0 cInt_bitCount_42 ?_
  refine x_bipush 16 (by decide) cInt_bitCount_43 ?_
  refine x_iushr cInt_bitCount_45 ?_
  refine x_iadd cInt_bitCount_46 ?_
  refine x_istore_0 cInt_bitCount_47 (Nat.le_of_ble_eq_true rfl) ?_
  refine x_iload_0 cInt_bitCount_48 ?_
  refine x_bipush 63 (by decide) cInt_bitCount_49 ?_
  refine x_iand cInt_bitCount_51 ?_
  refine x_ireturn cInt_bitCount_52 rfl rfl (Nat.zero_le _) (Nat.zero_le _) ?_
  exact hq
theorem s_gcd_loop {Po : Option Value → HS → Prop} {h : HS} {x1 x2 : Int32} {d : Nat} (hq : Po (some (.int (nI d))) h) : ∀ m s g l, s + m = 100 → l < g → g * l < 2 ^ m → g < 2 ^ 31 → Nat.gcd g l = d → ∀ g5, xj yK_commonDivisor (mG yK_commonDivisor Po) 7 [some (.int x1), some (.int x2), some (.int (nI g)), some (.int (nI l)), some (.int (nI s)), g5] [] h 0 0 := by
  intro m
  induction m with
  | zero =>
    intro s g l hs hlg hgl hg hd g5
    obtain rfl : s = 100 := by omega
    obtain rfl : l = 0 := by
      rcases Nat.eq_zero_or_pos l with e | e
      · exact e
      · have := Nat.mul_le_mul_left g e
        omega
    refine x_iload_4 cK_commonDivisor_7 ?_
    refine x_bipush 100 (by decide) cK_commonDivisor_9 ?_
    refine x_icmp_ge cK_commonDivisor_11 (fun q11 => ?_) (fun q11 => absurd q11 (fun z => z (Int32.le_refl _)))
    refine x_iload_2 cK_commonDivisor_34 ?_
    refine x_ireturn cK_commonDivisor_35 rfl rfl (Nat.zero_le _) (Nat.zero_le _) ?_
    rw [Nat.gcd_zero_right] at hd; rw [hd]; exact hq
  | succ m ih =>
    intro s g l hs hlg hgl hg hd g5
    refine x_iload_4 cK_commonDivisor_7 ?_
    refine x_bipush 100 (by decide) cK_commonDivisor_9 ?_
    refine x_icmp_ge cK_commonDivisor_11 (fun q11 => absurd q11 (nI_ge (a := s) (b := 100) (by omega) (by decide))) (fun q11 => ?_)
    refine x_iload_3 cK_commonDivisor_14 ?_
    refine x_if_eq cK_commonDivisor_15 (fun q15 => ?_) (fun q15 => ?_)
    · have l0 : l = 0 := (nI_eq (by omega) (by decide)).mp q15
      refine x_iload_2 cK_commonDivisor_34 ?_
      refine x_ireturn cK_commonDivisor_35 rfl rfl (Nat.zero_le _) (Nat.zero_le _) ?_
      subst l0
      rw [Nat.gcd_zero_right] at hd; rw [hd]; exact hq
    · have l0 : 0 < l := Nat.pos_of_ne_zero (fun z => q15 (by rw [z]; rfl))
      refine x_iload_2 cK_commonDivisor_18 ?_
      refine x_iload_3 cK_commonDivisor_19 ?_
      refine x_irem (fun z => q15 z) cK_commonDivisor_20 ?_
      refine x_top (nI (g % l)) (pk_rem hg l0 (by omega)) ?_
      refine x_istore_5 cK_commonDivisor_21 rfl (Nat.le_of_ble_eq_true rfl) ?_
      refine x_iload_3 cK_commonDivisor_23 ?_
      refine x_istore_2 cK_commonDivisor_24 rfl (Nat.le_of_ble_eq_true rfl) ?_
      refine x_iload_5 cK_commonDivisor_25 ?_
      refine x_istore_3 cK_commonDivisor_27 rfl (Nat.le_of_ble_eq_true rfl) ?_
      refine x_iinc_4 (nI (s + 1)) cK_commonDivisor_28 rfl (nI_inc s) (Nat.le_of_ble_eq_true rfl) ?_
      refine x_goto cK_commonDivisor_31 ?_
      have hml := Nat.mod_lt g l0
      refine ih (s + 1) l (g % l) (by omega) hml ?_ (by omega) (by rw [← hd, Nat.gcd_comm g l, Nat.gcd_rec l g, Nat.gcd_comm]) _
      have h3 : 2 * (g % l) ≤ g := by
        have h4 := Nat.div_add_mod g l
        have h5 : 1 ≤ g / l := (Nat.le_div_iff_mul_le l0).mpr (by omega)
        have h6 := Nat.mul_le_mul_left l h5
        omega
      have h7 := Nat.mul_le_mul_left l h3
      rw [Nat.pow_succ] at hgl
      have h8 : l * (2 * (g % l)) = 2 * (l * (g % l)) := by rw [Nat.mul_left_comm]
      rw [Nat.mul_comm g l] at hgl
      omega
theorem s_gcd {Po : Option Value → HS → Prop} {h : HS} {a b : Nat} (ha : a < 2 ^ 31) (hb0 : 0 < b) (hb : b < 1000) (hq : Po (some (.int (nI (Nat.gcd a b)))) h) : xj yK_commonDivisor (mG yK_commonDivisor Po) 0 [some (.int (nI a)), some (.int (nI b)), none, none, none, none] [] h 0 0 := by
  refine x_iload_0 cK_commonDivisor_0 ?_
  refine x_istore_2 cK_commonDivisor_1 rfl (Nat.le_of_ble_eq_true rfl) ?_
  refine x_iload_1 cK_commonDivisor_2 ?_
  refine x_istore_3 cK_commonDivisor_3 rfl (Nat.le_of_ble_eq_true rfl) ?_
  refine x_iconst 0 (by decide) cK_commonDivisor_4 ?_
  refine x_istore_4 cK_commonDivisor_5 rfl (Nat.le_of_ble_eq_true rfl) ?_
  refine x_iload_4 cK_commonDivisor_7 ?_
  refine x_bipush 100 (by decide) cK_commonDivisor_9 ?_
  refine x_icmp_ge cK_commonDivisor_11 (fun q11 => absurd q11 (by decide)) (fun q11 => ?_)
  refine x_iload_3 cK_commonDivisor_14 ?_
  refine x_if_eq cK_commonDivisor_15 (fun q15 => absurd q15 (nI_ne0 hb0 (by omega))) (fun q15 => ?_)
  refine x_iload_2 cK_commonDivisor_18 ?_
  refine x_iload_3 cK_commonDivisor_19 ?_
  refine x_irem (nI_ne0 hb0 (by omega)) cK_commonDivisor_20 ?_
  refine x_top (nI (a % b)) (pk_rem ha hb0 (by omega)) ?_
  refine x_istore_5 cK_commonDivisor_21 rfl (Nat.le_of_ble_eq_true rfl) ?_
  refine x_iload_3 cK_commonDivisor_23 ?_
  refine x_istore_2 cK_commonDivisor_24 rfl (Nat.le_of_ble_eq_true rfl) ?_
  refine x_iload_5 cK_commonDivisor_25 ?_
  refine x_istore_3 cK_commonDivisor_27 rfl (Nat.le_of_ble_eq_true rfl) ?_
  refine x_iinc_4 (nI 1) cK_commonDivisor_28 rfl rfl (Nat.le_of_ble_eq_true rfl) ?_
  refine x_goto cK_commonDivisor_31 ?_
  have hml := Nat.mod_lt a hb0
  refine s_gcd_loop hq 99 1 b (a % b) (by omega) hml ?_ (by omega) (by rw [Nat.gcd_comm a b, Nat.gcd_rec b a, Nat.gcd_comm]) _
  have h7 : b * (a % b) ≤ 1000 * 1000 := Nat.mul_le_mul (by omega) (by omega)
  exact Nat.lt_of_le_of_lt h7 (by decide)
theorem s_fraction {Po : Option Value → HS → Prop} {h : HS} {a b : Nat} {x u : Int32} (hx : absI x = nI a) (ha : a < 2 ^ 31) (hb0 : 0 < b) (hb : b < 1000) (h1 : ¬ u = 0 → Po (some (.int (x / nI (Nat.gcd a b)))) h) (h0 : u = 0 → Po (some (.int (nI b / nI (Nat.gcd a b)))) h) : xj yK_fraction (mG yK_fraction Po) 0 [some (.int x), some (.int (nI b)), some (.int u), none] [] h 0 0 := by
  have hg0 : 0 < Nat.gcd a b := Nat.gcd_pos_of_pos_right a hb0
  have hgb : Nat.gcd a b ≤ b := Nat.gcd_le_right a hb0
  have hgn : ¬ nI (Nat.gcd a b) = 0 := nI_ne0 hg0 (by omega)
  refine x_iload_0 cK_fraction_0 ?_
  refine x_s1 (ls0 := [some _]) cK_fraction_1 kK_309 okMath_abs ⟨(Nat.le_of_ble_eq_true rfl), (Nat.le_of_ble_eq_true rfl)⟩ (Nat.le_of_ble_eq_true rfl) rfl (Nat.le_of_ble_eq_true rfl) rfl rfl (Nat.zero_le _) (Nat.zero_le _) ?_
  refine s_abs ?_
  dsimp only [pushR]
  refine x_top (nI a) hx ?_
  refine x_iload_1 cK_fraction_4 ?_
  refine x_s2 (ls0 := [some _, some _, none, none, none, none]) cK_fraction_5 kK_317 okK_commonDivisor ⟨(Nat.le_of_ble_eq_true rfl), (Nat.le_of_ble_eq_true rfl)⟩ (Nat.le_of_ble_eq_true rfl) rfl (Nat.le_of_ble_eq_true rfl) rfl rfl (Nat.zero_le _) (Nat.zero_le _) ?_
  refine s_gcd ha hb0 hb ?_
  dsimp only [pushR]
  refine x_istore_3 cK_fraction_8 rfl (Nat.le_of_ble_eq_true rfl) ?_
  refine x_iload_3 cK_fraction_9 ?_
  refine x_if_gt cK_fraction_10 (fun q10 => ?_) (fun q10 => absurd q10 (fun z => z (nI_lt (a := 0) hg0 (by omega))))
  refine x_iload_2 cK_fraction_15 ?_
  refine x_if_eq cK_fraction_16 (fun q16 => ?_) (fun q16 => ?_)
  · refine x_iload_1 cK_fraction_25 ?_
    refine x_iload_3 cK_fraction_26 ?_
    refine x_idiv hgn cK_fraction_27 ?_
    refine x_ireturn cK_fraction_28 rfl rfl (Nat.zero_le _) (Nat.zero_le _) ?_
    exact h0 q16
  · refine x_iload_0 cK_fraction_19 ?_
    refine x_iload_3 cK_fraction_20 ?_
    refine x_idiv hgn cK_fraction_21 ?_
    refine x_goto cK_fraction_22 ?_
    refine x_ireturn cK_fraction_28 rfl rfl (Nat.zero_le _) (Nat.zero_le _) ?_
    exact h1 q16
/-- the picked kites of a row, one behind the other -/
def pkI (m : Nat) (f : Nat → Int32) : Nat → Nat → Int32
  | 0 => fun _ => 0
  | k + 1 => if m.testBit k then upd (pkI m f k) (sel m k) (f k) else pkI m f k
theorem pkI_sel (m : Nat) (f : Nat → Int32) : ∀ c k, k < c → m.testBit k = true → pkI m f c (sel m k) = f k := by
  intro c
  induction c with
  | zero => intro k hk; omega
  | succ c ih =>
    intro k hk hb
    simp only [pkI]
    by_cases e : k = c
    · subst e
      rw [if_pos hb]
      simp [upd]
    · have h1 := ih k (by omega) hb
      split
      · have h2 := sel_mono m k c (by omega) hb
        have h3 : sel m k ≠ sel m c := by omega
        simp only [upd, if_neg h3]
        exact h1
      · exact h1
def dpk (D : LD) (c m : Nat) : LD := (pkI m (dY D) c, pkI m (dB D) c, pkI m (dT D) c, dLo D, dHi D, dBo D, dFo D)
/-- how many of the shared places are seen if just some kites fly -/
def voI (D : LD) (c m : Nat) : Int32 := VwN (sel m c) (fF (dpk D c m) (sel m c)) (fH (dpk D c m) (sel m c)) (fP (dpk D c m) (sel m c)) 9
theorem vwn_0 (f h p h2 p2 x : Int32) : VwN 0 f h p x = VwN 0 f h2 p2 x := by simp [VwN]
theorem s_viewOf {Po : Option Value → HS → Prop} {I : IT} {J : JT} {P : PT} {c m : Nat} (hc : I 4 0 = nI c) (hc5 : c ≤ 5) (hm : m < 32) (hq : ∀ I', SameC I I' → Po (some (.int (voI (lnD I 4) c m))) (hp I' J P)) : xj yK_viewOf (mG yK_viewOf Po) 0 [some (.ref 1), some (.int (nI m))] [] (hp I J P) 0 0 := by
  have hs5 := sel_le m c
  refine x_aload_0 cK_viewOf_0 ?_
  refine x_gR (b := 79) cK_viewOf_1 fK_53 rfl rfl rfl ?_
  refine x_aload_0 cK_viewOf_4 ?_
  refine x_gR (b := 4) cK_viewOf_5 fK_19 rfl rfl rfl ?_
  refine x_iload_1 cK_viewOf_8 ?_
  refine x_v2 (ls0 := [some _, some _, some _, none, none]) cK_viewOf_9 kK_289 okLine_takeSome ⟨(Nat.le_of_ble_eq_true rfl), (Nat.le_of_ble_eq_true rfl)⟩ (Nat.le_of_ble_eq_true rfl) rfl (Nat.le_of_ble_eq_true rfl) rfl ⟨_, rfl, rfl⟩ rfl rfl (Nat.zero_le _) (Nat.zero_le _) ?_
  refine s_takeSome (A := 79) (B := 4) ln_79 ln_4 (by decide) hm hc hc5 (fun I1 hT => ?_)
  obtain ⟨t1, t2, t3, t4⟩ := hT
  have hLE : LEq (lnD I1 79) (dpk (lnD I 4) c m) (sel m c) := by
    refine ⟨fun j hj => ?_, t3 1 (by decide) (by decide), t3 2 (by decide) (by decide), t3 3 (by decide) (by decide), t3 4 (by decide) (by decide)⟩
    obtain ⟨k, hk, hb, rfl⟩ := sel_surj m c j hj
    obtain ⟨g1, g2, g3⟩ := t4 k hk hb
    show I1 80 _ = pkI m (I 5) c _ ∧ I1 81 _ = pkI m (I 6) c _ ∧ I1 82 _ = pkI m (I 7) c _
    rw [pkI_sel m _ c k hk hb, pkI_sel m _ c k hk hb, pkI_sel m _ c k hk hb]
    exact ⟨g1, g2, g3⟩
  obtain ⟨l1, l2, -, l4⟩ := hLE.fl (sel m c) (Nat.le_refl _)
  dsimp only [pushR]
  refine x_aload_0 cK_viewOf_12 ?_
  refine x_gR (b := 83) cK_viewOf_13 fK_59 rfl rfl rfl ?_
  refine x_aload_0 cK_viewOf_16 ?_
  refine x_gR (b := 79) cK_viewOf_17 fK_53 rfl rfl rfl ?_
  refine x_v1 (ls0 := [some _, some _, none, none, none, none, none, none]) cK_viewOf_20 kK_124 okFlight_follow ⟨(Nat.le_of_ble_eq_true rfl), (Nat.le_of_ble_eq_true rfl)⟩ (Nat.le_of_ble_eq_true rfl) rfl (Nat.le_of_ble_eq_true rfl) rfl ⟨_, rfl, rfl⟩ rfl rfl (Nat.zero_le _) (Nat.zero_le _) ?_
  refine s_follow ln_79 (by decide) (c := sel m c) (by omega) t2 (fun I2 hF => ?_)
  dsimp only [pushR]
  refine x_aload_0 cK_viewOf_23 ?_
  refine x_gR (b := 83) cK_viewOf_24 fK_59 rfl rfl rfl ?_
  refine x_bipush 9 (by decide) cK_viewOf_27 ?_
  refine x_v1 (ls0 := [some _, some _, none, none]) cK_viewOf_29 kK_293 okFlight_viewsWithin ⟨(Nat.le_of_ble_eq_true rfl), (Nat.le_of_ble_eq_true rfl)⟩ (Nat.le_of_ble_eq_true rfl) rfl (Nat.le_of_ble_eq_true rfl) rfl ⟨_, rfl, rfl⟩ rfl rfl (Nat.zero_le _) (Nat.zero_le _) ?_
  refine s_viewsWithin hF.2.1 (by omega) ?_
  dsimp only [pushR]
  refine x_ireturn cK_viewOf_32 rfl rfl (Nat.zero_le _) (Nat.zero_le _) ?_
  have e : VwN (sel m c) (I2 83 3) (I2 84 (sel m c - 1)) (I2 85 (sel m c - 1)) 9 = voI (lnD I 4) c m := by
    unfold voI
    rw [hF.2.2.1, l4]
    by_cases h0 : 0 < sel m c
    · rw [(hF.last h0).1, (hF.last h0).2, l1, l2]
    · rw [show sel m c = 0 by omega]; exact vwn_0 _ _ _ _ _ _
  rw [e]
  exact hq I2 (fun a ha => by rw [hF.1 a (by omega) (by omega) (by omega), t1 a (by omega) (by omega) (by omega) (by omega)])
def shS (D : LD) (c j : Nat) : Nat → Int32
  | 0 => 0
  | m + 1 => if m.testBit j then shS D c j m else shS D c j m + nI (fct (popc m)) * nI (fct (c - 1 - popc m)) * (voI D c (m ||| 2 ^ j) - voI D c m)
theorem bitO : ∀ m, m < 32 → ∀ j, j < 5 → ((nI m &&& ((1 : Int32) <<< (nI j &&& 31))) = 0 ↔ m.testBit j = false) := by decide +kernel
theorem orO : ∀ m, m < 32 → ∀ j, j < 5 → nI m ||| ((1 : Int32) <<< (nI j &&& 31)) = nI (m ||| 2 ^ j) ∧ m ||| 2 ^ j < 32 := by decide +kernel
theorem shO : ∀ c, c ≤ 5 → (1 : Int32) <<< (nI c &&& 31) = nI (2 ^ c) ∧ 2 ^ c ≤ 32 := by decide +kernel
theorem popO : ∀ c, c ≤ 5 → ∀ m, m < 2 ^ c → ∀ j, j < c → m.testBit j = false → popc m + 1 ≤ c := by decide +kernel
def RShare (D : LD) (c : Nat) (i u r : Int32) : Prop := ((¬ ∃ j, j < c ∧ i = nI j) → r = -1) ∧ ∀ j, j < c → i = nI j → ∀ a, a < 2 ^ 31 → absI (shS D c j (2 ^ c)) = nI a → (¬ u = 0 → r = shS D c j (2 ^ c) / nI (Nat.gcd a (fct c))) ∧ (u = 0 → r = nI (fct c) / nI (Nat.gcd a (fct c)))
theorem lnD_4 {I I' : IT} (h : SameC I I') : lnD I' 4 = lnD I 4 := by
  unfold lnD
  rw [h 4 (by decide), h 5 (by decide), h 6 (by decide), h 7 (by decide)]
theorem SameC.tr {I I1 I2 : IT} (h1 : SameC I I1) (h2 : SameC I1 I2) : SameC I I2 := fun a ha => by rw [h2 a ha, h1 a ha]
theorem fctO : ∀ c, c ≤ 5 → 0 < fct c ∧ fct c < 1000 := by decide +kernel
theorem s_share_loop {Po : Option Value → HS → Prop} {I : IT} {J : JT} {P : PT} {c j : Nat} {u r0 : Int32} (hc : I 4 0 = nI c) (hc5 : c ≤ 5) (hj : j < c) (hab : ∃ a, a < 2 ^ 31 ∧ absI (shS (lnD I 4) c j (2 ^ c)) = nI a) (hq : ∀ r I', RShare (lnD I 4) c (nI j) u r → SameC I I' → Po (some (.int r)) (hp I' J P)) : ∀ n m, m + n = 2 ^ c → ∀ I', SameC I I' → ∀ g7 g8, isC2 g7 = false → xj yK_share (mG yK_share Po) 34 [some (.ref 1), some (.int (nI j)), some (.int u), some (.int (nI (2 ^ c))), some (.int ((1 : Int32) <<< (nI j &&& 31))), some (.int (shS (lnD I 4) c j m)), some (.int (nI m)), g7, g8] [] (hp I' J P) 0 0 := by
  have h32 := (shO c hc5).2
  intro n
  induction n with
  | zero =>
    intro m hm I' hS g7 g8 _
    obtain rfl : m = 2 ^ c := by omega
    obtain ⟨a, ha, hxa⟩ := hab
    refine x_iload_6 cK_share_34 ?_
    refine x_iload_3 cK_share_36 ?_
    refine x_icmp_ge cK_share_37 (fun q37 => ?_) (fun q37 => absurd q37 (fun z => z (Int32.le_refl _)))
    refine x_iload_5 cK_share_108 ?_
    refine x_aload_0 cK_share_110 ?_
    refine x_gR (b := 4) cK_share_111 fK_19 rfl rfl rfl ?_
    refine x_gI cK_share_114 fK_106 rfl rfl ?_
    rw [hS 4 (by decide), hc]
    refine x_s1 (ls0 := [some _, none, none]) cK_share_117 kK_198 okK_orders ⟨(Nat.le_of_ble_eq_true rfl), (Nat.le_of_ble_eq_true rfl)⟩ (Nat.le_of_ble_eq_true rfl) rfl (Nat.le_of_ble_eq_true rfl) rfl rfl (Nat.zero_le _) (Nat.zero_le _) ?_
    refine s_orders hc5 ?_
    dsimp only [pushR]
    refine x_iload_2 cK_share_120 ?_
    refine x_s3 (ls0 := [some _, some _, some _, none]) cK_share_121 kK_204 okK_fraction ⟨(Nat.le_of_ble_eq_true rfl), (Nat.le_of_ble_eq_true rfl)⟩ (Nat.le_of_ble_eq_true rfl) rfl (Nat.le_of_ble_eq_true rfl) rfl rfl (Nat.zero_le _) (Nat.zero_le _) ?_
    refine s_fraction hxa ha (fctO c hc5).1 (fctO c hc5).2 (fun hu => ?_) (fun hu => ?_)
    · dsimp only [pushR]
      refine x_ireturn cK_share_124 rfl rfl (Nat.zero_le _) (Nat.zero_le _) ?_
      refine hq _ I' ⟨fun z => absurd ⟨j, hj, rfl⟩ z, fun k hk ek a2 ha2 hxa2 => ?_⟩ hS
      obtain rfl := (nI_one hc5 hj rfl hk ek).symm
      obtain rfl : a2 = a := (nI_eq ha2 ha).mp (hxa2.symm.trans hxa)
      exact ⟨fun _ => rfl, fun z => absurd z hu⟩
    · dsimp only [pushR]
      refine x_ireturn cK_share_124 rfl rfl (Nat.zero_le _) (Nat.zero_le _) ?_
      refine hq _ I' ⟨fun z => absurd ⟨j, hj, rfl⟩ z, fun k hk ek a2 ha2 hxa2 => ?_⟩ hS
      obtain rfl := (nI_one hc5 hj rfl hk ek).symm
      obtain rfl : a2 = a := (nI_eq ha2 ha).mp (hxa2.symm.trans hxa)
      exact ⟨fun z => absurd hu z, fun _ => rfl⟩
  | succ n ih =>
    intro m hm I' hS g7 g8 hg7
    have hmc : m < 2 ^ c := by omega
    have hm32 : m < 32 := by omega
    obtain ⟨o1, o2⟩ := orO m hm32 j (by omega)
    have hc' : I' 4 0 = nI c := by rw [hS 4 (by decide)]; exact hc
    have eD : lnD I' 4 = lnD I 4 := lnD_4 hS
    refine x_iload_6 cK_share_34 ?_
    refine x_iload_3 cK_share_36 ?_
    refine x_icmp_ge cK_share_37 (fun q37 => absurd q37 (nI_ge hmc (by omega))) (fun q37 => ?_)
    refine x_iload_6 cK_share_40 ?_
    refine x_iload_4 cK_share_42 ?_
    refine x_iand cK_share_44 ?_
    refine x_if_ne cK_share_45 (fun q45 => ?_) (fun q45 => ?_)
    · have hb : m.testBit j = true := by
        cases e : m.testBit j with
        | true => rfl
        | false => exact absurd ((bitO m hm32 j (by omega)).mpr e) q45
      refine x_iinc_6 (nI (m + 1)) cK_share_102 rfl (nI_inc m) (Nat.le_of_ble_eq_true rfl) ?_
      refine x_goto cK_share_105 ?_
      have e : shS (lnD I 4) c j (m + 1) = shS (lnD I 4) c j m := by simp only [shS]; rw [if_pos hb]
      rw [← e]
      exact ih (m + 1) (by omega) I' hS _ _ hg7
    · have hb : m.testBit j = false := (bitO m hm32 j (by omega)).mp q45
      have hpo := popO c hc5 m hmc j hj hb
      refine x_iload_6 cK_share_48 ?_
      refine x_s1 (ls0 := [some _]) cK_share_50 kK_193 okInt_bitCount ⟨(Nat.le_of_ble_eq_true rfl), (Nat.le_of_ble_eq_true rfl)⟩ (Nat.le_of_ble_eq_true rfl) rfl (Nat.le_of_ble_eq_true rfl) rfl rfl (Nat.zero_le _) (Nat.zero_le _) ?_
      refine s_bitCount ?_
      dsimp only [pushR]
      refine x_top (nI (popc m)) (bcE_n m hm32) ?_
      refine x_istore_7 cK_share_53 rfl (Nat.le_of_ble_eq_true rfl) ?_
      refine x_iload_7 cK_share_55 ?_
      refine x_s1 (ls0 := [some _, none, none]) cK_share_57 kK_198 okK_orders ⟨(Nat.le_of_ble_eq_true rfl), (Nat.le_of_ble_eq_true rfl)⟩ (Nat.le_of_ble_eq_true rfl) rfl (Nat.le_of_ble_eq_true rfl) rfl rfl (Nat.zero_le _) (Nat.zero_le _) ?_
      refine s_orders (by omega) ?_
      dsimp only [pushR]
      refine x_aload_0 cK_share_60 ?_
      refine x_gR (b := 4) cK_share_61 fK_19 rfl rfl rfl ?_
      refine x_gI cK_share_64 fK_106 rfl rfl ?_
      refine x_iconst 1 (by decide) cK_share_67 ?_
      refine x_isub cK_share_68 ?_
      refine x_iload_7 cK_share_69 ?_
      refine x_isub cK_share_71 ?_
      refine x_top (nI (c - 1 - popc m)) (by rw [hc', show nI c - 1 = nI (c - 1) from pk_sub (b := 1) (by omega), pk_sub (by omega)]) ?_
      refine x_s1 (ls0 := [some _, none, none]) cK_share_72 kK_198 okK_orders ⟨(Nat.le_of_ble_eq_true rfl), (Nat.le_of_ble_eq_true rfl)⟩ (Nat.le_of_ble_eq_true rfl) rfl (Nat.le_of_ble_eq_true rfl) rfl rfl (Nat.zero_le _) (Nat.zero_le _) ?_
      refine s_orders (k := c - 1 - popc m) (by omega) ?_
      dsimp only [pushR]
      refine x_imul cK_share_75 ?_
      refine x_istore_8 cK_share_76 rfl (Nat.le_of_ble_eq_true rfl) ?_
      refine x_iload_5 cK_share_78 ?_
      refine x_iload_8 cK_share_80 ?_
      refine x_aload_0 cK_share_82 ?_
      refine x_iload_6 cK_share_83 ?_
      refine x_iload_4 cK_share_85 ?_
      refine x_ior cK_share_87 ?_
      refine x_top (nI (m ||| 2 ^ j)) o1 ?_
      refine x_v1 (ls0 := [some _, some _]) cK_share_88 kK_201 okK_viewOf ⟨(Nat.le_of_ble_eq_true rfl), (Nat.le_of_ble_eq_true rfl)⟩ (Nat.le_of_ble_eq_true rfl) rfl (Nat.le_of_ble_eq_true rfl) rfl ⟨_, rfl, rfl⟩ rfl rfl (Nat.zero_le _) (Nat.zero_le _) ?_
      refine s_viewOf (c := c) (m := m ||| 2 ^ j) hc' hc5 o2 (fun I1 hS1 => ?_)
      dsimp only [pushR]
      refine x_top (voI (lnD I 4) c (m ||| 2 ^ j)) (by rw [eD]) ?_
      refine x_aload_0 cK_share_91 ?_
      refine x_iload_6 cK_share_92 ?_
      refine x_v1 (ls0 := [some _, some _]) cK_share_94 kK_201 okK_viewOf ⟨(Nat.le_of_ble_eq_true rfl), (Nat.le_of_ble_eq_true rfl)⟩ (Nat.le_of_ble_eq_true rfl) rfl (Nat.le_of_ble_eq_true rfl) rfl ⟨_, rfl, rfl⟩ rfl rfl (Nat.zero_le _) (Nat.zero_le _) ?_
      refine s_viewOf (c := c) (m := m) (by rw [hS1 4 (by decide)]; exact hc') hc5 hm32 (fun I2 hS2 => ?_)
      dsimp only [pushR]
      refine x_top (voI (lnD I 4) c m) (by rw [lnD_4 hS1, eD]) ?_
      refine x_isub cK_share_97 ?_
      refine x_imul cK_share_98 ?_
      refine x_iadd cK_share_99 ?_
      refine x_top (shS (lnD I 4) c j (m + 1)) (by simp only [shS]; rw [if_neg (by rw [hb]; decide)]) ?_
      refine x_istore_5 cK_share_100 rfl (Nat.le_of_ble_eq_true rfl) ?_
      refine x_iinc_6 (nI (m + 1)) cK_share_102 rfl (nI_inc m) (Nat.le_of_ble_eq_true rfl) ?_
      refine x_goto cK_share_105 ?_
      exact ih (m + 1) (by omega) I2 ((hS.tr hS1).tr hS2) _ _ rfl
theorem k_share {Po : Option Value → HS → Prop} {I : IT} {J : JT} {P : PT} {c : Nat} {i u : Int32} (hc : I 4 0 = nI c) (hc5 : c ≤ 5) (hab : ∀ j, j < c → ∃ a, a < 2 ^ 31 ∧ absI (shS (lnD I 4) c j (2 ^ c)) = nI a) (hq : ∀ r I', RShare (lnD I 4) c i u r → SameC I I' → Po (some (.int r)) (hp I' J P)) : xj yK_share (mG yK_share Po) 0 [some (.ref 1), some (.int i), some (.int u), none, none, none, none, none, none] [] (hp I J P) 0 0 := by
  refine x_aload_0 cK_share_0 ?_
  refine x_gR (b := 4) cK_share_1 fK_19 rfl rfl rfl ?_
  refine x_iload_1 cK_share_4 ?_
  refine x_v1 (ls0 := [some _, some _]) cK_share_5 kK_132 okLine_has ⟨(Nat.le_of_ble_eq_true rfl), (Nat.le_of_ble_eq_true rfl)⟩ (Nat.le_of_ble_eq_true rfl) rfl (Nat.le_of_ble_eq_true rfl) rfl ⟨_, rfl, rfl⟩ rfl rfl (Nat.zero_le _) (Nat.zero_le _) ?_
  refine s_has ln_4 hc hc5 (fun j hj ej => ?_) (fun hno => ?_)
  · dsimp only [pushR]
    subst ej
    refine x_if_ne cK_share_8 (fun _ => ?_) (fun q => absurd q (by decide))
    refine x_iconst 1 (by decide) cK_share_13 ?_
    refine x_aload_0 cK_share_14 ?_
    refine x_gR (b := 4) cK_share_15 fK_19 rfl rfl rfl ?_
    refine x_gI cK_share_18 fK_106 rfl rfl ?_
    refine x_ishl cK_share_21 ?_
    refine x_top (nI (2 ^ c)) (by rw [hc]; exact (shO c hc5).1) ?_
    refine x_istore_3 cK_share_22 rfl (Nat.le_of_ble_eq_true rfl) ?_
    refine x_iconst 1 (by decide) cK_share_23 ?_
    refine x_iload_1 cK_share_24 ?_
    refine x_ishl cK_share_25 ?_
    refine x_istore_4 cK_share_26 rfl (Nat.le_of_ble_eq_true rfl) ?_
    refine x_iconst 0 (by decide) cK_share_28 ?_
    refine x_istore_5 cK_share_29 rfl (Nat.le_of_ble_eq_true rfl) ?_
    refine x_iconst 0 (by decide) cK_share_31 ?_
    refine x_istore_6 cK_share_32 rfl (Nat.le_of_ble_eq_true rfl) ?_
    exact s_share_loop (r0 := 0) hc hc5 hj (hab j hj) hq (2 ^ c) 0 (by omega) I SameC.rf _ _ rfl
  · dsimp only [pushR]
    refine x_if_ne cK_share_8 (fun q => absurd rfl q) (fun _ => ?_)
    refine x_iconst (-1) (by decide) cK_share_11 ?_
    refine x_ireturn cK_share_12 rfl rfl (Nat.zero_le _) (Nat.zero_le _) ?_
    exact hq _ _ ⟨fun _ => rfl, fun j hj e => absurd ⟨j, hj, e⟩ hno⟩ SameC.rf
