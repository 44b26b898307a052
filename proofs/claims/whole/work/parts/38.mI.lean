theorem s_morders_loop {Po : Option Value → HS → Prop} {h : HS} {k : Nat} (hk5 : k ≤ 5) (hq : Po (some (.int (nI (fct k)))) h) : ∀ n f, f + n = 6 → 2 ≤ f → (k < f → fct (f - 1) = fct k) → xj yM_orders (mG yM_orders Po) 4 [some (.int (nI k)), some (.int (nI (fct (f - 1)))), some (.int (nI f))] [] h 0 0 := by
  intro n
  induction n with
  | zero =>
    intro f hf h2 he
    have e := he (by omega)
    refine x_iload_2 cM_orders_4 ?_
    refine x_iload_0 cM_orders_5 ?_
    refine x_icmp_gt cM_orders_6 (fun q6 => ?_) (fun q6 => absurd q6 (fun z => z (nI_lt (by omega) (by omega))))
    refine x_iload_1 cM_orders_19 ?_
    refine x_ireturn cM_orders_20 rfl rfl (Nat.zero_le _) (Nat.zero_le _) ?_
    rw [e]; exact hq
  | succ n ih =>
    intro f hf h2 he
    refine x_iload_2 cM_orders_4 ?_
    refine x_iload_0 cM_orders_5 ?_
    refine x_icmp_gt cM_orders_6 (fun q6 => ?_) (fun q6 => ?_)
    · have e := he ((nI_ltI (by omega) (by omega)).mp q6)
      refine x_iload_1 cM_orders_19 ?_
      refine x_ireturn cM_orders_20 rfl rfl (Nat.zero_le _) (Nat.zero_le _) ?_
      rw [e]; exact hq
    · have hfk : f ≤ k := Nat.not_lt.mp (fun z => q6 (nI_lt z (by omega)))
      refine x_iload_1 cM_orders_9 ?_
      refine x_iload_2 cM_orders_10 ?_
      refine x_imul cM_orders_11 ?_
      refine x_top (nI (fct f)) (by
        obtain ⟨d, rfl⟩ : ∃ d, f = d + 1 := ⟨f - 1, by omega⟩
        rw [pk_mul]; rfl) ?_
      refine x_istore_1 cM_orders_12 rfl (Nat.le_of_ble_eq_true rfl) ?_
      refine x_iinc_2 (nI (f + 1)) cM_orders_13 rfl (nI_inc f) (Nat.le_of_ble_eq_true rfl) ?_
      refine x_goto cM_orders_16 ?_
      have := ih (f + 1) (by omega) (by omega) (fun z => by
        obtain rfl : f = k := by omega
        rfl)
      exact this
theorem s_morders {Po : Option Value → HS → Prop} {h : HS} {k : Nat} (hk5 : k ≤ 5) (hq : Po (some (.int (nI (fct k)))) h) : xj yM_orders (mG yM_orders Po) 0 [some (.int (nI k)), none, none] [] h 0 0 := by
  refine x_iconst 1 (by decide) cM_orders_0 ?_
  refine x_istore_1 cM_orders_1 rfl (Nat.le_of_ble_eq_true rfl) ?_
  refine x_iconst 2 (by decide) cM_orders_2 ?_
  refine x_istore_2 cM_orders_3 rfl (Nat.le_of_ble_eq_true rfl) ?_
  exact s_morders_loop hk5 hq 4 2 (by omega) (by omega) (fun z => by
    rcases (show k = 0 ∨ k = 1 by omega) with rfl | rfl <;> rfl)
theorem s_mgcd_loop {Po : Option Value → HS → Prop} {h : HS} {x1 x2 : Int32} {d : Nat} (hq : Po (some (.int (nI d))) h) : ∀ B l, l ≤ B → ∀ g, l < 2 ^ 31 → g < 2 ^ 31 → Nat.gcd g l = d → ∀ g4, xj yM_divisor (mG yM_divisor Po) 13 [some (.int x1), some (.int x2), some (.int (nI g)), some (.int (nI l)), g4] [] h 0 0 := by
  intro B
  induction B with
  | zero =>
    intro l hl g hl2 hg hd g4
    have l00 : l = 0 := Nat.le_zero.mp hl
    subst l00
    refine x_iload_3 cM_divisor_13 ?_
    refine x_if_eq cM_divisor_14 (fun q14 => ?_) (fun q14 => absurd q14 (fun z => z rfl))
    refine x_iload_2 cM_divisor_30 ?_
    refine x_ireturn cM_divisor_31 rfl rfl (Nat.zero_le _) (Nat.zero_le _) ?_
    rw [Nat.gcd_zero_right] at hd; rw [hd]; exact hq
  | succ B ih =>
    intro l hl g hl2 hg hd g4
    refine x_iload_3 cM_divisor_13 ?_
    refine x_if_eq cM_divisor_14 (fun q14 => ?_) (fun q14 => ?_)
    · have l0 : l = 0 := (nI_eq (by omega) (by decide)).mp q14
      refine x_iload_2 cM_divisor_30 ?_
      refine x_ireturn cM_divisor_31 rfl rfl (Nat.zero_le _) (Nat.zero_le _) ?_
      subst l0
      rw [Nat.gcd_zero_right] at hd; rw [hd]; exact hq
    · have l0 : 0 < l := Nat.pos_of_ne_zero (fun z => q14 (by rw [z]; rfl))
      refine x_iload_2 cM_divisor_17 ?_
      refine x_iload_3 cM_divisor_18 ?_
      refine x_irem (fun z => q14 z) cM_divisor_19 ?_
      refine x_top (nI (g % l)) (pk_rem hg l0 (by omega)) ?_
      refine x_istore_4 cM_divisor_20 rfl (Nat.le_of_ble_eq_true rfl) ?_
      refine x_iload_3 cM_divisor_22 ?_
      refine x_istore_2 cM_divisor_23 rfl (Nat.le_of_ble_eq_true rfl) ?_
      refine x_iload_4 cM_divisor_24 ?_
      refine x_istore_3 cM_divisor_26 rfl (Nat.le_of_ble_eq_true rfl) ?_
      refine x_goto cM_divisor_27 ?_
      have hml := Nat.mod_lt g l0
      exact ih (g % l) (by omega) l (by omega) (by omega) (by rw [← hd, Nat.gcd_comm g l, Nat.gcd_rec l g, Nat.gcd_comm]) _
theorem s_divisor {Po : Option Value → HS → Prop} {h : HS} {x : Int32} {a b : Nat} (hx : absI x = nI a) (ha : a < 2 ^ 31) (hb : b < 2 ^ 31) (hq : Po (some (.int (nI (Nat.gcd a b)))) h) : xj yM_divisor (mG yM_divisor Po) 0 [some (.int x), some (.int (nI b)), none, none, none] [] h 0 0 := by
  unfold absI at hx
  refine x_iload_0 cM_divisor_0 ?_
  refine x_if_ge cM_divisor_1 (fun q1 => ?_) (fun q1 => ?_)
  · rw [if_pos q1] at hx
    refine x_iload_0 cM_divisor_9 ?_
    refine x_top (nI a) hx ?_
    refine x_istore_2 cM_divisor_10 rfl (Nat.le_of_ble_eq_true rfl) ?_
    refine x_iload_1 cM_divisor_11 ?_
    refine x_istore_3 cM_divisor_12 rfl (Nat.le_of_ble_eq_true rfl) ?_
    exact s_mgcd_loop hq b b (Nat.le_refl b) a hb ha rfl _
  · rw [if_neg q1] at hx
    refine x_iload_0 cM_divisor_4 ?_
    refine x_ineg cM_divisor_5 ?_
    refine x_goto cM_divisor_6 ?_
    refine x_top (nI a) hx ?_
    refine x_istore_2 cM_divisor_10 rfl (Nat.le_of_ble_eq_true rfl) ?_
    refine x_iload_1 cM_divisor_11 ?_
    refine x_istore_3 cM_divisor_12 rfl (Nat.le_of_ble_eq_true rfl) ?_
    exact s_mgcd_loop hq b b (Nat.le_refl b) a hb ha rfl _
theorem s_mfraction {Po : Option Value → HS → Prop} {h : HS} {a b : Nat} {x u : Int32} (hx : absI x = nI a) (ha : a < 2 ^ 31) (hb0 : 0 < b) (hb : b < 1000) (h1 : ¬ u = 0 → Po (some (.int (x / nI (Nat.gcd a b)))) h) (h0 : u = 0 → Po (some (.int (nI b / nI (Nat.gcd a b)))) h) : xj yM_fraction (mG yM_fraction Po) 0 [some (.int x), some (.int (nI b)), some (.int u), none] [] h 0 0 := by
  have hg0 : 0 < Nat.gcd a b := Nat.gcd_pos_of_pos_right a hb0
  have hgb : Nat.gcd a b ≤ b := Nat.gcd_le_right a hb0
  have hgn : ¬ nI (Nat.gcd a b) = 0 := nI_ne0 hg0 (by omega)
  refine x_iload_0 cM_fraction_0 ?_
  refine x_iload_1 cM_fraction_1 ?_
  refine x_s2 (ls0 := [some _, some _, none, none, none]) cM_fraction_2 kM_182 okM_divisor ⟨(Nat.le_of_ble_eq_true rfl), (Nat.le_of_ble_eq_true rfl)⟩ (Nat.le_of_ble_eq_true rfl) rfl (Nat.le_of_ble_eq_true rfl) rfl rfl (Nat.zero_le _) (Nat.zero_le _) ?_
  refine s_divisor hx ha (by omega) ?_
  dsimp only [pushR]
  refine x_istore_3 cM_fraction_5 rfl (Nat.le_of_ble_eq_true rfl) ?_
  refine x_iload_2 cM_fraction_6 ?_
  refine x_if_eq cM_fraction_7 (fun q7 => ?_) (fun q7 => ?_)
  · refine x_iload_1 cM_fraction_16 ?_
    refine x_iload_3 cM_fraction_17 ?_
    refine x_idiv hgn cM_fraction_18 ?_
    refine x_ireturn cM_fraction_19 rfl rfl (Nat.zero_le _) (Nat.zero_le _) ?_
    exact h0 q7
  · refine x_iload_0 cM_fraction_10 ?_
    refine x_iload_3 cM_fraction_11 ?_
    refine x_idiv hgn cM_fraction_12 ?_
    refine x_goto cM_fraction_13 ?_
    refine x_ireturn cM_fraction_19 rfl rfl (Nat.zero_le _) (Nat.zero_le _) ?_
    exact h1 q7
/-- how many of the first n places from -9 are seen -/
def cvI (D : LD) (c : Nat) : Nat → Int32
  | 0 => 0
  | n + 1 => cvI D c n + (if 0 < c ∧ fF D c = 0 ∧ absI (nI n - 9 - fP D c) ≤ fH D c / 4 then 1 else 0)
theorem cv_1 {D : LD} {c n : Nat} (h : Vd D c (nI n - 9)) : (1 : Int32) = (if 0 < c ∧ fF D c = 0 ∧ absI (nI n - 9 - fP D c) ≤ fH D c / 4 then 1 else 0) := (if_pos h).symm
theorem cv_0 {D : LD} {c n : Nat} (h : ¬ Vd D c (nI n - 9)) : (0 : Int32) = (if 0 < c ∧ fF D c = 0 ∧ absI (nI n - 9 - fP D c) ≤ fH D c / 4 then 1 else 0) := (if_neg h).symm
theorem p19_gt : ∀ n, n < 19 → ¬ (9 : Int32) < nI n - 9 := by decide +kernel
theorem p19_in : ∀ n, n < 19 → nI n - 9 + Int32.ofInt 1 = nI (n + 1) - 9 := by decide +kernel
theorem s_worth_count {Po : Option Value → HS → Prop} {I : IT} {J : JT} {P : PT} {c c0 m : Nat} {D : LD} {v1 v2 : Int32} (hc5 : c ≤ 5) (hc : I 97 0 = nI c) (h29 : I 90 29 = fF D c) (hl : 0 < c → I 103 (c - 1) = fH D c ∧ I 105 (c - 1) = fP D c) (hv : ∀ n, n < 19 → Rv D c (nI n - 9)) (hq : Po (some (.int (cvI D c 19))) (hp I J P)) : ∀ m n, n + m = 19 → xj yM_worthOf (mG yM_worthOf Po) 106 [some (.ref 90), some (.int v1), some (.int v2), some (.int (cvI D c n)), some (.int (nI n - 9))] [] (hp I J P) 0 0 := by
  intro m
  induction m with
  | zero =>
    intro n hn
    obtain rfl : n = 19 := by omega
    refine x_iload_4 cM_worthOf_106 ?_
    refine x_bipush 9 (by decide) cM_worthOf_108 ?_
    refine x_icmp_gt cM_worthOf_110 (fun q110 => ?_) (fun q110 => absurd q110 (fun z => z (by decide)))
    refine x_iload_3 cM_worthOf_140 ?_
    refine x_ireturn cM_worthOf_141 rfl rfl (Nat.zero_le _) (Nat.zero_le _) ?_
    exact hq
  | succ m ih =>
    intro n hn
    have hn9 : n < 19 := by omega
    have step : ∀ v, v = (if 0 < c ∧ fF D c = 0 ∧ absI (nI n - 9 - fP D c) ≤ fH D c / 4 then (1 : Int32) else 0) → xj yM_worthOf (mG yM_worthOf Po) 132 [some (.ref 90), some (.int v1), some (.int v2), some (.int (cvI D c n)), some (.int (nI n - 9))] [.int v, .int (cvI D c n)] (hp I J P) 0 0 := by
      intro v hv0
      subst hv0
      refine x_iadd cM_worthOf_132 ?_
      refine x_istore_3 cM_worthOf_133 rfl (Nat.le_of_ble_eq_true rfl) ?_
      refine x_iinc_4 (nI (n + 1) - 9) cM_worthOf_134 rfl (p19_in n hn9) (Nat.le_of_ble_eq_true rfl) ?_
      refine x_goto cM_worthOf_137 ?_
      exact ih (n + 1) (by omega)
    refine x_iload_4 cM_worthOf_106 ?_
    refine x_bipush 9 (by decide) cM_worthOf_108 ?_
    refine x_icmp_gt cM_worthOf_110 (fun q110 => absurd q110 (p19_gt n hn9)) (fun q110 => ?_)
    refine x_iload_3 cM_worthOf_113 ?_
    refine x_aload_0 cM_worthOf_114 ?_
    refine x_aload_0 cM_worthOf_115 ?_
    refine x_gR (b := 97) cM_worthOf_116 fM_32 rfl rfl rfl ?_
    refine x_iload_4 cM_worthOf_119 ?_
    refine x_v2 (ls0 := [some _, some _, some _, none]) cM_worthOf_121 kM_155 okM_doesSee ⟨(Nat.le_of_ble_eq_true rfl), (Nat.le_of_ble_eq_true rfl)⟩ (Nat.le_of_ble_eq_true rfl) rfl (Nat.le_of_ble_eq_true rfl) rfl ⟨_, rfl, rfl⟩ rfl rfl (Nat.zero_le _) (Nat.zero_le _) ?_
    refine s_doesSee (D := D) (Or.inr rfl) hc5 hc h29 hl (hv n hn9) (fun hV => ?_) (fun hV => ?_)
    · dsimp only [pushR]
      refine x_if_eq cM_worthOf_124 (fun q => absurd q (by decide)) (fun _ => ?_)
      refine x_iconst 1 (by decide) cM_worthOf_127 ?_
      refine x_goto cM_worthOf_128 ?_
      exact step 1 (cv_1 hV)
    · dsimp only [pushR]
      refine x_if_eq cM_worthOf_124 (fun _ => ?_) (fun q => absurd rfl q)
      refine x_iconst 0 (by decide) cM_worthOf_131 ?_
      exact step 0 (cv_0 hV)
theorem s_worth_pick {I : IT} {J : JT} {P : PT} {c m : Nat} {G : GT} (hc5 : c ≤ 5) (hc : I 96 0 = nI c) (hm : m < 32) (hq : ∀ I2, (∀ a, a ≠ 97 → a ≠ 106 → I2 a = I a) → (∀ j, 1 ≤ j → j < 3 → I2 97 j = I 96 j) → (∀ i, i < c → m.testBit i = true → I2 97 (3 + sel m i) = I 96 (3 + i) ∧ I2 97 (8 + sel m i) = I 96 (8 + i) ∧ I2 106 (sel m i) = I 92 i) → xj yM_worthOf G 81 [some (.ref 90), some (.int (nI m)), some (.int (nI (sel m c))), some (.int (nI c)), none] [] (hp I2 J P) 0 0) : ∀ n k, k + n = c → ∀ I2, (∀ a, a ≠ 97 → a ≠ 106 → I2 a = I a) → (∀ j, 1 ≤ j → j < 3 → I2 97 j = I 96 j) → (∀ i, i < k → m.testBit i = true → I2 97 (3 + sel m i) = I 96 (3 + i) ∧ I2 97 (8 + sel m i) = I 96 (8 + i) ∧ I2 106 (sel m i) = I 92 i) → xj yM_worthOf G 8 [some (.ref 90), some (.int (nI m)), some (.int (nI (sel m k))), some (.int (nI k)), none] [] (hp I2 J P) 0 0 := by
  intro n
  induction n with
  | zero =>
    intro k hk I2 hf h0 ha
    obtain rfl : k = c := by omega
    refine x_iload_3 cM_worthOf_8 ?_
    refine x_aload_0 cM_worthOf_9 ?_
    refine x_gR (b := 96) cM_worthOf_10 fM_29 rfl rfl rfl ?_
    refine x_iconst 0 (by decide) cM_worthOf_13 ?_
    refine x_al (0) cM_worthOf_14 rfl rfl (by decide) (by decide) ?_
    refine x_icmp_ge cM_worthOf_15 (fun q15 => ?_) (fun q15 => absurd q15 (fun z => z (by rw [hf 96 (by decide) (by decide), hc]; exact Int32.le_refl _)))
    exact hq I2 hf h0 ha
  | succ n ih =>
    intro k hk I2 hf h0 ha
    have hkc : k < c := by omega
    have hsk := sel_le m k
    refine x_iload_3 cM_worthOf_8 ?_
    refine x_aload_0 cM_worthOf_9 ?_
    refine x_gR (b := 96) cM_worthOf_10 fM_29 rfl rfl rfl ?_
    refine x_iconst 0 (by decide) cM_worthOf_13 ?_
    refine x_al (0) cM_worthOf_14 rfl rfl (by decide) (by decide) ?_
    refine x_icmp_ge cM_worthOf_15 (fun q15 => absurd q15 (by rw [hf 96 (by decide) (by decide), hc]; exact nI_ge hkc (by omega))) (fun q15 => ?_)
    refine x_iload_1 cM_worthOf_18 ?_
    refine x_iload_3 cM_worthOf_19 ?_
    refine x_s2 (ls0 := [some _, some _]) cM_worthOf_20 kM_179 okM_has ⟨(Nat.le_of_ble_eq_true rfl), (Nat.le_of_ble_eq_true rfl)⟩ (Nat.le_of_ble_eq_true rfl) rfl (Nat.le_of_ble_eq_true rfl) rfl rfl (Nat.zero_le _) (Nat.zero_le _) ?_
    refine s_mhas hm (by omega) (fun hb => ?_) (fun hb => ?_)
    · dsimp only [pushR]
      refine x_if_eq cM_worthOf_23 (fun q => absurd q (by decide)) (fun _ => ?_)
      refine x_aload_0 cM_worthOf_26 ?_
      refine x_gR (b := 97) cM_worthOf_27 fM_32 rfl rfl rfl ?_
      refine x_iconst 3 (by decide) cM_worthOf_30 ?_
      refine x_iload_2 cM_worthOf_31 ?_
      refine x_iadd cM_worthOf_32 ?_
      refine x_aload_0 cM_worthOf_33 ?_
      refine x_gR (b := 96) cM_worthOf_34 fM_29 rfl rfl rfl ?_
      refine x_iconst 3 (by decide) cM_worthOf_37 ?_
      refine x_iload_3 cM_worthOf_38 ?_
      refine x_iadd cM_worthOf_39 ?_
      refine x_al (3 + k) cM_worthOf_40 rfl (nI_add 3 k) (by omega) (by decide) ?_
      refine x_as (3 + sel m k) cM_worthOf_41 rfl (nI_add 3 _) (by omega) (by decide) ?_
      refine x_aload_0 cM_worthOf_42 ?_
      refine x_gR (b := 97) cM_worthOf_43 fM_32 rfl rfl rfl ?_
      refine x_bipush 8 (by decide) cM_worthOf_46 ?_
      refine x_iload_2 cM_worthOf_48 ?_
      refine x_iadd cM_worthOf_49 ?_
      refine x_aload_0 cM_worthOf_50 ?_
      refine x_gR (b := 96) cM_worthOf_51 fM_29 rfl rfl rfl ?_
      refine x_bipush 8 (by decide) cM_worthOf_54 ?_
      refine x_iload_3 cM_worthOf_56 ?_
      refine x_iadd cM_worthOf_57 ?_
      refine x_al (8 + k) cM_worthOf_58 rfl (nI_add 8 k) (by omega) (by decide) ?_
      refine x_as (8 + sel m k) cM_worthOf_59 rfl (nI_add 8 _) (by omega) (by decide) ?_
      refine x_aload_0 cM_worthOf_60 ?_
      refine x_gR (b := 106) cM_worthOf_61 fM_60 rfl rfl rfl ?_
      refine x_iload_2 cM_worthOf_64 ?_
      refine x_aload_0 cM_worthOf_65 ?_
      refine x_gR (b := 92) cM_worthOf_66 fM_17 rfl rfl rfl ?_
      refine x_iload_3 cM_worthOf_69 ?_
      refine x_al (k) cM_worthOf_70 rfl rfl (by omega) (by decide) ?_
      refine x_as (sel m k) cM_worthOf_71 rfl rfl (by omega) (by decide) ?_
      refine x_iinc_2 (nI (sel m k + 1)) cM_worthOf_72 rfl (nI_inc (sel m k)) (Nat.le_of_ble_eq_true rfl) ?_
      refine x_iinc_3 (nI (k + 1)) cM_worthOf_75 rfl (nI_inc k) (Nat.le_of_ble_eq_true rfl) ?_
      refine x_goto cM_worthOf_78 ?_
      have es : sel m (k + 1) = sel m k + 1 := by simp only [sel]; rw [if_pos hb]
      rw [← es]
      refine ih (k + 1) (by omega) _ (fun a h1 h2 => by rw [u2_n h2, u2_n h1, u2_n h1]; exact hf a h1 h2) (fun j hj1 hj => by rw [u2_n (by decide), u2_sn (by omega), u2_sn (by omega)]; exact h0 j hj1 hj) (fun i hi hbi => ?_)
      · rw [u2_n (show 97 ≠ 106 by decide)]
        rcases Nat.lt_or_ge i k with z | z
        · have h2 := sel_mono m i k z hbi
          rw [u2_sn (by omega), u2_sn (by omega), u2_sn (by omega), u2_sn (by omega), u2_sn (by omega), u2_n (by decide), u2_n (by decide)]
          exact ha i z hbi
        · obtain rfl : i = k := by omega
          rw [u2_sn (by omega), u2_ss, u2_ss, u2_ss]
          rw [u2_n (show 96 ≠ 97 by decide), u2_n (show 92 ≠ 97 by decide), u2_n (show 92 ≠ 97 by decide), hf 96 (by decide) (by decide), hf 92 (by decide) (by decide)]
          exact ⟨rfl, rfl, rfl⟩
    · dsimp only [pushR]
      refine x_if_eq cM_worthOf_23 (fun _ => ?_) (fun q => absurd rfl q)
      refine x_iinc_3 (nI (k + 1)) cM_worthOf_75 rfl (nI_inc k) (Nat.le_of_ble_eq_true rfl) ?_
      refine x_goto cM_worthOf_78 ?_
      have es : sel m (k + 1) = sel m k := by simp only [sel]; rw [if_neg (by rw [hb]; decide)]
      rw [← es]
      exact ih (k + 1) (by omega) _ hf h0 (fun i hi hbi => by
        rcases Nat.lt_or_ge i k with z | z
        · exact ha i z hbi
        · obtain rfl : i = k := by omega
          rw [hb] at hbi; exact absurd hbi (by decide))
theorem s_worthOf {Po : Option Value → HS → Prop} {I : IT} {J : JT} {P : PT} {c m : Nat} (hc5 : c ≤ 5) (hc : I 96 0 = nI c) (hm : m < 32) (hG : Rg (dpk (mdD I 96 92) c m) (sel m c)) (hv : ∀ n, n < 19 → Rv (dpk (mdD I 96 92) c m) (sel m c) (nI n - 9)) (hV : cvI (dpk (mdD I 96 92) c m) (sel m c) 19 = voI (mdD I 96 92) c m) (hq : ∀ I', SameM I I' → I' 107 = I 107 → Po (some (.int (voI (mdD I 96 92) c m))) (hp I' J P)) : xj yM_worthOf (mG yM_worthOf Po) 0 [some (.ref 90), some (.int (nI m)), none, none, none] [] (hp I J P) 0 0 := by
  have hs5 := sel_le m c
  refine x_aload_0 cM_worthOf_0 ?_
  refine x_v0 (ls0 := [some _, none]) cM_worthOf_1 kM_168 okM_begin ⟨(Nat.le_of_ble_eq_true rfl), (Nat.le_of_ble_eq_true rfl)⟩ (Nat.le_of_ble_eq_true rfl) rfl (Nat.le_of_ble_eq_true rfl) rfl ⟨_, rfl, rfl⟩ rfl rfl (Nat.zero_le _) (Nat.zero_le _) ?_
  refine s_begin (fun I1 b1 b2 => ?_)
  dsimp only [pushR]
  refine x_iconst 0 (by decide) cM_worthOf_4 ?_
  refine x_istore_2 cM_worthOf_5 rfl (Nat.le_of_ble_eq_true rfl) ?_
  refine x_iconst 0 (by decide) cM_worthOf_6 ?_
  refine x_istore_3 cM_worthOf_7 rfl (Nat.le_of_ble_eq_true rfl) ?_
  refine s_worth_pick (I := I1) (c := c) (m := m) hc5 (by rw [b1 96 (by decide)]; exact hc) hm (fun I2 p1 p2 p3 => ?_) c 0 (by omega) I1 (fun _ _ _ => rfl) (fun j _ hj => by rw [b2 j (by omega), b1 96 (by decide)]) (fun i hi => absurd hi (Nat.not_lt_zero i))
  rw [b1 96 (by decide)] at p2
  rw [b1 96 (by decide), b1 92 (by decide)] at p3
  have g2 : ∀ a, a ≠ 97 → a ≠ 106 → I2 a = I a := fun a a1 a2 => by rw [p1 a a1 a2, b1 a a1]
  have hLE : LEq (mdD (u2 I2 97 0 (nI (sel m c))) 97 106) (dpk (mdD I 96 92) c m) (sel m c) := by
    refine ⟨fun j hj => ?_, ?_, ?_, ?_, ?_⟩
    · obtain ⟨k, hk, hb, rfl⟩ := sel_surj m c j hj
      obtain ⟨x1, x2, x3⟩ := p3 k hk hb
      show u2 I2 97 0 (nI (sel m c)) 97 (3 + sel m k) = pkI m (fun k => I 96 (3 + k)) c _ ∧ u2 I2 97 0 (nI (sel m c)) 97 (8 + sel m k) = pkI m (fun k => I 96 (8 + k)) c _ ∧ u2 I2 97 0 (nI (sel m c)) 106 (sel m k) = pkI m (I 92) c _
      rw [pkI_sel m _ c k hk hb, pkI_sel m _ c k hk hb, pkI_sel m _ c k hk hb, u2_sn (by omega), u2_sn (by omega), u2_n (by decide)]
      exact ⟨x1, x2, x3⟩
    · show u2 I2 97 0 (nI (sel m c)) 97 1 = I 96 1
      rw [u2_sn (by decide)]; exact p2 1 (by decide) (by decide)
    · show u2 I2 97 0 (nI (sel m c)) 97 2 = I 96 2
      rw [u2_sn (by decide)]; exact p2 2 (by decide) (by decide)
    · show u2 I2 97 0 (nI (sel m c)) 90 4 = I 90 4
      rw [u2_n (by decide), g2 90 (by decide) (by decide)]
    · show u2 I2 97 0 (nI (sel m c)) 90 5 = I 90 5
      rw [u2_n (by decide), g2 90 (by decide) (by decide)]
  refine x_aload_0 cM_worthOf_81 ?_
  refine x_gR (b := 97) cM_worthOf_82 fM_32 rfl rfl rfl ?_
  refine x_iconst 0 (by decide) cM_worthOf_85 ?_
  refine x_iload_2 cM_worthOf_86 ?_
  refine x_as (0) cM_worthOf_87 rfl rfl (by decide) (by decide) ?_
  refine x_aload_0 cM_worthOf_88 ?_
  refine x_aload_0 cM_worthOf_89 ?_
  refine x_gR (b := 97) cM_worthOf_90 fM_32 rfl rfl rfl ?_
  refine x_aload_0 cM_worthOf_93 ?_
  refine x_gR (b := 106) cM_worthOf_94 fM_60 rfl rfl rfl ?_
  refine x_v2 (ls0 := [some _, some _, some _, none, none, none, none, none]) cM_worthOf_97 kM_120 okM_lay ⟨(Nat.le_of_ble_eq_true rfl), (Nat.le_of_ble_eq_true rfl)⟩ (Nat.le_of_ble_eq_true rfl) rfl (Nat.le_of_ble_eq_true rfl) rfl ⟨_, rfl, rfl⟩ rfl rfl (Nat.zero_le _) (Nat.zero_le _) ?_
  refine s_lay (c := sel m c) (Or.inr rfl) (Or.inr rfl) (by omega) (by rw [u2_ss]) (Rg.leq hLE hG) (fun I3 hL => ?_)
  have g3 : ∀ a, a ≠ 97 → a ≠ 106 → a ≠ 90 → a ≠ 103 → a ≠ 104 → a ≠ 105 → I3 a = I a := fun a a1 a2 a3 a4 a5 a6 => by rw [hL.1 a a3 a4 a5 a6, u2_n a1, g2 a a1 a2]
  obtain ⟨l1, l2, -, l4⟩ := hLE.fl (sel m c) (Nat.le_refl _)
  dsimp only [pushR]
  refine x_iconst 0 (by decide) cM_worthOf_100 ?_
  refine x_istore_3 cM_worthOf_101 rfl (Nat.le_of_ble_eq_true rfl) ?_
  refine x_bipush (-9) (by decide) cM_worthOf_102 ?_
  refine x_top (nI 0 - 9) (by decide) ?_
  refine x_istore_4 cM_worthOf_104 rfl (Nat.le_of_ble_eq_true rfl) ?_
  refine s_worth_count (D := dpk (mdD I 96 92) c m) (c := sel m c) (c0 := 0) (m := 0) (by omega) (by rw [hL.1 97 (by decide) (by decide) (by decide) (by decide), u2_ss]) (by rw [hL.2.2.1, l4]) (fun h0 => by rw [(hL.last h0).1, (hL.last h0).2, l1, l2]; exact ⟨rfl, rfl⟩) hv ?_ 19 0 (by decide)
  rw [hV]
  exact hq I3 ⟨fun a ha => g3 a (by omega) (by omega) (by omega) (by omega) (by omega) (by omega), fun j hj => by rw [hL.2.1 j (by omega), u2_n (by decide), g2 90 (by decide) (by decide)]⟩ (g3 107 (by decide) (by decide) (by decide) (by decide) (by decide) (by decide))
