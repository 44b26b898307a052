/-- two lines that are alike for their first c kites -/
def LEq (D E : LD) (c : Nat) : Prop := (∀ k, k < c → dY D k = dY E k ∧ dB D k = dB E k ∧ dT D k = dT E k) ∧ dLo D = dLo E ∧ dHi D = dHi E ∧ dBo D = dBo E ∧ dFo D = dFo E
theorem LEq.fl {D E : LD} {c : Nat} (h : LEq D E c) : ∀ k, k ≤ c → fH D k = fH E k ∧ fP D k = fP E k ∧ fB D k = fB E k ∧ fF D k = fF E k := by
  obtain ⟨h1, h2, h3, h4, h5⟩ := h
  intro k
  induction k with
  | zero => intro _; exact ⟨rfl, rfl, rfl, rfl⟩
  | succ k ih =>
    intro hk
    obtain ⟨e1, e2, e3, e4⟩ := ih (by omega)
    obtain ⟨g1, g2, g3⟩ := h1 k (by omega)
    have eH : fH D (k + 1) = fH E (k + 1) := by simp only [fH]; rw [e1, g1, g3]
    have eL : fL D k = fL E k := by unfold fL; rw [eH, h2, h3, h4, g2]
    refine ⟨eH, ?_, ?_, ?_⟩
    · simp only [fP]; rw [e2, eL]
    · simp only [fB]; exact eL
    · simp only [fF]; rw [e3, e4, eL, h5]
theorem LEq.vd {D E : LD} {c : Nat} (h : LEq D E c) (x : Int32) : Vd D c x ↔ Vd E c x := by
  obtain ⟨e1, e2, -, e4⟩ := h.fl c (Nat.le_refl c)
  unfold Vd
  rw [e1, e2, e4]
/-- the search of the cheapest way: after t ways the least cost and its number -/
def Sch (cost num : Nat → Int32) (ok : Nat → Prop) : Nat → Int32 → Int32 → Prop
  | 0, a, b => a = -9 ∧ b = -9
  | t + 1, a, b => ∃ a0 b0, Sch cost num ok t a0 b0 ∧ (((a0 = -9 ∨ cost t < a0) ∧ ok t) → a = cost t ∧ b = num t) ∧ (¬ ((a0 = -9 ∨ cost t < a0) ∧ ok t) → a = a0 ∧ b = b0)
def dig (b c t k : Nat) : Nat := t / b ^ (c - 1 - k) % b
/-- a line with yards more, or other bridles, by figures -/
def wyD (D : LD) (f : Nat → Nat) : LD := (fun k => dY D k + nI (f k), dB D, dT D, dLo D, dHi D, dBo D, dFo D)
def wbD (D : LD) (f : Nat → Nat) : LD := (dY D, fun k => nI (f k) - 2, dT D, dLo D, dHi D, dBo D, dFo D)
def chI (b : Nat → Int32) (f : Nat → Int32) : Nat → Int32
  | 0 => 0
  | k + 1 => if f k - 2 = b k then chI b f k else chI b f k + 1
theorem sumI_ext {f g : Nat → Int32} : ∀ n, (∀ k, k < n → f k = g k) → sumI f n = sumI g n
  | 0, _ => rfl
  | n + 1, h => by simp only [sumI]; rw [sumI_ext n (fun k hk => h k (by omega)), h n (by omega)]
theorem numI_ext {f g : Nat → Int32} : ∀ n, (∀ k, k < n → f k = g k) → numI f n = numI g n
  | 0, _ => rfl
  | n + 1, h => by simp only [numI]; rw [numI_ext n (fun k hk => h k (by omega)), h n (by omega)]
theorem chI_ext {b f g : Nat → Int32} : ∀ n, (∀ k, k < n → f k = g k) → chI b f n = chI b g n
  | 0, _ => rfl
  | n + 1, h => by simp only [chI]; rw [chI_ext n (fun k hk => h k (by omega)), h n (by omega)]
theorem powI_n (b : Nat) : ∀ n, powI (nI b) n = nI (b ^ n)
  | 0 => rfl
  | n + 1 => by simp only [powI]; rw [powI_n b n, pk_mul, Nat.pow_succ]
theorem s_lobw_loop {Po : Option Value → HS → Prop} {I : IT} {J : JT} {P : PT} {c : Nat} (hc : I 4 0 = nI c) (hc5 : c ≤ 5) (h1 : (∀ k, k < c → I 5 k + I 87 k ≤ 30) → ∀ I', (∀ a, a ≠ 80 → I' a = I a) → (∀ k, k < c → I' 80 k = I 5 k + I 87 k) → Po (some (.int 1)) (hp I' J P)) (h0 : ¬ (∀ k, k < c → I 5 k + I 87 k ≤ 30) → ∀ I', (∀ a, a ≠ 80 → I' a = I a) → Po (some (.int 0)) (hp I' J P)) : ∀ n k, k + n = c → ∀ I', (∀ a, a ≠ 80 → I' a = I a) → (∀ j, j < k → I' 80 j = I 5 j + I 87 j) → (∀ j, j < k → I 5 j + I 87 j ≤ 30) → ∀ g, xj yK_letOutByWay (mG yK_letOutByWay Po) 2 [some (.ref 1), some (.int (nI k)), g] [] (hp I' J P) 0 0 := by
  intro n
  induction n with
  | zero =>
    intro k hk I' hf hs hle g
    obtain rfl : k = c := by omega
    have e4 : I' 4 = I 4 := hf 4 (by decide)
    refine x_iload_1 cK_letOutByWay_2 ?_
    refine x_aload_0 cK_letOutByWay_3 ?_
    refine x_gR (b := 4) cK_letOutByWay_4 fK_19 rfl rfl rfl ?_
    refine x_gI cK_letOutByWay_7 fK_106 rfl rfl ?_
    refine x_icmp_ge cK_letOutByWay_10 (fun q10 => ?_) (fun q10 => absurd q10 (fun z => z (by rw [e4, hc]; exact Int32.le_refl _)))
    refine x_iconst 1 (by decide) cK_letOutByWay_63 ?_
    refine x_ireturn cK_letOutByWay_64 rfl rfl (Nat.zero_le _) (Nat.zero_le _) ?_
    exact h1 hle I' hf hs
  | succ n ih =>
    intro k hk I' hf hs hle g
    have hkc : k < c := by omega
    have e4 : I' 4 = I 4 := hf 4 (by decide)
    have e5 : I' 5 = I 5 := hf 5 (by decide)
    have e87 : I' 87 = I 87 := hf 87 (by decide)
    refine x_iload_1 cK_letOutByWay_2 ?_
    refine x_aload_0 cK_letOutByWay_3 ?_
    refine x_gR (b := 4) cK_letOutByWay_4 fK_19 rfl rfl rfl ?_
    refine x_gI cK_letOutByWay_7 fK_106 rfl rfl ?_
    refine x_icmp_ge cK_letOutByWay_10 (fun q10 => absurd q10 (by rw [e4, hc]; exact nI_ge hkc (by omega))) (fun q10 => ?_)
    refine x_aload_0 cK_letOutByWay_13 ?_
    refine x_gR (b := 4) cK_letOutByWay_14 fK_19 rfl rfl rfl ?_
    refine x_gR (b := 5) cK_letOutByWay_17 fK_136 rfl rfl rfl ?_
    refine x_iload_1 cK_letOutByWay_20 ?_
    refine x_s2 (ls0 := [some _, some _]) cK_letOutByWay_21 kK_140 okK_at ⟨(Nat.le_of_ble_eq_true rfl), (Nat.le_of_ble_eq_true rfl)⟩ (Nat.le_of_ble_eq_true rfl) rfl (Nat.le_of_ble_eq_true rfl) rfl rfl (Nat.zero_le _) (Nat.zero_le _) ?_
    refine s_at k rfl rfl (by omega) (by decide) ?_
    dsimp only [pushR]
    refine x_aload_0 cK_letOutByWay_24 ?_
    refine x_gR (b := 86) cK_letOutByWay_25 fK_66 rfl rfl rfl ?_
    refine x_gR (b := 87) cK_letOutByWay_28 fK_283 rfl rfl rfl ?_
    refine x_iload_1 cK_letOutByWay_31 ?_
    refine x_s2 (ls0 := [some _, some _]) cK_letOutByWay_32 kK_140 okK_at ⟨(Nat.le_of_ble_eq_true rfl), (Nat.le_of_ble_eq_true rfl)⟩ (Nat.le_of_ble_eq_true rfl) rfl (Nat.le_of_ble_eq_true rfl) rfl rfl (Nat.zero_le _) (Nat.zero_le _) ?_
    refine s_at k rfl rfl (by omega) (by decide) ?_
    dsimp only [pushR]
    refine x_iadd cK_letOutByWay_35 ?_
    rw [e5, e87]
    refine x_istore_2 cK_letOutByWay_36 rfl (Nat.le_of_ble_eq_true rfl) ?_
    refine x_iload_2 cK_letOutByWay_37 ?_
    refine x_bipush 30 (by decide) cK_letOutByWay_38 ?_
    refine x_icmp_le cK_letOutByWay_40 (fun q40 => ?_) (fun q40 => ?_)
    · refine x_aload_0 cK_letOutByWay_45 ?_
      refine x_gR (b := 79) cK_letOutByWay_46 fK_53 rfl rfl rfl ?_
      refine x_gR (b := 80) cK_letOutByWay_49 fK_136 rfl rfl rfl ?_
      refine x_iload_1 cK_letOutByWay_52 ?_
      refine x_iload_2 cK_letOutByWay_53 ?_
      refine x_s3 (ls0 := [some _, some _, some _]) cK_letOutByWay_54 kK_163 okK_put ⟨(Nat.le_of_ble_eq_true rfl), (Nat.le_of_ble_eq_true rfl)⟩ (Nat.le_of_ble_eq_true rfl) rfl (Nat.le_of_ble_eq_true rfl) rfl rfl (Nat.zero_le _) (Nat.zero_le _) ?_
      refine s_put k rfl rfl (by omega) (by decide) ?_
      dsimp only [pushR]
      refine x_iinc_1 (nI (k + 1)) cK_letOutByWay_57 rfl (nI_inc k) (Nat.le_of_ble_eq_true rfl) ?_
      refine x_goto cK_letOutByWay_60 ?_
      exact ih (k + 1) (by omega) _ (fun a ha => by rw [u2_n ha]; exact hf a ha) (fun j hj => by
        rw [u2_g]
        by_cases e : j = k
        · rw [if_pos ⟨rfl, e⟩, e]
        · rw [if_neg (fun z => e z.2)]; exact hs j (by omega)) (fun j hj => by
        by_cases e : j = k
        · rw [e]; exact q40
        · exact hle j (by omega)) _
    · refine x_iconst 0 (by decide) cK_letOutByWay_43 ?_
      refine x_ireturn cK_letOutByWay_44 rfl rfl (Nat.zero_le _) (Nat.zero_le _) ?_
      exact h0 (fun z => q40 (z k hkc)) I' hf
theorem s_lobw {Po : Option Value → HS → Prop} {I : IT} {J : JT} {P : PT} {c : Nat} (hc : I 4 0 = nI c) (hc5 : c ≤ 5) (h1 : (∀ k, k < c → I 5 k + I 87 k ≤ 30) → ∀ I', (∀ a, a ≠ 80 → I' a = I a) → (∀ k, k < c → I' 80 k = I 5 k + I 87 k) → Po (some (.int 1)) (hp I' J P)) (h0 : ¬ (∀ k, k < c → I 5 k + I 87 k ≤ 30) → ∀ I', (∀ a, a ≠ 80 → I' a = I a) → Po (some (.int 0)) (hp I' J P)) : xj yK_letOutByWay (mG yK_letOutByWay Po) 0 [some (.ref 1), none, none] [] (hp I J P) 0 0 := by
  refine x_iconst 0 (by decide) cK_letOutByWay_0 ?_
  refine x_istore_1 cK_letOutByWay_1 rfl (Nat.le_of_ble_eq_true rfl) ?_
  exact s_lobw_loop hc hc5 h1 h0 c 0 (by omega) I (fun _ _ => rfl) (fun j hj => absurd hj (Nat.not_lt_zero j)) (fun j hj => absurd hj (Nat.not_lt_zero j)) _
theorem s_sbw_loop {Po : Option Value → HS → Prop} {I : IT} {J : JT} {P : PT} {c : Nat} (hc : I 4 0 = nI c) (hc5 : c ≤ 5) (hq : ∀ I', (∀ a, a ≠ 81 → I' a = I a) → (∀ k, k < c → I' 81 k = I 87 k - 2) → Po (some (.int (chI (I 6) (I 87) c))) (hp I' J P)) : ∀ n k, k + n = c → ∀ I', (∀ a, a ≠ 81 → I' a = I a) → (∀ j, j < k → I' 81 j = I 87 j - 2) → ∀ g, xj yK_setByWay (mG yK_setByWay Po) 4 [some (.ref 1), some (.int (chI (I 6) (I 87) k)), some (.int (nI k)), g] [] (hp I' J P) 0 0 := by
  intro n
  induction n with
  | zero =>
    intro k hk I' hf hs g
    obtain rfl : k = c := by omega
    have e4 : I' 4 = I 4 := hf 4 (by decide)
    refine x_iload_2 cK_setByWay_4 ?_
    refine x_aload_0 cK_setByWay_5 ?_
    refine x_gR (b := 4) cK_setByWay_6 fK_19 rfl rfl rfl ?_
    refine x_gI cK_setByWay_9 fK_106 rfl rfl ?_
    refine x_icmp_ge cK_setByWay_12 (fun q12 => ?_) (fun q12 => absurd q12 (fun z => z (by rw [e4, hc]; exact Int32.le_refl _)))
    refine x_iload_1 cK_setByWay_65 ?_
    refine x_ireturn cK_setByWay_66 rfl rfl (Nat.zero_le _) (Nat.zero_le _) ?_
    exact hq I' hf hs
  | succ n ih =>
    intro k hk I' hf hs g
    have hkc : k < c := by omega
    have e4 : I' 4 = I 4 := hf 4 (by decide)
    have e6 : I' 6 = I 6 := hf 6 (by decide)
    have e87 : I' 87 = I 87 := hf 87 (by decide)
    have J47 : ∀ v, v = chI (I 6) (I 87) (k + 1) → xj yK_setByWay (mG yK_setByWay Po) 47 [some (.ref 1), some (.int v), some (.int (nI k)), some (.int (I 87 k - 2))] [] (hp I' J P) 0 0 := by
      intro v ev
      subst ev
      refine x_aload_0 cK_setByWay_47 ?_
      refine x_gR (b := 79) cK_setByWay_48 fK_53 rfl rfl rfl ?_
      refine x_gR (b := 81) cK_setByWay_51 fK_144 rfl rfl rfl ?_
      refine x_iload_2 cK_setByWay_54 ?_
      refine x_iload_3 cK_setByWay_55 ?_
      refine x_s3 (ls0 := [some _, some _, some _]) cK_setByWay_56 kK_163 okK_put ⟨(Nat.le_of_ble_eq_true rfl), (Nat.le_of_ble_eq_true rfl)⟩ (Nat.le_of_ble_eq_true rfl) rfl (Nat.le_of_ble_eq_true rfl) rfl rfl (Nat.zero_le _) (Nat.zero_le _) ?_
      refine s_put k rfl rfl (by omega) (by decide) ?_
      dsimp only [pushR]
      refine x_iinc_2 (nI (k + 1)) cK_setByWay_59 rfl (nI_inc k) (Nat.le_of_ble_eq_true rfl) ?_
      refine x_goto cK_setByWay_62 ?_
      exact ih (k + 1) (by omega) _ (fun a ha => by rw [u2_n ha]; exact hf a ha) (fun j hj => by
        rw [u2_g]
        by_cases e : j = k
        · rw [if_pos ⟨rfl, e⟩, e]
        · rw [if_neg (fun z => e z.2)]; exact hs j (by omega)) _
    refine x_iload_2 cK_setByWay_4 ?_
    refine x_aload_0 cK_setByWay_5 ?_
    refine x_gR (b := 4) cK_setByWay_6 fK_19 rfl rfl rfl ?_
    refine x_gI cK_setByWay_9 fK_106 rfl rfl ?_
    refine x_icmp_ge cK_setByWay_12 (fun q12 => absurd q12 (by rw [e4, hc]; exact nI_ge hkc (by omega))) (fun q12 => ?_)
    refine x_aload_0 cK_setByWay_15 ?_
    refine x_gR (b := 86) cK_setByWay_16 fK_66 rfl rfl rfl ?_
    refine x_gR (b := 87) cK_setByWay_19 fK_283 rfl rfl rfl ?_
    refine x_iload_2 cK_setByWay_22 ?_
    refine x_s2 (ls0 := [some _, some _]) cK_setByWay_23 kK_140 okK_at ⟨(Nat.le_of_ble_eq_true rfl), (Nat.le_of_ble_eq_true rfl)⟩ (Nat.le_of_ble_eq_true rfl) rfl (Nat.le_of_ble_eq_true rfl) rfl rfl (Nat.zero_le _) (Nat.zero_le _) ?_
    refine s_at k rfl rfl (by omega) (by decide) ?_
    dsimp only [pushR]
    rw [e87]
    refine x_iconst 2 (by decide) cK_setByWay_26 ?_
    refine x_isub cK_setByWay_27 ?_
    refine x_istore_3 cK_setByWay_28 rfl (Nat.le_of_ble_eq_true rfl) ?_
    refine x_iload_3 cK_setByWay_29 ?_
    refine x_aload_0 cK_setByWay_30 ?_
    refine x_gR (b := 4) cK_setByWay_31 fK_19 rfl rfl rfl ?_
    refine x_gR (b := 6) cK_setByWay_34 fK_144 rfl rfl rfl ?_
    refine x_iload_2 cK_setByWay_37 ?_
    refine x_s2 (ls0 := [some _, some _]) cK_setByWay_38 kK_140 okK_at ⟨(Nat.le_of_ble_eq_true rfl), (Nat.le_of_ble_eq_true rfl)⟩ (Nat.le_of_ble_eq_true rfl) rfl (Nat.le_of_ble_eq_true rfl) rfl rfl (Nat.zero_le _) (Nat.zero_le _) ?_
    refine s_at k rfl rfl (by omega) (by decide) ?_
    dsimp only [pushR]
    rw [e6]
    refine x_icmp_eq cK_setByWay_41 (fun q41 => ?_) (fun q41 => ?_)
    · exact J47 _ (by simp only [chI]; rw [if_pos q41])
    · refine x_iinc_1 (_ + 1) cK_setByWay_44 rfl rfl (Nat.le_of_ble_eq_true rfl) ?_
      exact J47 _ (by simp only [chI]; rw [if_neg q41])
theorem s_sbw {Po : Option Value → HS → Prop} {I : IT} {J : JT} {P : PT} {c : Nat} (hc : I 4 0 = nI c) (hc5 : c ≤ 5) (hq : ∀ I', (∀ a, a ≠ 81 → I' a = I a) → (∀ k, k < c → I' 81 k = I 87 k - 2) → Po (some (.int (chI (I 6) (I 87) c))) (hp I' J P)) : xj yK_setByWay (mG yK_setByWay Po) 0 [some (.ref 1), none, none, none] [] (hp I J P) 0 0 := by
  refine x_iconst 0 (by decide) cK_setByWay_0 ?_
  refine x_istore_1 cK_setByWay_1 rfl (Nat.le_of_ble_eq_true rfl) ?_
  refine x_iconst 0 (by decide) cK_setByWay_2 ?_
  refine x_istore_2 cK_setByWay_3 rfl (Nat.le_of_ble_eq_true rfl) ?_
  exact s_sbw_loop hc hc5 hq c 0 (by omega) I (fun _ _ => rfl) (fun j hj => absurd hj (Nat.not_lt_zero j)) _
/-- the trial line is the line but for a row that the search sets -/
def TrOk (I : IT) (c b : Nat) : Prop := I 79 0 = nI c ∧ (∀ j, 1 ≤ j → j ≤ 4 → I 79 j = I 4 j) ∧ ∀ k, k < c → (b = 80 ∨ I 80 k = I 5 k) ∧ (b = 81 ∨ I 81 k = I 6 k) ∧ I 82 k = I 7 k
def costY (c : Nat) (t : Nat) : Int32 := sumI (fun k => nI (dig 4 c t k)) c
def numW (b c : Nat) (t : Nat) : Int32 := numI (fun k => nI (dig b c t k)) c
def okY (D : LD) (c : Nat) (x : Int32) (t : Nat) : Prop := (∀ k, k < c → dY D k + nI (dig 4 c t k) ≤ 30) ∧ Vd (wyD D (dig 4 c t)) c x
def costB (D : LD) (c : Nat) (t : Nat) : Int32 := chI (dB D) (fun k => nI (dig 5 c t k)) c
def okB (D : LD) (c : Nat) (x : Int32) (t : Nat) : Prop := Vd (wbD D (dig 5 c t)) c x
theorem s_seekYards_loop {Po : Option Value → HS → Prop} {I : IT} {J : JT} {P : PT} {c : Nat} {x : Int32} (hc : I 4 0 = nI c) (hc5 : c ≤ 5) (hq : ∀ I', SameC I I' → Sch (costY c) (numW 4 c) (okY (lnD I 4) c x) (4 ^ c) (I' 88 0) (I' 88 1) → Po none (hp I' J P)) : ∀ n t, t + n = 4 ^ c → ∀ I', (∀ a, (a < 79 ∨ 89 < a) → I' a = I a) → TrOk I' c 80 → I' 86 1 = nI c → I' 86 2 = nI 3 → ∀ f, Fg I' c 4 f → (t < 4 ^ c → val 4 f c = t) → Sch (costY c) (numW 4 c) (okY (lnD I 4) c x) t (I' 88 0) (I' 88 1) → ∀ g, xj yK_seekYards (mG yK_seekYards Po) 43 [some (.ref 1), some (.int x), some (.int (nI (4 ^ c))), some (.int (nI t)), g] [] (hp I' J P) 0 0 := by
  have hpow : 4 ^ c ≤ 1024 := Nat.le_trans (Nat.pow_le_pow_right (by decide) hc5) (by decide)
  intro n
  induction n with
  | zero =>
    intro t ht I' hf hT hw1 hw2 f hF hv hS g
    obtain rfl : t = 4 ^ c := by omega
    refine x_iload_3 cK_seekYards_43 ?_
    refine x_iload_2 cK_seekYards_44 ?_
    refine x_icmp_ge cK_seekYards_45 (fun q45 => ?_) (fun q45 => absurd q45 (fun z => z (Int32.le_refl _)))
    refine x_return cK_seekYards_113 rfl (Nat.zero_le _) (Nat.zero_le _) ?_
    exact hq I' hf hS
  | succ n ih =>
    intro t ht I' hf hT hw1 hw2 f hF hv hS g
    have htl : t < 4 ^ c := by omega
    have hvt := hv htl
    have hdig : ∀ k, k < c → f k = dig 4 c t k := fun k hk => by rw [val_dig (b := 4) (by decide) c (fun j hj => (hF j hj).2) k hk, hvt]; rfl
    have hfd : ∀ k, k < c → I' 87 k = nI (dig 4 c t k) := fun k hk => by rw [(hF k hk).1, hdig k hk]
    have hnum : numI (I' 87) c = numW 4 c t := numI_ext c hfd
    have e4 : I' 4 = I 4 := hf 4 (by decide)
    have e5 : I' 5 = I 5 := hf 5 (by decide)
    have e6 : I' 6 = I 6 := hf 6 (by decide)
    have e7 : I' 7 = I 7 := hf 7 (by decide)
    have hcost : sumI (I' 87) c = (costY c) t := sumI_ext c hfd
    have JT : ∀ I2, (∀ a, (a < 79 ∨ 89 < a) → I2 a = I a) → TrOk I2 c 80 → I2 86 = I' 86 → I2 87 = I' 87 → Sch (costY c) (numW 4 c) (okY (lnD I 4) c x) (t + 1) (I2 88 0) (I2 88 1) → ∀ g2, xj yK_seekYards (mG yK_seekYards Po) 100 [some (.ref 1), some (.int x), some (.int (nI (4 ^ c))), some (.int (nI t)), g2] [] (hp I2 J P) 0 0 := by
      intro I2 kf kT k86 k87 kS g2
      have hF2 : Fg I2 c 4 f := fun k hk => by rw [k87]; exact hF k hk
      refine x_aload_0 cK_seekYards_100 ?_
      refine x_gR (b := 86) cK_seekYards_101 fK_66 rfl rfl rfl ?_
      refine x_v0 (ls0 := [some _, none]) cK_seekYards_104 kK_280 okWay_step ⟨(Nat.le_of_ble_eq_true rfl), (Nat.le_of_ble_eq_true rfl)⟩ (Nat.le_of_ble_eq_true rfl) rfl (Nat.le_of_ble_eq_true rfl) rfl ⟨_, rfl, rfl⟩ rfl rfl (Nat.zero_le _) (Nat.zero_le _) ?_
      refine s_Way_step (b := 4) (f := f) (by rw [k86]; exact hw1) hc5 (by decide) (by decide) (by rw [k86]; exact hw2) hF2 (fun I3 m1 m2 => ?_)
      dsimp only [pushR]
      refine x_iinc_3 (nI (t + 1)) cK_seekYards_107 rfl (nI_inc t) (Nat.le_of_ble_eq_true rfl) ?_
      refine x_goto cK_seekYards_110 ?_
      refine ih (t + 1) (by omega) I3 (fun a ha => by rw [m1 a (by omega)]; exact kf a ha) ?_ (by rw [m1 86 (by decide), k86]; exact hw1) (by rw [m1 86 (by decide), k86]; exact hw2) _ m2 (fun h => by rw [nxt_val (by decide) c f (fun k hk => (hF k hk).2) (by rw [hvt]; exact h), hvt]) (by rw [m1 88 (by decide)]; exact kS) _
      obtain ⟨t1, t2, t3⟩ := kT
      refine ⟨by rw [m1 79 (by decide)]; exact t1, fun j h1 h2 => by rw [m1 79 (by decide), m1 4 (by decide)]; exact t2 j h1 h2, fun k hk => ?_⟩
      rw [m1 80 (by decide), m1 81 (by decide), m1 82 (by decide), m1 5 (by decide), m1 6 (by decide), m1 7 (by decide)]
      exact t3 k hk
    refine x_iload_3 cK_seekYards_43 ?_
    refine x_iload_2 cK_seekYards_44 ?_
    refine x_icmp_ge cK_seekYards_45 (fun q45 => absurd q45 (nI_ge htl (by omega))) (fun q45 => ?_)
    refine x_aload_0 cK_seekYards_48 ?_
    refine x_gR (b := 86) cK_seekYards_49 fK_66 rfl rfl rfl ?_
    refine x_v0 (ls0 := [some _, none, none]) cK_seekYards_52 kK_262 okWay_sum ⟨(Nat.le_of_ble_eq_true rfl), (Nat.le_of_ble_eq_true rfl)⟩ (Nat.le_of_ble_eq_true rfl) rfl (Nat.le_of_ble_eq_true rfl) rfl ⟨_, rfl, rfl⟩ rfl rfl (Nat.zero_le _) (Nat.zero_le _) ?_
    refine s_Way_sum hw1 hc5 ?_
    dsimp only [pushR]
    refine x_top (costY c t) hcost ?_
    refine x_istore_4 cK_seekYards_55 rfl (Nat.le_of_ble_eq_true rfl) ?_
    refine x_aload_0 cK_seekYards_57 ?_
    refine x_gR (b := 88) cK_seekYards_58 fK_73 rfl rfl rfl ?_
    refine x_iload_4 cK_seekYards_61 ?_
    refine x_v1 (ls0 := [some _, some _]) cK_seekYards_63 kK_265 okBest_wants ⟨(Nat.le_of_ble_eq_true rfl), (Nat.le_of_ble_eq_true rfl)⟩ (Nat.le_of_ble_eq_true rfl) rfl (Nat.le_of_ble_eq_true rfl) rfl ⟨_, rfl, rfl⟩ rfl rfl (Nat.zero_le _) (Nat.zero_le _) ?_
    refine s_Best_wants (fun hwn => ?_) (fun hwn => ?_)
    · dsimp only [pushR]
      refine x_if_eq cK_seekYards_66 (fun q => absurd q (by decide)) (fun _ => ?_)
      refine x_aload_0 cK_seekYards_69 ?_
      refine x_v0 (ls0 := [some _, none, none]) cK_seekYards_70 kK_268 okK_letOutByWay ⟨(Nat.le_of_ble_eq_true rfl), (Nat.le_of_ble_eq_true rfl)⟩ (Nat.le_of_ble_eq_true rfl) rfl (Nat.le_of_ble_eq_true rfl) rfl ⟨_, rfl, rfl⟩ rfl rfl (Nat.zero_le _) (Nat.zero_le _) ?_
      refine s_lobw (c := c) (by rw [e4]; exact hc) hc5 (fun hle I2 l1 l2 => ?_) (fun hle I2 l1 => ?_)
      · dsimp only [pushR]
        refine x_if_eq cK_seekYards_73 (fun q => absurd q (by decide)) (fun _ => ?_)
        refine x_aload_0 cK_seekYards_76 ?_
        refine x_iload_1 cK_seekYards_77 ?_
        refine x_v1 (ls0 := [some _, some _]) cK_seekYards_78 kK_272 okK_trialViews ⟨(Nat.le_of_ble_eq_true rfl), (Nat.le_of_ble_eq_true rfl)⟩ (Nat.le_of_ble_eq_true rfl) rfl (Nat.le_of_ble_eq_true rfl) rfl ⟨_, rfl, rfl⟩ rfl rfl (Nat.zero_le _) (Nat.zero_le _) ?_
        have hLE : LEq (lnD I2 79) (wyD (lnD I 4) (dig 4 c t)) c := by
          obtain ⟨t1, t2, t3⟩ := hT
          refine ⟨fun k hk => ⟨?_, ?_, ?_⟩, ?_, ?_, ?_, ?_⟩
          · show I2 80 k = I 5 k + nI (dig 4 c t k)
            rw [l2 k hk, e5, hfd k hk]
          · show I2 81 k = I 6 k
            rw [l1 81 (by decide), ← e6]
            exact (t3 k hk).2.1.resolve_left (by decide)
          · show I2 82 k = I 7 k
            rw [l1 82 (by decide), ← e7]
            exact (t3 k hk).2.2
          · show I2 79 1 = I 4 1
            rw [l1 79 (by decide), ← e4]; exact t2 1 (by decide) (by decide)
          · show I2 79 2 = I 4 2
            rw [l1 79 (by decide), ← e4]; exact t2 2 (by decide) (by decide)
          · show I2 79 3 = I 4 3
            rw [l1 79 (by decide), ← e4]; exact t2 3 (by decide) (by decide)
          · show I2 79 4 = I 4 4
            rw [l1 79 (by decide), ← e4]; exact t2 4 (by decide) (by decide)
        have hT2 : ∀ I3, FlOut I2 I3 (lnD I2 79) c → TrOk I3 c 80 := fun I3 hF3 => by
          have hk : ∀ a, a ≠ 80 → a ≠ 83 → a ≠ 84 → a ≠ 85 → I3 a = I' a := fun a h1 h2 h3 h4 => by rw [hF3.1 a h2 h3 h4, l1 a h1]
          obtain ⟨t1, t2, t3⟩ := hT
          refine ⟨by rw [hk 79 (by decide) (by decide) (by decide) (by decide)]; exact t1, fun j h1 h2 => by rw [hk 79 (by decide) (by decide) (by decide) (by decide), hk 4 (by decide) (by decide) (by decide) (by decide)]; exact t2 j h1 h2, fun k hk2 => ?_⟩
          rw [hk 81 (by decide) (by decide) (by decide) (by decide), hk 82 (by decide) (by decide) (by decide) (by decide), hk 6 (by decide) (by decide) (by decide) (by decide), hk 7 (by decide) (by decide) (by decide) (by decide)]
          exact ⟨Or.inl rfl, (t3 k hk2).2.1, (t3 k hk2).2.2⟩
        have hle2 : ∀ k, k < c → dY (lnD I 4) k + nI (dig 4 c t k) ≤ 30 := fun k hk => by
          have := hle k hk
          rw [e5, hfd k hk] at this
          exact this
        have h79 : I2 79 0 = nI c := by rw [l1 79 (by decide)]; exact hT.1
        refine s_trialViews (c := c) h79 hc5 (fun hv1 I3 hF3 => ?_) (fun hv1 I3 hF3 => ?_)
        · dsimp only [pushR]
          have hok : okY (lnD I 4) c x t := ⟨hle2, (hLE.vd x).mp hv1⟩
          refine x_if_eq cK_seekYards_81 (fun q => absurd q (by decide)) (fun _ => ?_)
          refine x_aload_0 cK_seekYards_84 ?_
          refine x_gR (b := 88) cK_seekYards_85 fK_73 rfl rfl rfl ?_
          refine x_iload_4 cK_seekYards_88 ?_
          refine x_aload_0 cK_seekYards_90 ?_
          refine x_gR (b := 86) cK_seekYards_91 fK_66 rfl rfl rfl ?_
          refine x_v0 (ls0 := [some _, none, none]) cK_seekYards_94 kK_275 okWay_number ⟨(Nat.le_of_ble_eq_true rfl), (Nat.le_of_ble_eq_true rfl)⟩ (Nat.le_of_ble_eq_true rfl) rfl (Nat.le_of_ble_eq_true rfl) rfl ⟨_, rfl, rfl⟩ rfl rfl (Nat.zero_le _) (Nat.zero_le _) ?_
          refine s_Way_number (c := c) (by rw [hF3.1 86 (by decide) (by decide) (by decide), l1 86 (by decide)]; exact hw1) hc5 ?_
          dsimp only [pushR]
          refine x_v2 (ls0 := [some _, some _, some _]) cK_seekYards_97 kK_277 okBest_keepThis ⟨(Nat.le_of_ble_eq_true rfl), (Nat.le_of_ble_eq_true rfl)⟩ (Nat.le_of_ble_eq_true rfl) rfl (Nat.le_of_ble_eq_true rfl) rfl ⟨_, rfl, rfl⟩ rfl rfl (Nat.zero_le _) (Nat.zero_le _) ?_
          refine s_Best_keepThis ?_
          dsimp only [pushR]
          have k88 : I3 88 = I' 88 := by rw [hF3.1 88 (by decide) (by decide) (by decide), l1 88 (by decide)]
          have k87 : I3 87 = I' 87 := by rw [hF3.1 87 (by decide) (by decide) (by decide), l1 87 (by decide)]
          refine JT _ (fun a ha => by rw [u2_n (by omega), u2_n (by omega), hF3.1 a (by omega) (by omega) (by omega), l1 a (by omega)]; exact hf a ha) ?_ (by rw [u2_n (by decide), u2_n (by decide), hF3.1 86 (by decide) (by decide) (by decide), l1 86 (by decide)]) (by rw [u2_n (by decide), u2_n (by decide), k87]) ⟨_, _, hS, fun _ => ⟨?_, ?_⟩, fun z => absurd ⟨hwn, hok⟩ z⟩ _
          · obtain ⟨t1, t2, t3⟩ := hT2 I3 hF3
            refine ⟨by rw [u2_n (by decide), u2_n (by decide)]; exact t1, fun j h1 h2 => by rw [u2_n (by decide), u2_n (by decide), u2_n (by decide), u2_n (by decide)]; exact t2 j h1 h2, fun k hk => ?_⟩
            have := t3 k hk
            rw [u2_n (by decide), u2_n (by decide), u2_n (by decide), u2_n (by decide), u2_n (by decide), u2_n (by decide), u2_n (by decide), u2_n (by decide), u2_n (by decide), u2_n (by decide), u2_n (by decide), u2_n (by decide)]
            exact this
          · rw [u2_sn (by decide), u2_ss]
          · rw [u2_ss, k87, hnum]
        · dsimp only [pushR]
          have hnok : ¬ okY (lnD I 4) c x t := fun z => hv1 ((hLE.vd x).mpr z.2)
          refine x_if_eq cK_seekYards_81 (fun _ => ?_) (fun q => absurd rfl q)
          refine JT I3 (fun a ha => by rw [hF3.1 a (by omega) (by omega) (by omega), l1 a (by omega)]; exact hf a ha) (hT2 I3 hF3) (by rw [hF3.1 86 (by decide) (by decide) (by decide), l1 86 (by decide)]) (by rw [hF3.1 87 (by decide) (by decide) (by decide), l1 87 (by decide)]) ⟨_, _, hS, fun z => absurd z.2 hnok, fun _ => ?_⟩ _
          rw [hF3.1 88 (by decide) (by decide) (by decide), l1 88 (by decide)]
          exact ⟨rfl, rfl⟩
      · dsimp only [pushR]
        have hnok : ¬ okY (lnD I 4) c x t := fun z => hle (fun k hk => by rw [e5, hfd k hk]; exact z.1 k hk)
        refine x_if_eq cK_seekYards_73 (fun _ => ?_) (fun q => absurd rfl q)
        refine JT I2 (fun a ha => by rw [l1 a (by omega)]; exact hf a ha) ?_ (by rw [l1 86 (by decide)]) (by rw [l1 87 (by decide)]) ⟨_, _, hS, fun z => absurd z.2 hnok, fun _ => ?_⟩ _
        · obtain ⟨t1, t2, t3⟩ := hT
          refine ⟨by rw [l1 79 (by decide)]; exact t1, fun j h1 h2 => by rw [l1 79 (by decide), l1 4 (by decide)]; exact t2 j h1 h2, fun k hk => ?_⟩
          rw [l1 81 (by decide), l1 82 (by decide), l1 6 (by decide), l1 7 (by decide)]
          exact ⟨Or.inl rfl, (t3 k hk).2.1, (t3 k hk).2.2⟩
        · rw [l1 88 (by decide)]
          exact ⟨rfl, rfl⟩
    · dsimp only [pushR]
      refine x_if_eq cK_seekYards_66 (fun _ => ?_) (fun q => absurd rfl q)
      exact JT I' hf hT rfl rfl ⟨_, _, hS, fun z => absurd z.1 hwn, fun _ => ⟨rfl, rfl⟩⟩ _
theorem s_seekYards {Po : Option Value → HS → Prop} {I : IT} {J : JT} {P : PT} {c : Nat} {x : Int32} (hc : I 4 0 = nI c) (hc5 : c ≤ 5) (hq : ∀ I', SameC I I' → Sch (costY c) (numW 4 c) (okY (lnD I 4) c x) (4 ^ c) (I' 88 0) (I' 88 1) → Po none (hp I' J P)) : xj yK_seekYards (mG yK_seekYards Po) 0 [some (.ref 1), some (.int x), none, none, none] [] (hp I J P) 0 0 := by
  have hmost : powI (nI 3 + 1) c = nI (4 ^ c) := powI_n 4 c
  refine x_aload_0 cK_seekYards_0 ?_
  refine x_gR (b := 88) cK_seekYards_1 fK_73 rfl rfl rfl ?_
  refine x_v0 (ls0 := [some _]) cK_seekYards_4 kK_252 okBest_clear ⟨(Nat.le_of_ble_eq_true rfl), (Nat.le_of_ble_eq_true rfl)⟩ (Nat.le_of_ble_eq_true rfl) rfl (Nat.le_of_ble_eq_true rfl) rfl ⟨_, rfl, rfl⟩ rfl rfl (Nat.zero_le _) (Nat.zero_le _) ?_
  refine s_Best_clear ?_
  dsimp only [pushR]
  refine x_aload_0 cK_seekYards_7 ?_
  refine x_gR (b := 79) cK_seekYards_8 fK_53 rfl rfl rfl ?_
  refine x_aload_0 cK_seekYards_11 ?_
  refine x_gR (b := 4) cK_seekYards_12 fK_19 rfl rfl rfl ?_
  refine x_v1 (ls0 := [some _, some _]) cK_seekYards_15 kK_239 okLine_take ⟨(Nat.le_of_ble_eq_true rfl), (Nat.le_of_ble_eq_true rfl)⟩ (Nat.le_of_ble_eq_true rfl) rfl (Nat.le_of_ble_eq_true rfl) rfl ⟨_, rfl, rfl⟩ rfl rfl (Nat.zero_le _) (Nat.zero_le _) ?_
  refine s_take (A := 79) (B := 4) (c := c) ln_79 ln_4 (by decide) (by rw [u2_n (by decide), u2_n (by decide)]; exact hc) hc5 (fun I1 hC => ?_)
  obtain ⟨c1, c2, c3, c4⟩ := hC
  dsimp only [pushR]
  refine x_aload_0 cK_seekYards_18 ?_
  refine x_gR (b := 86) cK_seekYards_19 fK_66 rfl rfl rfl ?_
  refine x_aload_0 cK_seekYards_22 ?_
  refine x_gR (b := 4) cK_seekYards_23 fK_19 rfl rfl rfl ?_
  refine x_gI cK_seekYards_26 fK_106 rfl rfl ?_
  refine x_iconst 3 (by decide) cK_seekYards_29 ?_
  refine x_v2 (ls0 := [some _, some _, some _, none]) cK_seekYards_30 kK_255 okWay_start ⟨(Nat.le_of_ble_eq_true rfl), (Nat.le_of_ble_eq_true rfl)⟩ (Nat.le_of_ble_eq_true rfl) rfl (Nat.le_of_ble_eq_true rfl) rfl ⟨_, rfl, rfl⟩ rfl rfl (Nat.zero_le _) (Nat.zero_le _) ?_
  refine s_Way_start (fun I2 w1 w2 w3 w4 => ?_)
  have hw1 : I2 86 1 = nI c := by rw [w2, c1 4 (by decide) (by decide) (by decide) (by decide), u2_n (by decide), u2_n (by decide), hc]
  have hw2 : I2 86 2 = nI 3 := w3
  dsimp only [pushR]
  refine x_aload_0 cK_seekYards_33 ?_
  refine x_gR (b := 86) cK_seekYards_34 fK_66 rfl rfl rfl ?_
  refine x_v0 (ls0 := [some _, none, none]) cK_seekYards_37 kK_259 okWay_most ⟨(Nat.le_of_ble_eq_true rfl), (Nat.le_of_ble_eq_true rfl)⟩ (Nat.le_of_ble_eq_true rfl) rfl (Nat.le_of_ble_eq_true rfl) rfl ⟨_, rfl, rfl⟩ rfl rfl (Nat.zero_le _) (Nat.zero_le _) ?_
  refine s_Way_most hw1 hc5 ?_
  dsimp only [pushR]
  refine x_top (nI (4 ^ c)) (by rw [hw2]; exact hmost) ?_
  refine x_istore_2 cK_seekYards_40 rfl (Nat.le_of_ble_eq_true rfl) ?_
  refine x_iconst 0 (by decide) cK_seekYards_41 ?_
  refine x_istore_3 cK_seekYards_42 rfl (Nat.le_of_ble_eq_true rfl) ?_
  have hz : ∀ a, a ≠ 79 → a ≠ 80 → a ≠ 81 → a ≠ 82 → a ≠ 86 → a ≠ 87 → I2 a = u2 (u2 I 88 0 (-9)) 88 1 (-9) a := fun a h1 h2 h3 h4 h5 h6 => by rw [w1 a h5 h6, c1 a h1 h2 h3 h4]
  have z4 : I2 4 = I 4 := by rw [hz 4 (by decide) (by decide) (by decide) (by decide) (by decide) (by decide), u2_n (by decide), u2_n (by decide)]
  have z5 : I2 5 = I 5 := by rw [hz 5 (by decide) (by decide) (by decide) (by decide) (by decide) (by decide), u2_n (by decide), u2_n (by decide)]
  have z6 : I2 6 = I 6 := by rw [hz 6 (by decide) (by decide) (by decide) (by decide) (by decide) (by decide), u2_n (by decide), u2_n (by decide)]
  have z7 : I2 7 = I 7 := by rw [hz 7 (by decide) (by decide) (by decide) (by decide) (by decide) (by decide), u2_n (by decide), u2_n (by decide)]
  refine s_seekYards_loop (I := I) hc hc5 hq (4 ^ c) 0 (by omega) I2 (fun a ha => ?_) ?_ ?_ ?_ (fun _ => 0) (fun k hk => ⟨w4 k (by omega), show 0 < 4 by decide⟩) (fun _ => ?_) ?_ _
  · rw [hz a (by omega) (by omega) (by omega) (by omega) (by omega) (by omega), u2_n (by omega), u2_n (by omega)]
  · refine ⟨by rw [w1 79 (by decide) (by decide)]; exact c2, fun j h1 h2 => ?_, fun k hk => ?_⟩
    · rw [w1 79 (by decide) (by decide), c3 j h1 h2, z4, u2_n (by decide), u2_n (by decide)]
    · obtain ⟨d1, d2, d3⟩ := c4 k hk
      rw [w1 80 (by decide) (by decide), w1 81 (by decide) (by decide), w1 82 (by decide) (by decide), z5, z6, z7, d1, d2, d3, u2_n (by decide), u2_n (by decide), u2_n (by decide), u2_n (by decide), u2_n (by decide), u2_n (by decide)]
      exact ⟨Or.inr rfl, Or.inr rfl, rfl⟩
  · exact hw1
  · exact hw2
  · have hv0 : ∀ m, val 4 (fun _ => 0) m = 0 := fun m => by
      induction m with
      | zero => rfl
      | succ m ih => simp [val, ih]
    exact hv0 c
  · rw [hz 88 (by decide) (by decide) (by decide) (by decide) (by decide) (by decide), u2_ss, u2_sn (by decide), u2_ss]
    exact ⟨rfl, rfl⟩
