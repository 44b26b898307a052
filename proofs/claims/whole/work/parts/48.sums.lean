theorem abs_n {x : Int32} {n : Int} (h : sm x n) (hn : n < 2147483648) : ∃ a, a < 2 ^ 31 ∧ absI x = nI a := by
  have e0 : (0 : Int32).toInt = 0 := by decide
  obtain ⟨h1, h2⟩ := h
  have hx : ¬ absI x < 0 := by
    unfold absI
    by_cases z : 0 ≤ x
    · rw [if_pos z]; exact Int32.not_lt.mpr z
    · rw [if_neg z, Int32.lt_iff_toInt_lt, fb_negI (by omega), e0]
      rw [Int32.le_iff_toInt_le, e0] at z
      omega
  exact nI_of hx
theorem sm_add {x y : Int32} {n m : Int} (hx : sm x n) (hy : sm y m) (h : n + m < 1000000000) : sm (x + y) (n + m) := by
  obtain ⟨x1, x2⟩ := hx
  obtain ⟨y1, y2⟩ := hy
  have e : (x + y).toInt = x.toInt + y.toInt := fb_addI (by omega) (by omega)
  exact ⟨by omega, by omega⟩
theorem sm_sub {x y : Int32} {n m : Int} (hx : sm x n) (hy : sm y m) (h : n + m < 1000000000) : sm (x - y) (n + m) := by
  obtain ⟨x1, x2⟩ := hx
  obtain ⟨y1, y2⟩ := hy
  have e : (x - y).toInt = x.toInt - y.toInt := fb_subI (by omega) (by omega)
  exact ⟨by omega, by omega⟩
theorem sm_mulN {x : Int32} {k : Nat} {n : Int} (hx : sm x n) (hk : k ≤ 1000) (h : n ≤ 1000) : sm (nI k * x) (k * n) := by
  obtain ⟨x1, x2⟩ := hx
  have ek : (nI k).toInt = k := nI_toInt (by omega)
  have hk0 : (0 : Int) ≤ k := by omega
  have a1 : (k : Int) * x.toInt ≤ k * n := Int.mul_le_mul_of_nonneg_left x2 hk0
  have a2 : (k : Int) * (-n) ≤ k * x.toInt := Int.mul_le_mul_of_nonneg_left x1 hk0
  have a3 : (k : Int) * n ≤ 1000 * 1000 := by
    rcases Int.lt_or_le n 0 with z | z
    · have : (k : Int) * n ≤ k * 0 := Int.mul_le_mul_of_nonneg_left (by omega) hk0
      omega
    · exact Int.mul_le_mul (by omega) h z (by decide)
  rw [Int.mul_neg] at a2
  have e : (nI k * x).toInt = (nI k).toInt * x.toInt := fb_mulI (by rw [ek]; omega) (by rw [ek]; omega)
  rw [ek] at e
  exact ⟨by omega, by omega⟩
theorem vo_sm {D : LD} {c m : Nat} (h : LR D c) (hc5 : c ≤ 5) : sm (voI D c m) 100 := by
  have hs := sel_le m c
  have hr := h.pkr (m := m)
  have hp := (hr.lb.fp (by omega) _ (Nat.le_refl _)).up (m := 30) (by omega)
  have hV := hr.v4 (by omega)
  unfold voI
  rw [← cv_vw hp hV]
  by_cases h0 : 0 < sel m c ∧ fF (dpk D c m) (sel m c) = 0
  · have := cv_i h0 hp hV 19 (by decide)
    obtain ⟨p1, p2⟩ := hp
    exact ⟨by omega, by omega⟩
  · rw [cv_0s h0]
    exact sm_0 (by decide)
theorem fct_le : ∀ k, k ≤ 5 → fct k ≤ 120 := by decide +kernel
theorem fct2_le : ∀ c, c ≤ 5 → ∀ k, k ≤ 5 → fct k * fct (c - 1 - k) ≤ 500 := by decide +kernel
theorem pop_le : ∀ m, m < 32 → popc m ≤ 5 := by decide +kernel
theorem sh_sm {D : LD} {c j : Nat} (h : LR D c) (hc5 : c ≤ 5) : ∀ m, m ≤ 32 → sm (shS D c j m) (m * 100000)
  | 0, _ => sm_0 (by decide)
  | m + 1, hm => by
    have ih := sh_sm (j := j) h hc5 m (by omega)
    simp only [shS]
    split
    · exact ih.up (by omega)
    · rw [pk_mul]
      have hv := sm_sub (vo_sm (m := m ||| 2 ^ j) h hc5) (vo_sm (m := m) h hc5) (by decide)
      have hf := fct2_le c hc5 (popc m) (pop_le m (by omega))
      have hp := sm_mulN (k := fct (popc m) * fct (c - 1 - popc m)) hv (by omega) (by decide)
      refine (sm_add ih (hp.up (m := 100000) ?_) (by omega)).up (by omega)
      omega
/-- what the class's and the model's share ask of the sum -/
theorem LR.hab {D : LD} {c : Nat} (h : LR D c) (hc5 : c ≤ 5) : ∀ j, j < c → ∃ a, a < 2 ^ 31 ∧ absI (shS D c j (2 ^ c)) = nI a := fun j _ => by
  have h32 : 2 ^ c ≤ 32 := Nat.le_trans (Nat.pow_le_pow_right (by decide) hc5) (by decide)
  exact abs_n (sh_sm h hc5 (2 ^ c) h32) (by omega)
theorem wt_sm {x y : Int32} {g : Nat} (hx : 0 ≤ x ∧ x ≤ 10) (hy : 0 ≤ y ∧ y ≤ 10) : sm (wtI x y g) 100 := by
  obtain ⟨a, ha, rfl⟩ := nI_of2 (M := 10) (n := 10) (by decide) (Int32.not_lt.mpr hx.1) hx.2
  obtain ⟨b, hb, rfl⟩ := nI_of2 (M := 10) (n := 10) (by decide) (Int32.not_lt.mpr hy.1) hy.2
  unfold wtI
  rw [show (10 : Int32) - nI a = nI (10 - a) from pk_sub (a := 10) ha, show (10 : Int32) - nI b = nI (10 - b) from pk_sub (a := 10) hb]
  have key : ∀ u v : Nat, u ≤ 10 → v ≤ 10 → sm (nI u * nI v) 100 := fun u v hu hv => by
    rw [pk_mul]
    have := Nat.mul_le_mul hu hv
    have e : (nI (u * v)).toInt = (u * v : Nat) := nI_toInt (by omega)
    exact ⟨by omega, by omega⟩
  split <;> split
  · exact key _ _ ha hb
  · exact key _ _ ha (by omega)
  · exact key _ _ (by omega) hb
  · exact key _ _ (by omega) (by omega)
theorem mg_sm {D : LD} {c : Nat} {x y : Int32} (hx : 0 ≤ x ∧ x ≤ 10) (hy : 0 ≤ y ∧ y ≤ 10) : ∀ g, g ≤ 4 → sm (mgS D c x y g) (g * 100)
  | 0, _ => sm_0 (by decide)
  | g + 1, hg => by
    have ih := mg_sm (D := D) (c := c) hx hy g (by omega)
    simp only [mgS]
    split
    · exact (sm_add ih (wt_sm hx hy) (by omega)).up (by omega)
    · rw [Int32.add_zero]; exact ih.up (by omega)
theorem gu_ab {D : LD} {c : Nat} {x y : Int32} (hx : 0 ≤ x ∧ x ≤ 10) (hy : 0 ≤ y ∧ y ≤ 10) : ∃ a, a < 2 ^ 31 ∧ absI (guS D c x y) = nI a := by
  rw [← mg_gu]
  exact abs_n (mg_sm hx hy 4 (by decide)) (by decide)
