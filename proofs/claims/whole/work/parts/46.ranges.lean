/-! ranges: nothing overflows -/
def sm (x : Int32) (n : Int) : Prop := -n ≤ x.toInt ∧ x.toInt ≤ n
theorem far_abs {a b : Int32} (ha : sm a 1000) (hb : sm b 1000) : farI a b = absI (a - b) := by
  have h1 : (a - b).toInt = a.toInt - b.toInt := fb_subI (by have := ha.1; have := hb.2; omega) (by have := ha.2; have := hb.1; omega)
  have h0 : (0 : Int32).toInt = 0 := by decide
  unfold farI absI
  by_cases h : b ≤ a
  · rw [if_pos h, if_pos]
    rw [Int32.le_iff_toInt_le, h1, h0]
    rw [Int32.le_iff_toInt_le] at h
    omega
  · rw [if_neg h, if_neg]
    · exact (Int32.neg_sub).symm
    · intro z
      rw [Int32.le_iff_toInt_le, h1, h0] at z
      rw [Int32.le_iff_toInt_le] at h
      omega
theorem abs_sw {a b : Int32} (ha : sm a 1000) (hb : sm b 1000) : absI (a - b) = absI (b - a) := by
  have h1 : (a - b).toInt = a.toInt - b.toInt := fb_subI (by have := ha.1; have := hb.2; omega) (by have := ha.2; have := hb.1; omega)
  have h2 : (b - a).toInt = b.toInt - a.toInt := fb_subI (by have := hb.1; have := ha.2; omega) (by have := hb.2; have := ha.1; omega)
  have h0 : (0 : Int32).toInt = 0 := by decide
  unfold absI
  by_cases h : 0 ≤ a - b
  · rw [if_pos h]
    by_cases g : 0 ≤ b - a
    · rw [if_pos g]
      rw [Int32.le_iff_toInt_le, h1, h0] at h
      rw [Int32.le_iff_toInt_le, h2, h0] at g
      apply Int32.toInt.inj
      rw [h1, h2]
      omega
    · rw [if_neg g]; exact (Int32.neg_sub).symm
  · rw [if_neg h]
    have g : 0 ≤ b - a := by
      rw [Int32.le_iff_toInt_le, h2, h0]
      rw [Int32.le_iff_toInt_le, h1, h0] at h
      omega
    rw [if_pos g]
    exact Int32.neg_sub
/-- the winds and the bridles of a line are small -/
def LB (D : LD) (c : Nat) : Prop := sm (dLo D) 3 ∧ sm (dHi D) 3 ∧ ∀ k, k < c → sm (dB D k) 2
theorem sm_0 {n : Int} (h : 0 ≤ n) : sm 0 n := by
  have h0 : (0 : Int32).toInt = 0 := by decide
  unfold sm
  omega
theorem LB.fl {D : LD} {c k : Nat} (h : LB D c) (hk : k < c) : sm (fL D k) 5 := by
  obtain ⟨h1, h2, h3⟩ := h
  have hb := h3 k hk
  unfold fL
  have hw : sm (if fH D (k + 1) < dBo D then dLo D else dHi D) 3 := by
    split
    · exact h1
    · exact h2
  unfold sm at *
  rw [fb_addI (by omega) (by omega)]
  omega
theorem LB.fp {D : LD} {c : Nat} (h : LB D c) (hc5 : c ≤ 5) : ∀ k, k ≤ c → sm (fP D k) (5 * k)
  | 0, _ => sm_0 (by decide)
  | k + 1, hk => by
    have h1 := LB.fp h hc5 k (by omega)
    have h2 := h.fl (show k < c by omega)
    show sm (fP D k + fL D k) _
    unfold sm at *
    rw [fb_addI (by omega) (by omega)]
    omega
theorem sm.up {x : Int32} {n m : Int} (h : sm x n) (hn : n ≤ m) : sm x m := ⟨by have := h.1; omega, by have := h.2; omega⟩
theorem LB.rg {D : LD} {c : Nat} (h : LB D c) : Rg D c := fun k hk => by
  refine far_abs ((h.fl hk).up (by decide)) ?_
  cases k with
  | zero => exact sm_0 (by decide)
  | succ k => exact (h.fl (show k < c by omega)).up (by decide)
theorem LB.rv {D : LD} {c : Nat} {x : Int32} (h : LB D c) (hc5 : c ≤ 5) (hx : sm x 1000) : Rv D c x := by
  have hp := (h.fp hc5 c (Nat.le_refl c)).up (m := 1000) (by omega)
  unfold Rv
  rw [far_abs hp hx, abs_sw hp hx]
theorem LB.ds {D : LD} {c k : Nat} {x : Int32} (h : LB D c) (hc5 : c ≤ 5) (hk : k < c) (hx : sm x 1000) : farI (fP D (k + 1)) x = dsI D k x := far_abs ((h.fp hc5 (k + 1) (by omega)).up (by omega)) hx
/-- the numbers of a line are in the document's ranges -/
def LR (D : LD) (c : Nat) : Prop := sm (dLo D) 2 ∧ sm (dHi D) 2 ∧ ∀ k, k < c → sm (dB D k) 2 ∧ (1 ≤ (dY D k).toInt ∧ (dY D k).toInt ≤ 30) ∧ (0 ≤ (dT D k).toInt ∧ (dT D k).toInt ≤ 9)
theorem LR.lb {D : LD} {c : Nat} (h : LR D c) : LB D c := ⟨h.1.up (by decide), h.2.1.up (by decide), fun k hk => (h.2.2 k hk).1⟩
theorem sm_lw : ∀ a, a < 5 → sm (lw a) 2 := by unfold sm; decide +kernel
theorem LR.wy {D : LD} {c : Nat} (h : LR D c) (f : Nat → Nat) : LB (wyD D f) c := h.lb
theorem LR.wb {D : LD} {c : Nat} (h : LR D c) {f : Nat → Nat} (hf : ∀ k, k < c → f k < 5) : LB (wbD D f) c := ⟨h.lb.1, h.lb.2.1, fun k hk => sm_lw (f k) (hf k hk)⟩
theorem LR.wd {D : LD} {c a b : Nat} (h : LR D c) (ha : a < 5) (hb : b < 5) : LB (wD D (lw a) (lw b)) c := ⟨(sm_lw a ha).up (by decide), (sm_lw b hb).up (by decide), h.lb.2.2⟩
theorem LR.b0 {D : LD} {c i j a b : Nat} (h : LR D c) (ha : a < 5) (hb : b < 5) : LB (B0 D i j (lw a) (lw b)) c := by
  refine ⟨h.lb.1, h.lb.2.1, fun k hk => ?_⟩
  show sm (upd (upd (dB D) i (lw a)) j (lw b) k) 2
  unfold upd
  split
  · exact sm_lw b hb
  · split
    · exact sm_lw a ha
    · exact (h.2.2 k hk).1
theorem LR.gd {D : LD} {c g : Nat} (h : LR D c) (hg : g < 4) : LB (gD D (nI (g / 2)) (nI (g % 2))) c := by
  have e1 : (nI (g / 2)).toInt = (g / 2 : Nat) := nI_toInt (by omega)
  have e2 : (nI (g % 2)).toInt = (g % 2 : Nat) := nI_toInt (by omega)
  have h1 := h.1
  have h2 := h.2.1
  refine ⟨?_, ?_, h.lb.2.2⟩
  · show sm (dLo D + nI (g / 2)) 3
    unfold sm at *
    rw [fb_addI (by omega) (by omega), e1]
    omega
  · show sm (dHi D + nI (g % 2)) 3
    unfold sm at *
    rw [fb_addI (by omega) (by omega), e2]
    omega
theorem LR.pk {D : LD} {c m : Nat} (h : LR D c) : LB (dpk D c m) (sel m c) := by
  refine ⟨h.lb.1, h.lb.2.1, fun j hj => ?_⟩
  obtain ⟨k, hk, hb, rfl⟩ := sel_surj m c j hj
  show sm (pkI m (dB D) c (sel m k)) 2
  rw [pkI_sel m _ c k hk hb]
  exact (h.2.2 k hk).1
