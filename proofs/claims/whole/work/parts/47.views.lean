theorem mx_i (a b : Int32) : (maxI a b).toInt = max a.toInt b.toInt := by
  unfold maxI
  by_cases h : a < b
  · rw [if_pos h]; rw [Int32.lt_iff_toInt_lt] at h; omega
  · rw [if_neg h]; rw [Int32.lt_iff_toInt_lt] at h; omega
theorem mn_i (a b : Int32) : (minI a b).toInt = min a.toInt b.toInt := by
  unfold minI
  by_cases h : b < a
  · rw [if_pos h]; rw [Int32.lt_iff_toInt_lt] at h; omega
  · rw [if_neg h]; rw [Int32.lt_iff_toInt_lt] at h; omega
theorem ab_i {a b V : Int32} (ha : sm a 1000) (hb : sm b 1000) : absI (a - b) ≤ V ↔ (b.toInt - V.toInt ≤ a.toInt ∧ a.toInt ≤ b.toInt + V.toInt) := by
  have h1 : (a - b).toInt = a.toInt - b.toInt := fb_subI (by have := ha.1; have := hb.2; omega) (by have := ha.2; have := hb.1; omega)
  have h2 : (b - a).toInt = b.toInt - a.toInt := fb_subI (by have := hb.1; have := ha.2; omega) (by have := hb.2; have := ha.1; omega)
  have h0 : (0 : Int32).toInt = 0 := by decide
  unfold absI
  by_cases h : 0 ≤ a - b
  · rw [if_pos h, Int32.le_iff_toInt_le, h1]
    rw [Int32.le_iff_toInt_le, h1, h0] at h
    omega
  · rw [if_neg h, Int32.neg_sub, Int32.le_iff_toInt_le, h2]
    rw [Int32.le_iff_toInt_le, h1, h0] at h
    omega
theorem n9_i {n : Nat} (h : n < 100) : (nI n - 9).toInt = (n : Int) - 9 := by
  have h9 : (9 : Int32).toInt = 9 := by decide
  have hn : (nI n).toInt = n := nI_toInt (by omega)
  rw [fb_subI (by omega) (by omega)]
  omega
theorem cv_i {D : LD} {c : Nat} (h0 : 0 < c ∧ fF D c = 0) (hp : sm (fP D c) 30) (hV : 0 ≤ (fH D c / 4).toInt ∧ (fH D c / 4).toInt ≤ 100) : ∀ n, n ≤ 19 → (cvI D c n).toInt = max 0 (min ((n : Int) - 10) ((fP D c).toInt + (fH D c / 4).toInt) - max (-9) ((fP D c).toInt - (fH D c / 4).toInt) + 1)
  | 0, _ => by
    show (0 : Int32).toInt = _
    have : (0 : Int32).toInt = 0 := by decide
    omega
  | n + 1, hn => by
    have ih := cv_i h0 hp hV n (by omega)
    have hx := n9_i (n := n) (by omega)
    have hs : sm (nI n - 9) 1000 := ⟨by omega, by omega⟩
    have hi := ab_i (V := fH D c / 4) hs (hp.up (m := 1000) (by decide))
    have e1 : (1 : Int32).toInt = 1 := by decide
    have e0 : (0 : Int32).toInt = 0 := by decide
    show (cvI D c n + (if 0 < c ∧ fF D c = 0 ∧ absI (nI n - 9 - fP D c) ≤ fH D c / 4 then 1 else 0)).toInt = _
    obtain ⟨p1, p2⟩ := hp
    by_cases z : absI (nI n - 9 - fP D c) ≤ fH D c / 4
    · rw [if_pos ⟨h0.1, h0.2, z⟩, fb_addI (by omega) (by omega)]
      have := hi.mp z
      omega
    · rw [if_neg (fun w => z w.2.2), fb_addI (by omega) (by omega)]
      have := mt hi.mpr z
      omega
theorem cv_0s {D : LD} {c : Nat} (h0 : ¬ (0 < c ∧ fF D c = 0)) : ∀ n, cvI D c n = 0
  | 0 => rfl
  | n + 1 => by
    show cvI D c n + _ = 0
    rw [cv_0s h0 n, if_neg (fun w => h0 ⟨w.1, w.2.1⟩)]
    rfl
theorem cv_vw {D : LD} {c : Nat} (hp : sm (fP D c) 30) (hV : 0 ≤ (fH D c / 4).toInt ∧ (fH D c / 4).toInt ≤ 100) : cvI D c 19 = VwN c (fF D c) (fH D c) (fP D c) 9 := by
  unfold VwN
  by_cases h0 : 0 < c ∧ fF D c = 0
  · rw [if_pos h0]
    apply Int32.toInt.inj
    have e9 : (9 : Int32).toInt = 9 := by decide
    have em : (-9 : Int32).toInt = -9 := by decide
    have e1 : (1 : Int32).toInt = 1 := by decide
    have e0 : (0 : Int32).toInt = 0 := by decide
    obtain ⟨p1, p2⟩ := hp
    have a1 : (fP D c + fH D c / 4).toInt = (fP D c).toInt + (fH D c / 4).toInt := fb_addI (by omega) (by omega)
    have a2 : (fP D c - fH D c / 4).toInt = (fP D c).toInt - (fH D c / 4).toInt := fb_subI (by omega) (by omega)
    have a3 := mn_i 9 (fP D c + fH D c / 4)
    have a4 := mx_i (-9) (fP D c - fH D c / 4)
    have a5 : (minI 9 (fP D c + fH D c / 4) - maxI (-9) (fP D c - fH D c / 4)).toInt = (minI 9 (fP D c + fH D c / 4)).toInt - (maxI (-9) (fP D c - fH D c / 4)).toInt := fb_subI (by omega) (by omega)
    have a6 : (minI 9 (fP D c + fH D c / 4) - maxI (-9) (fP D c - fH D c / 4) + 1).toInt = (minI 9 (fP D c + fH D c / 4) - maxI (-9) (fP D c - fH D c / 4)).toInt + (1 : Int32).toInt := fb_addI (by omega) (by omega)
    rw [cv_i h0 ⟨p1, p2⟩ hV 19 (by decide), mx_i, a6, a5, a3, a4, a1, a2, e9, em, e1, e0]
    omega
  · rw [if_neg h0]; exact cv_0s h0 19
theorem LR.fh {D : LD} {c : Nat} (h : LR D c) (hc5 : c ≤ 5) : ∀ k, k ≤ c → 0 ≤ (fH D k).toInt ∧ (fH D k).toInt ≤ 30 * k
  | 0, _ => by
    have e0 : (0 : Int32).toInt = 0 := by decide
    show 0 ≤ (0 : Int32).toInt ∧ (0 : Int32).toInt ≤ _
    omega
  | k + 1, hk => by
    have ih := LR.fh h hc5 k (by omega)
    obtain ⟨-, hy, ht⟩ := h.2.2 k (by omega)
    have e0 : (0 : Int32).toInt = 0 := by decide
    have hd : (dY D k - dT D k).toInt = (dY D k).toInt - (dT D k).toInt := fb_subI (by omega) (by omega)
    show 0 ≤ (fH D k + (if 0 < dY D k - dT D k then dY D k - dT D k else 0)).toInt ∧ (fH D k + (if 0 < dY D k - dT D k then dY D k - dT D k else 0)).toInt ≤ _
    by_cases z : 0 < dY D k - dT D k
    · rw [if_pos z, fb_addI (by omega) (by omega), hd]
      rw [Int32.lt_iff_toInt_lt, hd, e0] at z
      omega
    · rw [if_neg z, fb_addI (by omega) (by omega), e0]
      omega
theorem LR.v4 {D : LD} {c : Nat} (h : LR D c) (hc5 : c ≤ 5) : 0 ≤ (fH D c / 4).toInt ∧ (fH D c / 4).toInt ≤ 100 := by
  obtain ⟨h1, h2⟩ := h.fh hc5 c (Nat.le_refl c)
  have e0 : (0 : Int32).toInt = 0 := by decide
  obtain ⟨m, hm, e⟩ := nI_of (x := fH D c) (by rw [Int32.lt_iff_toInt_lt, e0]; omega)
  rw [e] at h2 ⊢
  rw [nI_toInt hm] at h2
  rw [show nI m / 4 = nI (m / 4) from pk_div (d := 4) hm (by decide) (by decide), nI_toInt (by omega)]
  omega
theorem LR.pkr {D : LD} {c m : Nat} (h : LR D c) : LR (dpk D c m) (sel m c) := by
  refine ⟨h.1, h.2.1, fun j hj => ?_⟩
  obtain ⟨k, hk, hb, rfl⟩ := sel_surj m c j hj
  show sm (pkI m (dB D) c (sel m k)) 2 ∧ (1 ≤ (pkI m (dY D) c (sel m k)).toInt ∧ (pkI m (dY D) c (sel m k)).toInt ≤ 30) ∧ (0 ≤ (pkI m (dT D) c (sel m k)).toInt ∧ (pkI m (dT D) c (sel m k)).toInt ≤ 9)
  rw [pkI_sel m _ c k hk hb, pkI_sel m _ c k hk hb, pkI_sel m _ c k hk hb]
  exact h.2.2 k hk
/-- what the model's share asks of a line -/
theorem LR.hw {D : LD} {c : Nat} (h : LR D c) (hc5 : c ≤ 5) : ∀ m, m < 2 ^ c → Rg (dpk D c m) (sel m c) ∧ (∀ n, n < 19 → Rv (dpk D c m) (sel m c) (nI n - 9)) ∧ cvI (dpk D c m) (sel m c) 19 = voI D c m := fun m _ => by
  have hs := sel_le m c
  have hr := h.pkr (m := m)
  refine ⟨hr.lb.rg, fun n hn => hr.lb.rv (by omega) ⟨by have := n9_i (n := n) (by omega); omega, by have := n9_i (n := n) (by omega); omega⟩, ?_⟩
  unfold voI
  exact cv_vw ((hr.lb.fp (by omega) _ (Nat.le_refl _)).up (by omega)) (hr.v4 (by omega))
