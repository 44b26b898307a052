theorem dr_u (s : Int64) : ∃ n, n < 2 ^ 31 ∧ (s.toUInt64 >>> ((33 : Int32).toInt64.toUInt64 &&& Int64.toUInt64 63)).toInt64 = lN n := by
  have e33 : ((33 : Int32).toInt64.toUInt64 &&& Int64.toUInt64 63).toNat = 33 := by decide +kernel
  have hs : s.toUInt64.toNat < 2 ^ 64 := s.toUInt64.toBitVec.isLt
  have hd : s.toUInt64.toNat / 2 ^ 33 < 2 ^ 31 := Nat.div_lt_of_lt_mul (by omega)
  refine ⟨s.toUInt64.toNat / 2 ^ 33, hd, Int64.toBitVec_inj.mp (BitVec.eq_of_toNat_eq ?_)⟩
  show (s.toUInt64 >>> ((33 : Int32).toInt64.toUInt64 &&& Int64.toUInt64 63)).toNat = (BitVec.ofNat 64 _).toNat
  rw [UInt64.toNat_shiftRight, e33, Nat.shiftRight_eq_div_pow, BitVec.toNat_ofNat, Nat.mod_eq_of_lt (show s.toUInt64.toNat / 2 ^ 33 < 2 ^ 64 by omega)]
theorem dr_n (s : Int64) : ∃ m, m < 25 ∧ drI s = nI m := by
  obtain ⟨n, hn, e⟩ := dr_u s
  refine ⟨n % 25, Nat.mod_lt _ (by decide), ?_⟩
  unfold drI
  rw [e, show lN n - lN n / 25 * 25 = lN (n % 25) from pk_lRem (b := 25) (by omega) (by decide) (by decide), lN_i]
theorem LR.ad {D : LD} {c : Nat} (h : LR D c) (s : Int64) : LB (adD D s) c := by
  obtain ⟨m, hm, e⟩ := dr_n s
  unfold adD
  rw [e, show nI m - nI m / 5 * 5 = nI (m % 5) from pk_rem (d := 5) (by omega) (by decide) (by decide), show nI m / 5 = nI (m / 5) from pk_div (d := 5) (by omega) (by decide) (by decide)]
  exact h.wd (a := m / 5) (b := m % 5) (by omega) (by omega)
theorem LR.bs {D : LD} {c : Nat} (h : LR D c) (hc5 : c ≤ 5) : ∃ B, B < 21 ∧ bsum D c = nI B := by
  have e2 : (2 : Int32).toInt = 2 := by decide
  have e0 : (0 : Int32).toInt = 0 := by decide
  have key : ∀ k, k ≤ c → 0 ≤ (sumI (fun j => dB D j + 2) k).toInt ∧ (sumI (fun j => dB D j + 2) k).toInt ≤ 4 * k := by
    intro k
    induction k with
    | zero =>
      intro _
      show 0 ≤ (0 : Int32).toInt ∧ (0 : Int32).toInt ≤ _
      omega
    | succ k ih =>
      intro hk
      have h1 := ih (by omega)
      have h2 := (h.2.2 k (by omega)).1
      obtain ⟨b1, b2⟩ := h2
      have h3 : (dB D k + 2).toInt = (dB D k).toInt + 2 := by rw [fb_addI (by omega) (by omega), e2]
      show 0 ≤ (sumI (fun j => dB D j + 2) k + (dB D k + 2)).toInt ∧ (sumI (fun j => dB D j + 2) k + (dB D k + 2)).toInt ≤ _
      rw [fb_addI (by omega) (by omega), h3]
      omega
  have hk := key c (Nat.le_refl c)
  have hneg : ¬ bsum D c < 0 := by
    unfold bsum
    rw [Int32.lt_iff_toInt_lt, e0]
    omega
  obtain ⟨B, hB, e⟩ := nI_of hneg
  refine ⟨B, ?_, e⟩
  have e3 : (bsum D c).toInt = B := by rw [e]; exact nI_toInt hB
  unfold bsum at e3
  omega
theorem LR.h30 {I : IT} {c : Nat} (h : LR (mdD I 96 92) c) : ∀ k, k < c → I 96 (3 + k) ≤ 30 := fun k hk => by
  have h2 := (h.2.2 k hk).2.1
  have e30 : (30 : Int32).toInt = 30 := by decide
  rw [Int32.le_iff_toInt_le, e30]
  exact h2.2
