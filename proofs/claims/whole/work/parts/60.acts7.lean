theorem ch_of {v : Int32} {a b : Nat} (hb : b < 100) (h1 : nI a ≤ v) (h2 : v ≤ nI b) (ha : a < 100) : ∃ m, a ≤ m ∧ m ≤ b ∧ v = nI m := by
  have h0 : ¬ v < 0 := fun z => by
    rw [Int32.lt_iff_toInt_lt, show (0 : Int32).toInt = 0 from by decide] at z
    rw [Int32.le_iff_toInt_le, nI_toInt (by omega)] at h1
    omega
  obtain ⟨m, hm, rfl⟩ := nI_of h0
  exact ⟨m, (nI_leI (by omega) hm).mp h1, (nI_leI hm (by omega)).mp h2, rfl⟩
theorem ch_b {v : Int32} (h : 48 ≤ v ∧ v ≤ 52) : sm (v - 48 - 2) 2 := by
  obtain ⟨m, m1, m2, rfl⟩ := ch_of (a := 48) (b := 52) (by decide) h.1 h.2 (by decide)
  rcases (show m = 48 ∨ m = 49 ∨ m = 50 ∨ m = 51 ∨ m = 52 by omega) with rfl | rfl | rfl | rfl | rfl <;> (unfold sm; decide)
theorem ch_y {v : Int32} (h : 49 ≤ v ∧ v ≤ 57) : 1 ≤ (v - 48).toInt ∧ (v - 48).toInt ≤ 30 := by
  obtain ⟨m, m1, m2, rfl⟩ := ch_of (a := 49) (b := 57) (by decide) h.1 h.2 (by decide)
  rcases (show m = 49 ∨ m = 50 ∨ m = 51 ∨ m = 52 ∨ m = 53 ∨ m = 54 ∨ m = 55 ∨ m = 56 ∨ m = 57 by omega) with rfl | rfl | rfl | rfl | rfl | rfl | rfl | rfl | rfl <;> decide
theorem ch_t {v : Int32} (h : 48 ≤ v ∧ v ≤ 51) : 0 ≤ (v - 48).toInt ∧ (v - 48).toInt ≤ 9 := by
  obtain ⟨m, m1, m2, rfl⟩ := ch_of (a := 48) (b := 51) (by decide) h.1 h.2 (by decide)
  rcases (show m = 48 ∨ m = 49 ∨ m = 50 ∨ m = 51 by omega) with rfl | rfl | rfl | rfl <;> decide
theorem okL_ext {t t' : Nat → Int32} {n : Nat} (h : ∀ j, j < n → t j = t' j) {j : Nat} (hj : j < n) : okL t j ↔ okL t' j := by
  match j, hj with
  | 0, hj => show t 0 = 75 ↔ t' 0 = 75; rw [h 0 hj]
  | 1, hj => show (48 ≤ t 1 ∧ t 1 ≤ 52) ↔ (48 ≤ t' 1 ∧ t' 1 ≤ 52); rw [h 1 hj]
  | 2, hj => show (48 ≤ t 2 ∧ t 2 ≤ 52) ↔ (48 ≤ t' 2 ∧ t' 2 ≤ 52); rw [h 2 hj]
  | 3, hj => show (48 ≤ t 3 ∧ t 3 ≤ 53) ↔ (48 ≤ t' 3 ∧ t' 3 ≤ 53); rw [h 3 hj]
  | 4, hj => show (48 ≤ t 4 ∧ t 4 ≤ (if t 3 = 53 then 48 else 57)) ↔ (48 ≤ t' 4 ∧ t' 4 ≤ (if t' 3 = 53 then 48 else 57)); rw [h 4 hj, h 3 (by omega)]
  | 5, hj => show (49 ≤ t 5 ∧ t 5 ≤ 57) ↔ (49 ≤ t' 5 ∧ t' 5 ≤ 57); rw [h 5 hj]
  | p + 6, hj => show (p < 20 ∧ okR (p % 4) (t (p + 6))) ↔ (p < 20 ∧ okR (p % 4) (t' (p + 6))); rw [h (p + 6) hj]
theorem RFault.tr {t t' : Nat → Int32} {n : Nat} {r : Int32} (h : ∀ j, j < n → t j = t' j) (a : RFault t n r) : RFault t' n r := by
  refine ⟨fun p hp h1 h2 => a.1 p hp (fun z => h1 ((okL_ext h hp).mp z)) (fun j hj => (okL_ext h (by omega)).mpr (h2 j hj)), fun h1 => a.2 (fun j hj => (okL_ext h hj).mpr (h1 j hj))⟩
theorem flt_eq {t : Nat → Int32} {n : Nat} {r r' : Int32} (a : RFault t n r) (b : RFault t n r') : r = r' := by
  by_cases hx : ∀ j, j < n → okL t j
  · by_cases z : ended n
    · rw [(a.2 hx).1 z, (b.2 hx).1 z]
    · rw [(a.2 hx).2 z, (b.2 hx).2 z]
  · have key : ∀ m p, p + m = n → (∀ j, j < p → okL t j) → ∃ q, q < n ∧ ¬ okL t q ∧ ∀ j, j < q → okL t j := by
      intro m
      induction m with
      | zero =>
        intro p hp h1
        exact absurd (fun j hj => h1 j (by omega)) hx
      | succ m ih =>
        intro p hp h1
        by_cases z : okL t p
        · refine ih (p + 1) (by omega) (fun j hj => ?_)
          rcases Nat.lt_or_ge j p with g | g
          · exact h1 j g
          · obtain rfl : j = p := by omega
            exact z
        · exact ⟨p, by omega, z, h1⟩
    obtain ⟨q, h1, h2, h3⟩ := key n 0 (by omega) (fun j hj => absurd hj (Nat.not_lt_zero j))
    rw [a.1 q h1 h2 h3, b.1 q h1 h2 h3]
theorem inv_fault {I I1 I2 : IT} {J : JT} {P : PT} {n : Nat} {r r' : Int32} (h : Inv I J P) (hn : I 2 1 = nI n) (hn2 : n ≤ 32) (a : RFault (I 3) n r ∧ I1 = I) (b : RFault (I1 91) n r' ∧ SameM I1 I2) : r = r' ∧ Inv I2 J P := by
  obtain ⟨a1, rfl⟩ := a
  obtain ⟨m, t1, t2, t3, t4, -⟩ := h.t
  obtain rfl : m = n := (nI_eq (by omega) (by omega)).mp (t2.symm.trans hn)
  exact ⟨flt_eq (a1.tr t4) b.1, h.m b.2⟩
theorem inv_fly {I I1 I2 : IT} {J : JT} {P : PT} {n : Nat} {r r' : Int32} (h : Inv I J P) (hn : I 2 1 = nI n) (hn2 : n ≤ 32)
    (a : ((¬ ((∀ j, j < n → okL (I 3) j) ∧ ended n)) → r = -3 ∧ I1 = I) ∧ (((∀ j, j < n → okL (I 3) j) ∧ ended n) → n ≤ 26 → r = nI ((n - 6) / 4) ∧ ∃ Ia, TlOut I Ia ((n - 6) / 4) ∧ I1 = u2 (u2 (u2 Ia 8 1 0) 75 0 0) 75 1 0))
    (b : (¬ ((∀ j, j < n → okL (I1 91) j) ∧ ended n) → r' = -3 ∧ SameM I1 I2) ∧ (((∀ j, j < n → okL (I1 91) j) ∧ ended n) → n ≤ 26 → r' = nI ((n - 6) / 4) ∧ FyOut I1 I2 ((n - 6) / 4))) : r = r' ∧ Inv I2 J P := by
  obtain ⟨m, t1, t2, t3, t4, t5⟩ := h.t
  obtain rfl : m = n := (nI_eq (by omega) (by omega)).mp (t2.symm.trans hn)
  by_cases hx : (∀ j, j < m → okL (I 3) j) ∧ ended m
  · have hx2 : (∀ j, j < m → okL (I 91) j) ∧ ended m := ⟨fun j hj => (okL_ext t4 hj).mp (hx.1 j hj), hx.2⟩
    have h26 : m ≤ 26 := by
      rcases Nat.lt_or_ge 26 m with z | z
      · have h1 : okL (I 3) (20 + 6) := hx.1 26 z
        have h1 : 20 < 20 ∧ okR (20 % 4) (I 3 (20 + 6)) := h1
        exact absurd h1.1 (by decide)
      · exact z
    obtain ⟨x1, Ia, ⟨q1, q2, q3, q4, q5, q6, q7⟩, rfl⟩ := a.2 hx h26
    have E : ∀ y, y ≠ 75 → y ≠ 8 → y ≠ 4 → y ≠ 5 → y ≠ 6 → y ≠ 7 → u2 (u2 (u2 Ia 8 1 0) 75 0 0) 75 1 0 y = I y := fun y y0 y1 y2 y3 y4 y5 => by rw [u2_n y0, u2_n y0, u2_n y1, q1 y y2 y3 y4 y5]
    have e91 : u2 (u2 (u2 Ia 8 1 0) 75 0 0) 75 1 0 91 = I 91 := E 91 (by decide) (by decide) (by decide) (by decide) (by decide) (by decide)
    have e90 : u2 (u2 (u2 Ia 8 1 0) 75 0 0) 75 1 0 90 = I 90 := E 90 (by decide) (by decide) (by decide) (by decide) (by decide) (by decide)
    rw [e91] at b
    obtain ⟨y1, fo⟩ := b.2 hx2 h26
    unfold FyOut at fo
    rw [e91, e90] at fo
    obtain ⟨p1, p2, p3, p4, p5, p6, -, p7, p8, p9, p10, p11, p12⟩ := fo
    have G : ∀ y, ((y ≤ 91 ∧ y ≠ 90) ∨ y = 98 ∨ y = 99 ∨ y = 101 ∨ y = 102) → y ≠ 75 → y ≠ 8 → y ≠ 4 → y ≠ 5 → y ≠ 6 → y ≠ 7 → I2 y = I y := fun y hy y0 y1 y2 y3 y4 y5 => by rw [p1 y hy, E y y0 y1 y2 y3 y4 y5]
    have w : ∀ a, 4 ≤ a → a ≤ 7 → I2 a = Ia a := fun a l1 l2 => by rw [p1 a (by omega), u2_n (by omega), u2_n (by omega), u2_n (by omega)]
    obtain ⟨he1, he2⟩ := hx.2
    have K : ∀ j, j < m → okL (I 91) j := hx2.1
    refine ⟨by rw [x1, y1], Inv.of (h.t.eq (G 2 (by omega) (by decide) (by decide) (by decide) (by decide) (by decide) (by decide)) (G 3 (by omega) (by decide) (by decide) (by decide) (by decide) (by decide) (by decide)) (G 91 (by omega) (by decide) (by decide) (by decide) (by decide) (by decide) (by decide)) p2) ⟨(m - 6) / 4, by omega, ?_, ?_, ?_, ?_, ?_, ?_, fun k hk => ?_, ?_, ?_, fun k hk => ?_⟩ ⟨0, by decide, ?_, p4, fun j hj => absurd hj (Nat.not_lt_zero j)⟩ h.r (fun s hs => ?_) (h.s.eq (fun a _ _ => G a (by omega) (by omega) (by omega) (by omega) (by omega) (by omega) (by omega)) (G 101 (by omega) (by decide) (by decide) (by decide) (by decide) (by decide) (by decide)) (G 102 (by omega) (by decide) (by decide) (by decide) (by decide) (by decide) (by decide)) p3) h.j⟩
    · rw [w 4 (by omega) (by omega)]; exact q2
    · exact p7
    · rw [w 4 (by omega) (by omega), q3, p8, t4 1 (by omega)]
    · rw [w 4 (by omega) (by omega), q4, p9, t4 2 (by omega)]
    · rw [w 4 (by omega) (by omega), q5, p10, t4 3 (by omega), t4 4 (by omega)]
    · rw [w 4 (by omega) (by omega), q6, p11, t4 5 (by omega)]
    · obtain ⟨z1, z2, z3⟩ := p12 k (by omega)
      obtain ⟨z4, z5, z6⟩ := q7 k hk
      rw [if_pos hk] at z1 z2 z3
      show I2 5 k = _ ∧ I2 6 k = _ ∧ I2 7 k = _
      rw [w 5 (by omega) (by omega), w 6 (by omega) (by omega), w 7 (by omega) (by omega), z1, z2, z3, z4, z5, z6, t4 _ (by omega), t4 _ (by omega), t4 _ (by omega), Nat.add_comm 7 (4 * k), Nat.add_comm 8 (4 * k), Nat.add_comm 9 (4 * k)]
      exact ⟨rfl, rfl, rfl⟩
    · rw [p8]
      exact ch_b (K 1 (by omega))
    · rw [p9]
      exact ch_b (K 2 (by omega))
    · obtain ⟨z1, z2, z3⟩ := p12 k (by omega)
      rw [if_pos hk] at z1 z2 z3
      rw [z1, z2, z3]
      have o1 : okL (I 91) ((4 * k + 1) + 6) := K _ (by omega)
      have o2 : okL (I 91) ((4 * k + 2) + 6) := K _ (by omega)
      have o3 : okL (I 91) ((4 * k + 3) + 6) := K _ (by omega)
      have o1 : okR ((4 * k + 1) % 4) (I 91 ((4 * k + 1) + 6)) := o1.2
      have o2 : okR ((4 * k + 2) % 4) (I 91 ((4 * k + 2) + 6)) := o2.2
      have o3 : okR ((4 * k + 3) % 4) (I 91 ((4 * k + 3) + 6)) := o3.2
      rw [show (4 * k + 1) % 4 = 1 by omega, show 4 * k + 1 + 6 = 4 * k + 7 by omega] at o1
      rw [show (4 * k + 2) % 4 = 2 by omega, show 4 * k + 2 + 6 = 4 * k + 8 by omega] at o2
      rw [show (4 * k + 3) % 4 = 3 by omega, show 4 * k + 3 + 6 = 4 * k + 9 by omega] at o3
      exact ⟨ch_b o2, ch_y o1, ch_t o3⟩
    · rw [p1 8 (by omega), u2_n (by decide), u2_n (by decide), u2_ss]; rfl
    · have e75 : I2 75 = u2 (u2 (u2 Ia 8 1 0) 75 0 0) 75 1 0 75 := p1 75 (by omega)
      rw [e75]
      rcases (show s = 0 ∨ s = 1 by omega) with rfl | rfl
      · rw [u2_sn (by decide), u2_ss, p5]
        exact ⟨rfl, fun z => absurd rfl z⟩
      · rw [u2_ss, p6]
        exact ⟨rfl, fun z => absurd rfl z⟩
  · have hx2 : ¬ ((∀ j, j < m → okL (I 91) j) ∧ ended m) := fun z => hx ⟨fun j hj => (okL_ext t4 hj).mpr (z.1 j hj), z.2⟩
    obtain ⟨x1, rfl⟩ := a.1 hx
    obtain ⟨y1, y2⟩ := b.1 hx2
    exact ⟨by rw [x1, y1], h.m y2⟩
theorem inv_afternoons {I I1 I2 : IT} {J J1 J2 : JT} {P : PT} {c : Nat} {m r r' : Int32} {E : LD} (h : Inv I J P) (e : LEq (lnD I 4) E c) (a : RAft (lnD I 4) c J J1 1 m r) (s1 : SameC I I1) (b : RAft E c J1 J2 90 m r') (s2 : SameM I1 I2) : r = r' ∧ Inv I2 J2 P := by
  have hI := (h.c s1).m s2
  by_cases hx : 1 ≤ m ∧ m ≤ 30
  · obtain ⟨N, hN, eN⟩ := nI_of2 (M := 30) (n := 30) (x := m) (by decide) (fun z => absurd (Int32.lt_of_lt_of_le z (show (0 : Int32) ≤ 1 by decide)) (Int32.not_lt.mpr hx.1)) hx.2
    have hN1 : 1 ≤ N := Nat.pos_of_ne_zero (fun z => absurd hx.1 (by rw [eN, z]; decide))
    obtain ⟨x1, rfl⟩ := a.2 N hN1 hN eN
    obtain ⟨y1, rfl⟩ := b.2 N hN1 hN eN
    have e90 : uJ J 1 (sdI (J 1) N) 90 = J 1 := by rw [h.j]; simp [uJ]
    rw [e90] at y1 ⊢
    refine ⟨by rw [x1, y1, e.af], Inv.of hI.t hI.n hI.p hI.r hI.k hI.s ?_⟩
    simp [uJ]
  · obtain ⟨x1, rfl⟩ := a.1 hx
    obtain ⟨y1, rfl⟩ := b.1 hx
    exact ⟨by rw [x1, y1], hI⟩
