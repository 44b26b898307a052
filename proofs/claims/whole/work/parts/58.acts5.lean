theorem LnR.row {I : IT} {A : Nat} {row row' : Nat → Int32} (h : LnR I A row) (hr : ∀ j, j < 13 → row' j = row j) : LnR I A row' := by
  obtain ⟨d, h1, h2, h3, h6, h7, h8, h9, h10, h11, h12, h13⟩ := h
  refine ⟨d, h1, h2, ?_, ?_, ?_, h8, h9, fun k hk' => ?_, ?_, ?_, fun k hk' => ?_⟩
  · rw [hr 0 (by decide)]; exact h3
  · rw [hr 1 (by decide)]; exact h6
  · rw [hr 2 (by decide)]; exact h7
  · rw [hr (3 + k) (by omega), hr (8 + k) (by omega)]; exact h10 k hk'
  · rw [hr 1 (by decide)]; exact h11
  · rw [hr 2 (by decide)]; exact h12
  · rw [hr (3 + k) (by omega), hr (8 + k) (by omega)]; exact h13 k hk'
/-- a line is copied from the cells at B to those at A, its row likewise -/
theorem LnR.mv {I I' : IT} {A B : Nat} {row row' : Nat → Int32} {c : Nat} (h : LnR I B row) (hc : I B 0 = nI c) (hc5 : c ≤ 5) (f : Fr I I') (h0 : I' A 0 = nI c) (hj : ∀ j, 1 ≤ j → j ≤ 4 → I' A j = I B j) (hk : ∀ k, k < c → I' (A + 1) k = I (B + 1) k ∧ I' (A + 2) k = I (B + 2) k ∧ I' (A + 3) k = I (B + 3) k) (hr : ∀ j, j < 13 → row' j = row j) : LnR I' A row' := by
  obtain ⟨d, h1, h2, h3, h6, h7, h8, h9, h10, h11, h12, h13⟩ := h
  obtain rfl : d = c := (nI_eq (by omega) (by omega)).mp (h2.symm.trans hc)
  refine ⟨d, h1, h0, ?_, ?_, ?_, ?_, ?_, fun k hk' => ?_, ?_, ?_, fun k hk' => ?_⟩
  · rw [hr 0 (by decide)]; exact h3
  · rw [hj 1 (by decide) (by decide), hr 1 (by decide)]; exact h6
  · rw [hj 2 (by decide) (by decide), hr 2 (by decide)]; exact h7
  · rw [hj 3 (by decide) (by decide), f.2.1]; exact h8
  · rw [hj 4 (by decide) (by decide), f.2.2]; exact h9
  · rw [(hk k hk').1, (hk k hk').2.1, (hk k hk').2.2, hr (3 + k) (by omega), hr (8 + k) (by omega), f.1]; exact h10 k hk'
  · rw [hr 1 (by decide)]; exact h11
  · rw [hr 2 (by decide)]; exact h12
  · rw [hr (3 + k) (by omega), hr (8 + k) (by omega), f.1]; exact h13 k hk'
theorem LnR.cnt {I : IT} {A : Nat} {row : Nat → Int32} (h : LnR I A row) : ∃ c, c ≤ 5 ∧ I A 0 = nI c ∧ row 0 = nI c := by
  obtain ⟨c, h1, h2, h3, -⟩ := h
  exact ⟨c, h1, h2, h3⟩
theorem not01 {i : Int32} (hi : ¬ (0 ≤ i ∧ i ≤ 1)) : i < 0 ∨ nI 2 ≤ i := by
  by_cases z : i < 0
  · exact Or.inl z
  · refine Or.inr (Int32.not_lt.mp (fun w => hi ⟨Int32.not_lt.mp z, ?_⟩))
    rw [Int32.lt_iff_toInt_lt, nI_toInt (by decide)] at w
    rw [Int32.le_iff_toInt_le, show (1 : Int32).toInt = 1 from by decide]
    omega
theorem inv_keep {I I1 I2 : IT} {J : JT} {P : PT} {c : Nat} {i r r' : Int32} (h : Inv I J P) (hc : I 4 0 = nI c) (hc5 : c ≤ 5) (a : RKeep I I1 c i r) (b : RKeepM I1 I2 c i r') : r = r' ∧ Inv I2 J P := by
  by_cases hi : 0 ≤ i ∧ i ≤ 1
  · obtain ⟨s, hs, es⟩ := in01 hi
    obtain ⟨x1, I0, hC, rfl⟩ := a.2 s hs es
    obtain ⟨y1, k1, k2, k3, k4, k5⟩ := b.2 s hs es
    obtain ⟨q1, q2, q3, q4⟩ := hC
    have G : ∀ y, (y < 67 ∨ y = 76 ∨ y = 77 ∨ y = 78 ∨ y = 91 ∨ y = 92 ∨ y = 96 ∨ y = 98 ∨ y = 101 ∨ y = 102) → I2 y = I y := fun y hy => by rw [k1 y (by omega) (by omega) (by omega), u2_n (by omega), q1 y (by omega) (by omega) (by omega) (by omega)]
    have g9 : ∀ j, j ≠ 0 → I2 90 j = I 90 j := fun j hj => by rw [k2 j hj, u2_n (by decide), q1 90 (by omega) (by omega) (by omega) (by omega)]
    have f : Fr I I2 := ⟨G 92 (by omega), g9 4 (by decide), g9 5 (by decide)⟩
    have m99 : u2 I0 75 s 1 99 = I 99 := by rw [u2_n (by decide), q1 99 (by omega) (by omega) (by omega) (by omega)]
    have m100 : u2 I0 75 s 1 100 = I 100 := by rw [u2_n (by decide), q1 100 (by omega) (by omega) (by omega) (by omega)]
    have m96 : u2 I0 75 s 1 96 = I 96 := by rw [u2_n (by decide), q1 96 (by omega) (by omega) (by omega) (by omega)]
    have m75 : I2 75 = u2 I0 75 s 1 75 := k1 75 (by decide) (by decide) (by decide)
    have w : ∀ a, 67 ≤ a → a ≤ 74 → I2 a = I0 a := fun a l1 l2 => by rw [k1 a (by omega) (by omega) (by omega), u2_n (by omega)]
    refine ⟨by rw [x1, y1], Inv.of (h.t.eq (G 2 (by omega)) (G 3 (by omega)) (G 91 (by omega)) (g9 2 (by decide))) ?_ (h.p.eq h.r.1 f (fun a ha => G a (by omega)) (G 98 (by omega)) (g9 18 (by decide))) h.r (fun t ht => ?_) (h.s.eq (fun a _ _ => G a (by omega)) (G 101 (by omega)) (G 102 (by omega)) (g9 21 (by decide))) h.j⟩
    · rw [G 96 (by omega)]
      exact h.n.eq (fun a _ _ => G a (by omega)) f.1 f.2.1 f.2.2
    · have hL := h.k t ht
      by_cases e : t = s
      · subst e
        refine ⟨?_, fun _ => h.n.mv hc hc5 f ?_ (fun j j1 j2 => ?_) (fun k hk => ?_) (fun j hj => ?_)⟩
        · rw [m75, u2_ss, k3, u2_ss]
        · rw [w (67 + 4 * t) (by omega) (by omega)]; exact q2
        · rw [w (67 + 4 * t) (by omega) (by omega)]; exact q3 j j1 j2
        · rw [w (67 + 4 * t + 1) (by omega) (by omega), w (67 + 4 * t + 2) (by omega) (by omega), w (67 + 4 * t + 3) (by omega) (by omega)]; exact q4 k hk
        · show I2 99 (13 * t + j) = I 96 j
          rw [k5 j hj, m96]
      · have e1 : I2 75 t = I 75 t := by rw [m75, u2_sn e, q1 75 (by omega) (by omega) (by omega) (by omega)]
        have e2 : I2 100 t = I 100 t := by rw [k3 t, u2_sn e, m100]
        rw [e1, e2]
        refine ⟨hL.1, fun z => ((hL.2 z).eq (I' := I2) (fun a l1 l2 => ?_) f.1 f.2.1 f.2.2).row (fun j hj => ?_)⟩
        · rw [w a (by omega) (by omega)]
          exact q1 a (by omega) (by omega) (by omega) (by omega)
        · show I2 99 (13 * t + j) = I 99 (13 * t + j)
          rw [k4 _ (by omega), m99]
  · obtain ⟨x1, rfl⟩ := a.1 (not01 hi)
    obtain ⟨y1, y2⟩ := b.1 hi
    exact ⟨by rw [x1, y1], h.m y2⟩
theorem inv_again {I I1 I2 : IT} {J : JT} {P : PT} {i r r' : Int32} (h : Inv I J P) (a : RAgain I I1 i r) (b : RAgainM I1 I2 i r') : r = r' ∧ Inv I2 J P := by
  by_cases hi : 0 ≤ i ∧ i ≤ 1
  · obtain ⟨s, hs, es⟩ := in01 hi
    obtain ⟨a1, a2⟩ := a.2 s hs es
    obtain ⟨b1, b2⟩ := b.2 s hs es
    obtain ⟨l1, l2⟩ := h.k s hs
    by_cases z : I 75 s = 0
    · obtain ⟨x1, rfl⟩ := a1 z
      obtain ⟨y1, y2⟩ := b1 (by rw [← l1]; exact z)
      exact ⟨by rw [x1, y1], h.m y2⟩
    · obtain ⟨c, hc5, hc, x1, I0, hC, rfl⟩ := a2 z
      obtain ⟨q1, q2, q3, q4⟩ := hC
      have E : ∀ y, y ≠ 8 → y ≠ 4 → y ≠ 5 → y ≠ 6 → y ≠ 7 → u2 I0 8 1 0 y = I y := fun y y1 y2 y3 y4 y5 => by rw [u2_n y1, q1 y (by omega) (by omega) (by omega) (by omega)]
      obtain ⟨y1, k1, k2, k3, k4⟩ := b2 (by rw [E 100 (by decide) (by decide) (by decide) (by decide) (by decide), ← l1]; exact z)
      have G : ∀ y, y ≠ 8 → y ≠ 4 → y ≠ 5 → y ≠ 6 → y ≠ 7 → y ≠ 90 → y ≠ 96 → I2 y = I y := fun y y1 y2 y3 y4 y5 y6 y7 => by rw [k1 y y6 y7, E y y1 y2 y3 y4 y5]
      have g9 : ∀ j, j ≠ 0 → j ≠ 18 → I2 90 j = I 90 j := fun j j1 j2 => by rw [k2 j j1 j2, E 90 (by decide) (by decide) (by decide) (by decide) (by decide)]
      have f : Fr I I2 := ⟨G 92 (by decide) (by decide) (by decide) (by decide) (by decide) (by decide) (by decide), g9 4 (by decide) (by decide), g9 5 (by decide) (by decide)⟩
      have w : ∀ a, 4 ≤ a → a ≤ 7 → I2 a = I0 a := fun a l1 l2 => by rw [k1 a (by omega) (by omega), u2_n (by omega)]
      have e99 : u2 I0 8 1 0 99 = I 99 := E 99 (by decide) (by decide) (by decide) (by decide) (by decide)
      have hL := l2 (by rw [← l1]; exact z)
      refine ⟨?_, Inv.of (h.t.eq (G 2 (by decide) (by decide) (by decide) (by decide) (by decide) (by decide) (by decide)) (G 3 (by decide) (by decide) (by decide) (by decide) (by decide) (by decide) (by decide)) (G 91 (by decide) (by decide) (by decide) (by decide) (by decide) (by decide) (by decide)) (g9 2 (by decide) (by decide))) ?_ ⟨0, by decide, ?_, k3, fun j hj => absurd hj (Nat.not_lt_zero j)⟩ h.r (h.k.eq f (fun a _ _ => G a (by omega) (by omega) (by omega) (by omega) (by omega) (by omega) (by omega)) (G 99 (by decide) (by decide) (by decide) (by decide) (by decide) (by decide) (by decide)) (G 100 (by decide) (by decide) (by decide) (by decide) (by decide) (by decide) (by decide))) (h.s.eq (fun a _ _ => G a (by omega) (by omega) (by omega) (by omega) (by omega) (by omega) (by omega)) (G 101 (by decide) (by decide) (by decide) (by decide) (by decide) (by decide) (by decide)) (G 102 (by decide) (by decide) (by decide) (by decide) (by decide) (by decide) (by decide)) (g9 21 (by decide) (by decide))) h.j⟩
      · obtain ⟨d, d5, h2, h3⟩ := hL.cnt
        rw [x1, y1, e99]
        exact (hc.symm.trans h2).trans h3.symm
      · refine hL.mv hc hc5 f ?_ (fun j j1 j2 => ?_) (fun k hk => ?_) (fun j hj => ?_)
        · rw [w 4 (by omega) (by omega)]; exact q2
        · rw [w 4 (by omega) (by omega)]; exact q3 j j1 j2
        · show I2 5 k = _ ∧ I2 6 k = _ ∧ I2 7 k = _
          rw [w 5 (by omega) (by omega), w 6 (by omega) (by omega), w 7 (by omega) (by omega)]; exact q4 k hk
        · rw [k4 j hj, e99]
      · rw [k1 8 (by decide) (by decide), u2_ss]; rfl
  · obtain ⟨x1, rfl⟩ := a.1 (not01 hi)
    obtain ⟨y1, y2⟩ := b.1 hi
    exact ⟨by rw [x1, y1], h.m y2⟩
theorem inv_undo {I I1 I2 : IT} {J : JT} {P : PT} {n : Nat} {r r' : Int32} (h : Inv I J P) (hn : I 8 1 = nI n) (hn14 : n ≤ 14) (a : RUndo I I1 P n r) (b : RUndoM I1 I2 n r') : r = r' ∧ Inv I2 J P := by
  rcases Nat.eq_zero_or_pos n with e | e
  · obtain ⟨x1, rfl⟩ := a.1 e
    obtain ⟨y1, y2⟩ := b.1 e
    exact ⟨by rw [x1, y1], h.m y2⟩
  · obtain ⟨m, rfl⟩ : ∃ m, n = m + 1 := ⟨n - 1, by omega⟩
    obtain ⟨x1, c, hc5, hc, q1, q2, q3, q4⟩ := a.2 m rfl
    obtain ⟨y1, k1, k2, k3, k4⟩ := b.2 m rfl
    obtain ⟨n2, c1, c2, c3, c4⟩ := h.p
    obtain rfl : n2 = m + 1 := (nI_eq (by omega) (by omega)).mp (c2.symm.trans hn)
    have hR := h.r.1
    obtain ⟨-, r1, r2⟩ := hR.ln (j := m) (by omega)
    have E : ∀ y, y ≠ 8 → y ≠ 4 → y ≠ 5 → y ≠ 6 → y ≠ 7 → I1 y = I y := fun y y1 y2 y3 y4 y5 => by rw [q1 y (by omega) (by omega) (by omega) (by omega), u2_n y1]
    have G : ∀ y, y ≠ 8 → y ≠ 4 → y ≠ 5 → y ≠ 6 → y ≠ 7 → y ≠ 90 → y ≠ 96 → I2 y = I y := fun y y1 y2 y3 y4 y5 y6 y7 => by rw [k1 y y6 y7, E y y1 y2 y3 y4 y5]
    have g9 : ∀ j, j ≠ 0 → j ≠ 18 → I2 90 j = I 90 j := fun j j1 j2 => by rw [k2 j j1 j2, E 90 (by decide) (by decide) (by decide) (by decide) (by decide)]
    have f : Fr I I2 := ⟨G 92 (by decide) (by decide) (by decide) (by decide) (by decide) (by decide) (by decide), g9 4 (by decide) (by decide), g9 5 (by decide) (by decide)⟩
    have w : ∀ a, 4 ≤ a → a ≤ 7 → I2 a = I1 a := fun a l1 l2 => by rw [k1 a (by omega) (by omega)]
    have w8 : ∀ a, 10 ≤ a → a ≤ 65 → u2 I 8 1 (nI m) a = I a := fun a l1 l2 => u2_n (by omega)
    refine ⟨by rw [x1, y1], Inv.of (h.t.eq (G 2 (by decide) (by decide) (by decide) (by decide) (by decide) (by decide) (by decide)) (G 3 (by decide) (by decide) (by decide) (by decide) (by decide) (by decide) (by decide)) (G 91 (by decide) (by decide) (by decide) (by decide) (by decide) (by decide) (by decide)) (g9 2 (by decide) (by decide))) ?_ ⟨m, by omega, ?_, k3, fun j hj => ?_⟩ h.r (h.k.eq f (fun a _ _ => G a (by omega) (by omega) (by omega) (by omega) (by omega) (by omega) (by omega)) (G 99 (by decide) (by decide) (by decide) (by decide) (by decide) (by decide) (by decide)) (G 100 (by decide) (by decide) (by decide) (by decide) (by decide) (by decide) (by decide))) (h.s.eq (fun a _ _ => G a (by omega) (by omega) (by omega) (by omega) (by omega) (by omega) (by omega)) (G 101 (by decide) (by decide) (by decide) (by decide) (by decide) (by decide) (by decide)) (G 102 (by decide) (by decide) (by decide) (by decide) (by decide) (by decide) (by decide)) (g9 21 (by decide) (by decide))) h.j⟩
    · refine (c4 m (by omega)).mv hc hc5 f ?_ (fun j j1 j2 => ?_) (fun k hk => ?_) (fun j hj => ?_)
      · rw [w 4 (by omega) (by omega)]; exact q2
      · rw [w 4 (by omega) (by omega), q3 j j1 j2, w8 _ (by omega) (by omega)]
      · have := q4 k hk
        rw [w8 _ (by omega) (by omega), w8 _ (by omega) (by omega), w8 _ (by omega) (by omega)] at this
        show I2 5 k = _ ∧ I2 6 k = _ ∧ I2 7 k = _
        rw [w 5 (by omega) (by omega), w 6 (by omega) (by omega), w 7 (by omega) (by omega)]
        exact this
      · rw [k4 j hj, E 98 (by decide) (by decide) (by decide) (by decide) (by decide)]
    · rw [k1 8 (by decide) (by decide), q1 8 (by decide) (by decide) (by decide) (by decide), u2_ss]
    · obtain ⟨-, r3, r4⟩ := hR.ln (j := j) (by omega)
      have e98 : I2 98 = I 98 := G 98 (by decide) (by decide) (by decide) (by decide) (by decide) (by decide) (by decide)
      rw [e98]
      exact (c4 j (by omega)).eq (fun a _ _ => G a (by omega) (by omega) (by omega) (by omega) (by omega) (by omega) (by omega)) f.1 f.2.1 f.2.2
