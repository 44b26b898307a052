theorem rotP_at {P : PT} {j : Nat} (h : j < 13) : rotP P 9 j = P 9 (j + 1) := by
  show (if j < 13 then P 9 (j + 1) else if j = 13 then P 9 0 else P 9 j) = _
  rw [if_pos h]
/-- an act is remembered on both sides (Ia: the class's past; Ib: the class's line; Ic: the model's book; Id: the model's page) -/
theorem inv_book {I Ia Ib Ic Id : IT} {J : JT} {P P' : PT} {c n : Nat} (h : Inv I J P) (hc : I 4 0 = nI c) (hc5 : c ≤ 5) (hn : I 8 1 = nI n) (hn14 : n ≤ 14) (ra : RmAny I Ia P P' c n) (hb : ∀ a, (a < 4 ∨ 7 < a) → Ib a = Ia a) (nt : NtOut Ib Ic n) (hd : ∀ a, a ≠ 96 → Id a = Ic a) :
    (IvT Id ∧ IvP Id P' ∧ IvR P' ∧ IvK Id ∧ IvS Id) ∧ Fr I Id ∧ (∀ a, 4 ≤ a → a ≤ 7 → Ia a = I a) ∧ (∀ a, 4 ≤ a → a ≤ 7 → Id a = Ib a) ∧ Ic 96 = I 96 := by
  obtain ⟨hR, h66⟩ := h.r
  obtain ⟨n2, c1, c2, c3, c4⟩ := h.p
  obtain rfl : n2 = n := (nI_eq (by omega) (by omega)).mp (c2.symm.trans hn)
  obtain ⟨t1, t2, m, t3, t4, t5⟩ := nt
  have keep : ∀ a, a ≠ 8 → (a < 10 ∨ 66 ≤ a) → Ia a = I a := fun a a8 ha => RmAny.keeps hR ra a8 ha
  have key : ∃ mm sh, mm < 14 ∧ (∀ j, j < mm → j + sh < n2 ∧ P' 9 j = P 9 (j + sh) ∧ ∀ i, i < 13 → Ic 98 (13 * j + i) = Ib 98 (13 * (j + sh) + i)) ∧ RowsOk P' ∧ P' 66 = P 66 ∧ RmOut I Ia P' c mm ∧ m = mm := by
    rcases ra with ⟨u1, u2, u3⟩ | ⟨u1, u2, u3⟩
    · subst u2
      rcases t3 with ⟨v1, v2, v3⟩ | ⟨v1, -⟩
      · exact ⟨n2, 0, u1, fun j hj => ⟨hj, rfl, fun i hi => v3 _ (by omega)⟩, hR, rfl, u3, v2⟩
      · omega
    · subst u2
      rcases t3 with ⟨v1, -⟩ | ⟨v1, v2, v3⟩
      · omega
      · refine ⟨13, 1, by decide, fun j hj => ⟨by omega, rotP_at hj, fun i hi => ?_⟩, hR.rot, rfl, u3, v2⟩
        rw [v3 _ (by omega), show 13 * j + i + 13 = 13 * (j + 1) + i by omega]
  obtain ⟨mm, sh, m14, old, hR', h66', rm, rfl⟩ := key
  obtain ⟨-, p1, p2⟩ := hR'.ln (j := m) m14
  obtain ⟨w1, w2, w3, w4, w5⟩ := rm
  have W : ∀ a, a ≠ 90 → a ≠ 96 → a ≠ 98 → (a < 4 ∨ 7 < a) → Id a = Ia a := fun a a1 a2 a3 a4 => by rw [hd a a2, t1 a a1 a3, hb a a4]
  have G : ∀ a, a ≠ 90 → a ≠ 96 → a ≠ 98 → a ≠ 8 → (a < 4 ∨ (7 < a ∧ a < 10) ∨ 66 ≤ a) → Id a = I a := fun a a1 a2 a3 a5 a4 => by rw [W a a1 a2 a3 (by omega), keep a a5 (by omega)]
  have g9 : ∀ j, j ≠ 0 → j ≠ 18 → Id 90 j = I 90 j := fun j j1 j2 => by rw [hd 90 (by decide), t2 j j1 j2, hb 90 (by omega), keep 90 (by decide) (by omega)]
  have f : Fr I Id := ⟨G 92 (by decide) (by decide) (by decide) (by decide) (by omega), g9 4 (by decide) (by decide), g9 5 (by decide) (by decide)⟩
  have b96 : Ib 96 = I 96 := by rw [hb 96 (by omega), keep 96 (by decide) (by omega)]
  have b98 : Ib 98 = I 98 := by rw [hb 98 (by omega), keep 98 (by decide) (by omega)]
  refine ⟨⟨h.t.eq (G 2 (by decide) (by decide) (by decide) (by decide) (by omega)) (G 3 (by decide) (by decide) (by decide) (by decide) (by omega)) (G 91 (by decide) (by decide) (by decide) (by decide) (by omega)) (g9 2 (by decide) (by decide)), ⟨m + 1, by omega, ?_, ?_, fun j hj => ?_⟩, ⟨hR', fun s hs => by rw [h66']; exact h66 s hs⟩, h.k.eq f (fun a _ _ => G a (by omega) (by omega) (by omega) (by omega) (by omega)) (G 99 (by decide) (by decide) (by decide) (by decide) (by omega)) (G 100 (by decide) (by decide) (by decide) (by decide) (by omega)), h.s.eq (fun a _ _ => G a (by omega) (by omega) (by omega) (by omega) (by omega)) (G 101 (by decide) (by decide) (by decide) (by decide) (by omega)) (G 102 (by decide) (by decide) (by decide) (by decide) (by omega)) (g9 21 (by decide) (by decide))⟩, f, fun a a1 a2 => keep a (by omega) (by omega), fun a a1 a2 => by rw [hd a (by omega), t1 a (by omega) (by omega)], by rw [t1 96 (by decide) (by decide), b96]⟩
  · rw [W 8 (by decide) (by decide) (by decide) (by omega)]; exact w2
  · rw [hd 90 (by decide)]; exact t4
  · rcases Nat.lt_or_ge j m with z | z
    · obtain ⟨o1, o2, o3⟩ := old j z
      obtain ⟨-, p3, p4⟩ := hR'.ln (j := j) (by omega)
      have ap := hR'.apart (i := j) (j := m) (by omega) m14 (by omega)
      have hL := c4 (j + sh) o1
      rw [← o2] at hL
      refine (hL.eq (I' := Id) (fun a a1 a2 => ?_) f.1 f.2.1 f.2.2).row (fun i hi => ?_)
      · rw [W a (by omega) (by omega) (by omega) (by omega)]
        exact w1 a (by omega) (by omega) (by omega) (by omega) (by omega)
      · show Id 98 (13 * j + i) = I 98 (13 * (j + sh) + i)
        rw [hd 98 (by decide), o3 i hi, b98]
    · obtain rfl : j = m := by omega
      refine h.n.mv hc hc5 f ?_ (fun i i1 i2 => ?_) (fun k hk => ?_) (fun i hi => ?_)
      · rw [W (P' 9 j) (by omega) (by omega) (by omega) (by omega)]; exact w3
      · rw [W (P' 9 j) (by omega) (by omega) (by omega) (by omega)]; exact w4 i i1 i2
      · rw [W (P' 9 j + 1) (by omega) (by omega) (by omega) (by omega), W (P' 9 j + 2) (by omega) (by omega) (by omega) (by omega), W (P' 9 j + 3) (by omega) (by omega) (by omega) (by omega)]; exact w5 k hk
      · show Id 98 (13 * j + i) = I 96 i
        rw [hd 98 (by decide), t5 i hi, b96]
theorem lnr_let {I I' : IT} {A j c : Nat} {row row' : Nat → Int32} {v : Int32} (h : LnR I A row) (hc : I A 0 = nI c) (hc5 : c ≤ 5) (hj : j < c) (f : Fr I I') (h0 : I' A = I A) (h1 : ∀ k, I' (A + 1) k = if k = j then v else I (A + 1) k) (h2 : I' (A + 2) = I (A + 2)) (h3 : I' (A + 3) = I (A + 3)) (hr : ∀ i, row' i = if i = 3 + j then v else row i) (hv : 1 ≤ v.toInt ∧ v.toInt ≤ 30) : LnR I' A row' := by
  obtain ⟨d, g1, g2, g3, g6, g7, g8, g9, g10, g11, g12, g13⟩ := h
  obtain rfl : d = c := (nI_eq (by omega) (by omega)).mp (g2.symm.trans hc)
  have rw0 : ∀ i, i < 3 → row' i = row i := fun i hi => by rw [hr i, if_neg (by omega)]
  have rw8 : ∀ k, k < d → row' (8 + k) = row (8 + k) := fun k hk => by rw [hr (8 + k), if_neg (by omega)]
  refine ⟨d, g1, by rw [h0]; exact g2, by rw [rw0 0 (by decide)]; exact g3, by rw [h0, rw0 1 (by decide)]; exact g6, by rw [h0, rw0 2 (by decide)]; exact g7, by rw [h0, f.2.1]; exact g8, by rw [h0, f.2.2]; exact g9, fun k hk => ?_, by rw [rw0 1 (by decide)]; exact g11, by rw [rw0 2 (by decide)]; exact g12, fun k hk => ?_⟩
  · rw [h1 k, h2, h3, f.1, hr (3 + k), rw8 k hk]
    by_cases e : k = j
    · rw [if_pos e, if_pos (by omega)]
      exact ⟨rfl, (g10 k hk).2⟩
    · rw [if_neg e, if_neg (by omega)]
      exact g10 k hk
  · rw [f.1, hr (3 + k), rw8 k hk]
    by_cases e : k = j
    · rw [if_pos (by omega)]
      exact ⟨(g13 k hk).1, hv, (g13 k hk).2.2⟩
    · rw [if_neg (by omega)]
      exact g13 k hk
theorem lnr_set {I I' : IT} {A j c : Nat} {row row' : Nat → Int32} {v : Int32} (h : LnR I A row) (hc : I A 0 = nI c) (hc5 : c ≤ 5) (hj : j < c) (f : Fr I I') (h0 : I' A = I A) (h1 : I' (A + 1) = I (A + 1)) (h2 : ∀ k, I' (A + 2) k = if k = j then v else I (A + 2) k) (h3 : I' (A + 3) = I (A + 3)) (hr : ∀ i, row' i = if i = 8 + j then v else row i) (hv : sm v 2) : LnR I' A row' := by
  obtain ⟨d, g1, g2, g3, g6, g7, g8, g9, g10, g11, g12, g13⟩ := h
  obtain rfl : d = c := (nI_eq (by omega) (by omega)).mp (g2.symm.trans hc)
  have rw0 : ∀ i, i < 3 → row' i = row i := fun i hi => by rw [hr i, if_neg (by omega)]
  have rw3 : ∀ k, k < d → row' (3 + k) = row (3 + k) := fun k hk => by rw [hr (3 + k), if_neg (by omega)]
  refine ⟨d, g1, by rw [h0]; exact g2, by rw [rw0 0 (by decide)]; exact g3, by rw [h0, rw0 1 (by decide)]; exact g6, by rw [h0, rw0 2 (by decide)]; exact g7, by rw [h0, f.2.1]; exact g8, by rw [h0, f.2.2]; exact g9, fun k hk => ?_, by rw [rw0 1 (by decide)]; exact g11, by rw [rw0 2 (by decide)]; exact g12, fun k hk => ?_⟩
  · rw [h2 k, h1, h3, f.1, hr (8 + k), rw3 k hk]
    by_cases e : k = j
    · rw [if_pos e, if_pos (by omega)]
      exact ⟨(g10 k hk).1, rfl, (g10 k hk).2.2⟩
    · rw [if_neg e, if_neg (by omega)]
      exact g10 k hk
  · rw [f.1, hr (8 + k), rw3 k hk]
    by_cases e : k = j
    · rw [if_pos (by omega)]
      exact ⟨hv, (g13 k hk).2⟩
    · rw [if_neg (by omega)]
      exact g13 k hk
theorem lnr_cut {I I' : IT} {A j c : Nat} {row row' : Nat → Int32} (h : LnR I A row) (hc : I A 0 = nI c) (hc5 : c ≤ 5) (hj : j < c) (f : Fr I I') (h0 : ∀ k, I' A k = if k = 0 then nI j else I A k) (h1 : I' (A + 1) = I (A + 1)) (h2 : I' (A + 2) = I (A + 2)) (h3 : I' (A + 3) = I (A + 3)) (hr : ∀ i, row' i = if i = 0 then nI j else row i) : LnR I' A row' := by
  obtain ⟨d, g1, g2, g3, g6, g7, g8, g9, g10, g11, g12, g13⟩ := h
  obtain rfl : d = c := (nI_eq (by omega) (by omega)).mp (g2.symm.trans hc)
  have rwn : ∀ i, i ≠ 0 → row' i = row i := fun i hi => by rw [hr i, if_neg hi]
  have hn : ∀ i, i ≠ 0 → I' A i = I A i := fun i hi => by rw [h0 i, if_neg hi]
  refine ⟨j, by omega, by rw [h0 0, if_pos rfl], by rw [hr 0, if_pos rfl], by rw [hn 1 (by decide), rwn 1 (by decide)]; exact g6, by rw [hn 2 (by decide), rwn 2 (by decide)]; exact g7, by rw [hn 3 (by decide), f.2.1]; exact g8, by rw [hn 4 (by decide), f.2.2]; exact g9, fun k hk => ?_, by rw [rwn 1 (by decide)]; exact g11, by rw [rwn 2 (by decide)]; exact g12, fun k hk => ?_⟩
  · rw [h1, h2, h3, f.1, rwn (3 + k) (by omega), rwn (8 + k) (by omega)]
    exact g10 k (by omega)
  · rw [f.1, rwn (3 + k) (by omega), rwn (8 + k) (by omega)]
    exact g13 k (by omega)
theorem lnr_turn {I I' : IT} {A : Nat} {row row' : Nat → Int32} {v w : Int32} (h : LnR I A row) (f : Fr I I') (h0 : ∀ k, I' A k = if k = 1 then v else if k = 2 then w else I A k) (h1 : I' (A + 1) = I (A + 1)) (h2 : I' (A + 2) = I (A + 2)) (h3 : I' (A + 3) = I (A + 3)) (hr : ∀ i, row' i = if i = 1 then v else if i = 2 then w else row i) (hv : sm v 2) (hw : sm w 2) : LnR I' A row' := by
  obtain ⟨d, g1, g2, g3, g6, g7, g8, g9, g10, g11, g12, g13⟩ := h
  have rwn : ∀ i, i ≠ 1 → i ≠ 2 → row' i = row i := fun i hi hi2 => by rw [hr i, if_neg hi, if_neg hi2]
  have hn : ∀ i, i ≠ 1 → i ≠ 2 → I' A i = I A i := fun i hi hi2 => by rw [h0 i, if_neg hi, if_neg hi2]
  have r1 : row' 1 = v := by rw [hr 1, if_pos rfl]
  have r2 : row' 2 = w := by rw [hr 2, if_neg (by decide), if_pos rfl]
  refine ⟨d, g1, by rw [hn 0 (by decide) (by decide)]; exact g2, by rw [rwn 0 (by decide) (by decide)]; exact g3, by rw [h0 1, if_pos rfl, r1], by rw [h0 2, if_neg (by decide), if_pos rfl, r2], by rw [hn 3 (by decide) (by decide), f.2.1]; exact g8, by rw [hn 4 (by decide) (by decide), f.2.2]; exact g9, fun k hk => ?_, by rw [r1]; exact hv, by rw [r2]; exact hw, fun k hk => ?_⟩
  · rw [h1, h2, h3, f.1, rwn (3 + k) (by omega) (by omega), rwn (8 + k) (by omega) (by omega)]
    exact g10 k hk
  · rw [f.1, rwn (3 + k) (by omega) (by omega), rwn (8 + k) (by omega) (by omega)]
    exact g13 k hk
theorem sm2_of {v : Int32} (h : -2 ≤ v ∧ v ≤ 2) : sm v 2 := by
  have z1 := h.1
  have z2 := h.2
  rw [Int32.le_iff_toInt_le, show (-2 : Int32).toInt = -2 from by decide] at z1
  rw [Int32.le_iff_toInt_le, show (2 : Int32).toInt = 2 from by decide] at z2
  exact ⟨z1, z2⟩
theorem yd_of {v : Int32} (h : 1 ≤ v ∧ v ≤ 30) : 1 ≤ v.toInt ∧ v.toInt ≤ 30 := by
  have z1 := h.1
  have z2 := h.2
  rw [Int32.le_iff_toInt_le, show (1 : Int32).toInt = 1 from by decide] at z1
  rw [Int32.le_iff_toInt_le, show (30 : Int32).toInt = 30 from by decide] at z2
  exact ⟨z1, z2⟩
/-- the lines' fields are those of the page -/
theorem LnR.fld {I : IT} {A c : Nat} {row : Nat → Int32} (h : LnR I A row) (hc : I A 0 = nI c) (hc5 : c ≤ 5) : I A 1 = row 1 ∧ I A 2 = row 2 ∧ ∀ k, k < c → I (A + 1) k = row (3 + k) ∧ I (A + 2) k = row (8 + k) := by
  obtain ⟨d, g1, g2, g3, g6, g7, g8, g9, g10, -⟩ := h
  obtain rfl : d = c := (nI_eq (by omega) (by omega)).mp (g2.symm.trans hc)
  exact ⟨g6, g7, fun k hk => ⟨(g10 k hk).1, (g10 k hk).2.1⟩⟩
theorem inv_letOut {I I1 I2 : IT} {J : JT} {P P' : PT} {c n : Nat} {i d r r' : Int32} (h : Inv I J P) (hc : I 4 0 = nI c) (hc5 : c ≤ 5) (hn : I 8 1 = nI n) (hn14 : n ≤ 14) (a : RLetOut I I1 P P' c n i d r) (b : RLetOutM I1 I2 c n i d r') : r = r' ∧ Inv I2 J P' := by
  by_cases hx : ∃ j, j < c ∧ i = nI j
  · obtain ⟨j, hj, ej⟩ := hx
    obtain ⟨a1, a2⟩ := a.2 j hj ej
    obtain ⟨b1, b2⟩ := b.2 j hj ej
    by_cases z : d = 0 ∨ ¬ (-9 ≤ d ∧ d ≤ 9)
    · obtain ⟨x1, rfl, rfl⟩ := a1 z
      obtain ⟨y1, y2⟩ := b1 z
      exact ⟨by rw [x1, y1], h.m y2⟩
    · obtain ⟨a3, a4⟩ := a2 z
      obtain ⟨b3, b4⟩ := b2 z
      obtain ⟨-, -, f3⟩ := h.n.fld hc hc5
      have e5 : I 5 j = I 96 (3 + j) := (f3 j hj).1
      by_cases y : 1 ≤ I 5 j + d ∧ I 5 j + d ≤ 30
      · obtain ⟨x1, Ia, ra, rfl⟩ := a4 y
        have e96 : u2 Ia 5 j (I 5 j + d) 96 = I 96 := by rw [u2_n (by decide), RmAny.keeps h.r.1 ra (by decide) (by omega)]
        rw [e96, ← e5] at b4
        obtain ⟨y1, Ic, nt, rfl⟩ := b4 y
        obtain ⟨⟨v1, v2, v3, v4, v5⟩, f, k1, k2, k3⟩ := inv_book h hc hc5 hn hn14 ra (Ib := u2 Ia 5 j (I 5 j + d)) (fun a ha => u2_n (by omega)) nt (Id := u2 Ic 96 (3 + j) (I 5 j + d)) (fun a ha => u2_n ha)
        refine ⟨by rw [x1, y1], Inv.of v1 ?_ v2 v3 v4 v5 h.j⟩
        refine lnr_let h.n hc hc5 hj f ?_ (fun k => ?_) ?_ ?_ (fun i => ?_) (yd_of y)
        · rw [k2 4 (by omega) (by omega), u2_n (by decide), k1 4 (by omega) (by omega)]
        · rw [k2 5 (by omega) (by omega), u2_s, k1 5 (by omega) (by omega)]
          rfl
        · rw [k2 6 (by omega) (by omega), u2_n (by decide), k1 6 (by omega) (by omega)]
        · rw [k2 7 (by omega) (by omega), u2_n (by decide), k1 7 (by omega) (by omega)]
        · rw [u2_s, k3]
          rfl
      · obtain ⟨x1, rfl, rfl⟩ := a3 y
        obtain ⟨y1, y2⟩ := b3 (by rw [← e5]; exact y)
        exact ⟨by rw [x1, y1], h.m y2⟩
  · obtain ⟨x1, rfl, rfl⟩ := a.1 hx
    obtain ⟨y1, y2⟩ := b.1 hx
    exact ⟨by rw [x1, y1], h.m y2⟩
theorem inv_set {I I1 I2 : IT} {J : JT} {P P' : PT} {c n : Nat} {i d r r' : Int32} (h : Inv I J P) (hc : I 4 0 = nI c) (hc5 : c ≤ 5) (hn : I 8 1 = nI n) (hn14 : n ≤ 14) (a : RSet I I1 P P' c n i d r) (b : RSetM I1 I2 c n i d r') : r = r' ∧ Inv I2 J P' := by
  by_cases hx : ∃ j, j < c ∧ i = nI j
  · obtain ⟨j, hj, ej⟩ := hx
    obtain ⟨a1, a2⟩ := a.2 j hj ej
    obtain ⟨b1, b2⟩ := b.2 j hj ej
    by_cases z : -2 ≤ d ∧ d ≤ 2
    · obtain ⟨a3, a4⟩ := a2 z
      obtain ⟨b3, b4⟩ := b2 z
      obtain ⟨-, -, f3⟩ := h.n.fld hc hc5
      have e6 : I 6 j = I 96 (8 + j) := (f3 j hj).2
      by_cases y : I 6 j = d
      · obtain ⟨x1, rfl, rfl⟩ := a3 y
        obtain ⟨y1, y2⟩ := b3 (by rw [← e6]; exact y)
        exact ⟨by rw [x1, y1], h.m y2⟩
      · obtain ⟨x1, Ia, ra, rfl⟩ := a4 y
        have e96 : u2 Ia 6 j d 96 = I 96 := by rw [u2_n (by decide), RmAny.keeps h.r.1 ra (by decide) (by omega)]
        rw [e96, ← e6] at b4
        obtain ⟨y1, Ic, nt, rfl⟩ := b4 y
        obtain ⟨⟨v1, v2, v3, v4, v5⟩, f, k1, k2, k3⟩ := inv_book h hc hc5 hn hn14 ra (Ib := u2 Ia 6 j d) (fun a ha => u2_n (by omega)) nt (Id := u2 Ic 96 (8 + j) d) (fun a ha => u2_n ha)
        refine ⟨by rw [x1, y1], Inv.of v1 ?_ v2 v3 v4 v5 h.j⟩
        refine lnr_set h.n hc hc5 hj f ?_ ?_ (fun k => ?_) ?_ (fun i => ?_) (sm2_of z)
        · rw [k2 4 (by omega) (by omega), u2_n (by decide), k1 4 (by omega) (by omega)]
        · rw [k2 5 (by omega) (by omega), u2_n (by decide), k1 5 (by omega) (by omega)]
        · rw [k2 6 (by omega) (by omega), u2_s, k1 6 (by omega) (by omega)]
          rfl
        · rw [k2 7 (by omega) (by omega), u2_n (by decide), k1 7 (by omega) (by omega)]
        · rw [u2_s, k3]
          rfl
    · obtain ⟨x1, rfl, rfl⟩ := a1 z
      obtain ⟨y1, y2⟩ := b1 z
      exact ⟨by rw [x1, y1], h.m y2⟩
  · obtain ⟨x1, rfl, rfl⟩ := a.1 hx
    obtain ⟨y1, y2⟩ := b.1 hx
    exact ⟨by rw [x1, y1], h.m y2⟩
theorem inv_cut {I I1 I2 : IT} {J : JT} {P P' : PT} {c n : Nat} {i r r' : Int32} (h : Inv I J P) (hc : I 4 0 = nI c) (hc5 : c ≤ 5) (hn : I 8 1 = nI n) (hn14 : n ≤ 14) (a : RCut I I1 P P' c n i r) (b : RCutM I1 I2 c n i r') : r = r' ∧ Inv I2 J P' := by
  by_cases hx : ∃ j, j < c ∧ i = nI j
  · obtain ⟨j, hj, ej⟩ := hx
    obtain ⟨x1, Ia, ra, rfl⟩ := a.2 j hj ej
    obtain ⟨y1, Ic, nt, rfl⟩ := b.2 j hj ej
    obtain ⟨⟨v1, v2, v3, v4, v5⟩, f, k1, k2, k3⟩ := inv_book h hc hc5 hn hn14 ra (Ib := u2 Ia 4 0 (nI j)) (fun a ha => u2_n (by omega)) nt (Id := u2 Ic 96 0 (nI j)) (fun a ha => u2_n ha)
    refine ⟨by rw [x1, y1], Inv.of v1 ?_ v2 v3 v4 v5 h.j⟩
    refine lnr_cut h.n hc hc5 hj f (fun k => ?_) ?_ ?_ ?_ (fun i => ?_)
    · rw [k2 4 (by omega) (by omega), u2_s, k1 4 (by omega) (by omega)]
      rfl
    · rw [k2 5 (by omega) (by omega), u2_n (by decide), k1 5 (by omega) (by omega)]
    · rw [k2 6 (by omega) (by omega), u2_n (by decide), k1 6 (by omega) (by omega)]
    · rw [k2 7 (by omega) (by omega), u2_n (by decide), k1 7 (by omega) (by omega)]
    · rw [u2_s, k3]
      rfl
  · obtain ⟨x1, rfl, rfl⟩ := a.1 hx
    obtain ⟨y1, y2⟩ := b.1 hx
    exact ⟨by rw [x1, y1], h.m y2⟩
theorem inv_turn {I I1 I2 : IT} {J : JT} {P P' : PT} {c n : Nat} {u w r r' : Int32} (h : Inv I J P) (hc : I 4 0 = nI c) (hc5 : c ≤ 5) (hn : I 8 1 = nI n) (hn14 : n ≤ 14) (a : RTurn I I1 P P' c n u w r) (b : RTurnM I1 I2 n u w r') : r = r' ∧ Inv I2 J P' := by
  by_cases z : (-2 ≤ u ∧ u ≤ 2) ∧ (-2 ≤ w ∧ w ≤ 2)
  · obtain ⟨a3, a4⟩ := a.2 z
    obtain ⟨b3, b4⟩ := b.2 z
    obtain ⟨e1, e2, -⟩ := h.n.fld hc hc5
    by_cases y : u = I 4 1 ∧ w = I 4 2
    · obtain ⟨x1, rfl, rfl⟩ := a3 y
      obtain ⟨y1, y2⟩ := b3 (by rw [← e1, ← e2]; exact y)
      exact ⟨by rw [x1, y1], h.m y2⟩
    · obtain ⟨x1, Ia, ra, rfl⟩ := a4 y
      have e96 : u2 (u2 Ia 4 1 u) 4 2 w 96 = I 96 := by rw [u2_n (by decide), u2_n (by decide), RmAny.keeps h.r.1 ra (by decide) (by omega)]
      rw [e96, ← e1, ← e2] at b4
      obtain ⟨y1, Ic, nt, rfl⟩ := b4 y
      obtain ⟨⟨v1, v2, v3, v4, v5⟩, f, k1, k2, k3⟩ := inv_book h hc hc5 hn hn14 ra (Ib := u2 (u2 Ia 4 1 u) 4 2 w) (fun a ha => by rw [u2_n (by omega), u2_n (by omega)]) nt (Id := u2 (u2 Ic 96 1 u) 96 2 w) (fun a ha => by rw [u2_n ha, u2_n ha])
      have two : ∀ (X : IT) (A k : Nat), u2 (u2 X A 1 u) A 2 w A k = if k = 1 then u else if k = 2 then w else X A k := fun X A k => by
        rw [u2_g, u2_g]
        by_cases k1 : k = 1
        · subst k1; simp
        · by_cases k2 : k = 2
          · subst k2; simp
          · simp [k1, k2]
      refine ⟨by rw [x1, y1], Inv.of v1 ?_ v2 v3 v4 v5 h.j⟩
      refine lnr_turn h.n f (fun k => ?_) ?_ ?_ ?_ (fun i => ?_) (sm2_of z.1) (sm2_of z.2)
      · rw [k2 4 (by omega) (by omega), two, k1 4 (by omega) (by omega)]
      · rw [k2 5 (by omega) (by omega), u2_n (by decide), u2_n (by decide), k1 5 (by omega) (by omega)]
      · rw [k2 6 (by omega) (by omega), u2_n (by decide), u2_n (by decide), k1 6 (by omega) (by omega)]
      · rw [k2 7 (by omega) (by omega), u2_n (by decide), u2_n (by decide), k1 7 (by omega) (by omega)]
      · rw [two, k3]
  · obtain ⟨x1, rfl, rfl⟩ := a.1 z
    obtain ⟨y1, y2⟩ := b.1 z
    exact ⟨by rw [x1, y1], h.m y2⟩
