/-- the law's frame: the script at the cell 0, all that is made lies behind what was there -/
def GM (L : Nat) (xs : Nat → Int32) : GT := (fun E s args => (args = #[.ref E.2.1] ∧ va_X E.2.1 L xs s s.heap ∧ E.2.1 < s.heap.size ∧ E.2.1 ≤ E.1) ∧ s.heap.size = E.1 + 1, fun E s args below => lw_Z below args s)
theorem y_slen {y : YI} {pc nx : Nat} {ls : List (Option Value)} {st : List Value} {h : HS} {k n : Nat} {L : Nat} {xs : Nat → Int32} (d : Dc y pc .arraylength 1 nx) (K : xj y (GM L xs) nx ls (.int (Int32.ofNat L) :: st) h k n) : xj y (GM L xs) pc ls (.ref 0 :: st) h k n := by
  intro E p l e s m args below meth c H locs la C hH hS hl
  obtain ⟨hx, hb, hr, hml, hown, hts, hlk, hK, hbs, hnm, hNo, hex⟩ := id C
  obtain ⟨d, rfl⟩ := d
  obtain ⟨⟨e1, e2, e3, e4⟩, -⟩ := hex
  exact va_slen hx hb e2 e3 (Nat.not_lt.mpr e4) hS d (K E p l e s m args below meth c H locs la C hH hS hl)
theorem y_sld {y : YI} {pc nx : Nat} {ls : List (Option Value)} {st : List Value} {h : HS} {k n : Nat} {L : Nat} {xs : Nat → Int32} {i : Int32} (d : Dc y pc .iaload 1 nx) (hi : vp_in i L) (K : xj y (GM L xs) nx ls (.int (xs i.toNatClampNeg) :: st) h k n) : xj y (GM L xs) pc ls (.int i :: .ref 0 :: st) h k n := by
  intro E p l e s m args below meth c H locs la C hH hS hl
  obtain ⟨hx, hb, hr, hml, hown, hts, hlk, hK, hbs, hnm, hNo, hex⟩ := id C
  obtain ⟨d, rfl⟩ := d
  obtain ⟨⟨e1, e2, e3, e4⟩, -⟩ := hex
  exact va_sld hx hb e2 e3 (Nat.not_lt.mpr e4) hS hi d (K E p l e s m args below meth c H locs la C hH hS hl)
/-! the class does not touch the model's cells -/
theorem hi_write {I I1 : IT} {n : Nat} {v r : Int32} (hn : n ≤ 32) (a : RWrite I I1 n v r) {y : Nat} (hy : 89 < y) : I1 y = I y := by
  by_cases z : v < 0 ∨ 255 < v
  · rw [(a.1 z).2]
  · rcases Nat.lt_or_ge n 32 with g | g
    · exact ((a.2 z).2 g).2.1 y (by omega) (by omega)
    · rw [((a.2 z).1 (by omega)).2]
theorem hi_fly {I I1 : IT} {n : Nat} {r : Int32} (a : ((¬ ((∀ j, j < n → okL (I 3) j) ∧ ended n)) → r = -3 ∧ I1 = I) ∧ (((∀ j, j < n → okL (I 3) j) ∧ ended n) → n ≤ 26 → r = nI ((n - 6) / 4) ∧ ∃ Ia, TlOut I Ia ((n - 6) / 4) ∧ I1 = u2 (u2 (u2 Ia 8 1 0) 75 0 0) 75 1 0)) {y : Nat} (hy : 89 < y) : I1 y = I y := by
  by_cases hx : (∀ j, j < n → okL (I 3) j) ∧ ended n
  · have h26 : n ≤ 26 := by
      rcases Nat.lt_or_ge 26 n with z | z
      · have h1 : okL (I 3) (20 + 6) := hx.1 26 z
        have h1 : 20 < 20 ∧ okR (20 % 4) (I 3 (20 + 6)) := h1
        exact absurd h1.1 (by decide)
      · exact z
    obtain ⟨x1, Ia, ⟨q1, -⟩, rfl⟩ := a.2 hx h26
    rw [u2_n (by omega), u2_n (by omega), u2_n (by omega), q1 y (by omega) (by omega) (by omega) (by omega)]
  · rw [(a.1 hx).2]
theorem hi_letOut {I I1 : IT} {P P' : PT} {c n : Nat} {i d r : Int32} (hR : RowsOk P) (a : RLetOut I I1 P P' c n i d r) {y : Nat} (hy : 89 < y) : I1 y = I y := by
  by_cases hx : ∃ j, j < c ∧ i = nI j
  · obtain ⟨j, hj, ej⟩ := hx
    obtain ⟨a1, a2⟩ := a.2 j hj ej
    by_cases z : d = 0 ∨ ¬ (-9 ≤ d ∧ d ≤ 9)
    · rw [(a1 z).2.1]
    · obtain ⟨a3, a4⟩ := a2 z
      by_cases w : 1 ≤ I 5 j + d ∧ I 5 j + d ≤ 30
      · obtain ⟨x1, Ia, ra, rfl⟩ := a4 w
        rw [u2_n (by omega), ra.keeps hR (by omega) (by omega)]
      · rw [(a3 w).2.1]
  · rw [(a.1 hx).2.1]
theorem hi_set {I I1 : IT} {P P' : PT} {c n : Nat} {i d r : Int32} (hR : RowsOk P) (a : RSet I I1 P P' c n i d r) {y : Nat} (hy : 89 < y) : I1 y = I y := by
  by_cases hx : ∃ j, j < c ∧ i = nI j
  · obtain ⟨j, hj, ej⟩ := hx
    obtain ⟨a1, a2⟩ := a.2 j hj ej
    by_cases z : -2 ≤ d ∧ d ≤ 2
    · obtain ⟨a3, a4⟩ := a2 z
      by_cases w : I 6 j = d
      · rw [(a3 w).2.1]
      · obtain ⟨x1, Ia, ra, rfl⟩ := a4 w
        rw [u2_n (by omega), ra.keeps hR (by omega) (by omega)]
    · rw [(a1 z).2.1]
  · rw [(a.1 hx).2.1]
theorem hi_cut {I I1 : IT} {P P' : PT} {c n : Nat} {i r : Int32} (hR : RowsOk P) (a : RCut I I1 P P' c n i r) {y : Nat} (hy : 89 < y) : I1 y = I y := by
  by_cases hx : ∃ j, j < c ∧ i = nI j
  · obtain ⟨j, hj, ej⟩ := hx
    obtain ⟨x1, Ia, ra, rfl⟩ := a.2 j hj ej
    rw [u2_n (by omega), ra.keeps hR (by omega) (by omega)]
  · rw [(a.1 hx).2.1]
theorem hi_turn {I I1 : IT} {P P' : PT} {c n : Nat} {u w r : Int32} (hR : RowsOk P) (a : RTurn I I1 P P' c n u w r) {y : Nat} (hy : 89 < y) : I1 y = I y := by
  by_cases z : (-2 ≤ u ∧ u ≤ 2) ∧ (-2 ≤ w ∧ w ≤ 2)
  · obtain ⟨a3, a4⟩ := a.2 z
    by_cases q : u = I 4 1 ∧ w = I 4 2
    · rw [(a3 q).2.1]
    · obtain ⟨x1, Ia, ra, rfl⟩ := a4 q
      rw [u2_n (by omega), u2_n (by omega), ra.keeps hR (by omega) (by omega)]
  · rw [(a.1 z).2.1]
theorem hi_undo {I I1 : IT} {P : PT} {n : Nat} {r : Int32} (a : RUndo I I1 P n r) {y : Nat} (hy : 89 < y) : I1 y = I y := by
  rcases Nat.eq_zero_or_pos n with e | e
  · rw [(a.1 e).2]
  · obtain ⟨m, rfl⟩ : ∃ m, n = m + 1 := ⟨n - 1, by omega⟩
    obtain ⟨x1, c, hc5, hc, q1, -⟩ := a.2 m rfl
    rw [q1 y (by omega) (by omega) (by omega) (by omega), u2_n (by omega)]
theorem hi_keep {I I1 : IT} {c : Nat} {i r : Int32} (a : RKeep I I1 c i r) {y : Nat} (hy : 89 < y) : I1 y = I y := by
  by_cases hi : 0 ≤ i ∧ i ≤ 1
  · obtain ⟨s, hs, es⟩ := in01 hi
    obtain ⟨x1, I0, hC, rfl⟩ := a.2 s hs es
    rw [u2_n (by omega), hC.1 y (by omega) (by omega) (by omega) (by omega)]
  · rw [(a.1 (not01 hi)).2]
theorem hi_again {I I1 : IT} {i r : Int32} (a : RAgain I I1 i r) {y : Nat} (hy : 89 < y) : I1 y = I y := by
  by_cases hi : 0 ≤ i ∧ i ≤ 1
  · obtain ⟨s, hs, es⟩ := in01 hi
    obtain ⟨a1, a2⟩ := a.2 s hs es
    by_cases z : I 75 s = 0
    · rw [(a1 z).2]
    · obtain ⟨c, hc5, hc, x1, I0, hC, rfl⟩ := a2 z
      rw [u2_n (by omega), hC.1 y (by omega) (by omega) (by omega) (by omega)]
  · rw [(a.1 (not01 hi)).2]
theorem hi_seeAt {I I1 : IT} {c n : Nat} {i x r : Int32} (hn : n ≤ 6) (a : RSeeAt I I1 c n i x r) {y : Nat} (hy : 89 < y) : I1 y = I y := by
  by_cases hk : ∃ j, j < c ∧ i = nI j
  · by_cases hx : -30 ≤ x ∧ x ≤ 30
    · obtain ⟨a1, a2⟩ := (a.2 hk).2 hx
      rcases Nat.lt_or_ge n 6 with g | g
      · rw [(a2 g).2, u2_n (by omega), u2_n (by omega), u2_n (by omega)]
      · rw [(a1 (by omega)).2]
    · rw [((a.2 hk).1 hx).2]
  · rw [(a.1 hk).2]
theorem md_same {I I1 : IT} (s : ∀ y, 89 < y → I1 y = I y) : mdD I1 96 92 = mdD I 96 92 := by
  unfold mdD
  rw [s 96 (by decide), s 92 (by decide), s 90 (by decide)]
theorem SameC.hi {I I1 : IT} (s : SameC I I1) : ∀ y, 89 < y → I1 y = I y := fun y hy => s y (by omega)
theorem LEq.lr {D E : LD} {c : Nat} (h : LEq D E c) (r : LR E c) : LR D c := by
  refine ⟨by rw [h.2.1]; exact r.1, by rw [h.2.2.1]; exact r.2.1, fun k hk => ?_⟩
  rw [(h.1 k hk).1, (h.1 k hk).2.1, (h.1 k hk).2.2]
  exact r.2.2 k hk
/-- what a question needs behind the class's side -/
theorem Inv.nowC {I I1 : IT} {J : JT} {P : PT} (h : Inv I J P) (s : SameC I I1) {c : Nat} (hc : I 96 0 = nI c) (he : LEq (lnD I 4) (mdD I 96 92) c) (hr : LR (mdD I 96 92) c) : Inv I1 J P ∧ I1 96 0 = nI c ∧ LEq (lnD I 4) (mdD I1 96 92) c ∧ LR (mdD I1 96 92) c := by
  have e := md_same s.hi
  refine ⟨h.c s, ?_, ?_, ?_⟩
  · rw [s.hi 96 (by decide)]; exact hc
  · rw [e]; exact he
  · rw [e]; exact hr
theorem sm_100 {x : Int32} (h : -100 ≤ x ∧ x ≤ 100) : sm x 1000 := by
  have z1 := h.1
  have z2 := h.2
  rw [Int32.le_iff_toInt_le, show (-100 : Int32).toInt = -100 from by decide] at z1
  rw [Int32.le_iff_toInt_le, show (100 : Int32).toInt = 100 from by decide] at z2
  exact ⟨by omega, by omega⟩
theorem sm_20 {x : Int32} (h : -20 ≤ x ∧ x ≤ 20) : sm x 1000 := by
  have z1 := h.1
  have z2 := h.2
  rw [Int32.le_iff_toInt_le, show (-20 : Int32).toInt = -20 from by decide] at z1
  rw [Int32.le_iff_toInt_le, show (20 : Int32).toInt = 20 from by decide] at z2
  exact ⟨by omega, by omega⟩
/-- a number of the script -/
theorem x_scr {L : Nat} {xs : Nat → Int32} {t jn p0 p1 p2 p3 p4 p5 : Nat} {j : Int} {st : List Value} {h : HS} {k n : Nat} (d0 : Dc yLaw p0 (.aload_n 0) 1 p1) (d1 : Dc yLaw p1 (.iload_n 3) 1 p2) (d2 : Dc yLaw p2 (.iconst j) 1 p3) (d3 : Dc yLaw p3 .iadd 1 p4) (d4 : Dc yLaw p4 .iaload 1 p5) (hj : Int32.ofInt j = nI jn) (hj6 : jn < 6) (ht : 6 * t + 6 ≤ L) (hL : L ≤ 3072)
    (K : xj yLaw (GM L xs) p5 [some (.ref 0), some (.ref 1), some (.ref 90), some (.int (nI (6 * t)))] (.int (xs (6 * t + jn)) :: st) h k n) : xj yLaw (GM L xs) p0 [some (.ref 0), some (.ref 1), some (.ref 90), some (.int (nI (6 * t)))] st h k n := by
  have e : nI (6 * t) + nI jn = nI (6 * t + jn) := nI_add _ _
  refine x_aload_0 d0 ?_
  refine x_iload_3 d1 ?_
  refine x_iconst (nI jn) hj d2 ?_
  refine x_iadd d3 ?_
  rw [e]
  refine y_sld d4 (nI_in (by omega) (by omega)) ?_
  rw [nI_clamp (by omega)]
  exact K
