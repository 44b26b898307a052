/-! the parts of the invariant: text, line now, past, kept, sightings -/
def IvT (I : IT) : Prop := ∃ n, n ≤ 32 ∧ I 2 1 = nI n ∧ I 90 2 = nI n ∧ (∀ j, j < n → I 3 j = I 91 j) ∧ Byt (I 91) n
def IvP (I : IT) (P : PT) : Prop := ∃ m, m ≤ 14 ∧ I 8 1 = nI m ∧ I 90 18 = nI m ∧ ∀ j, j < m → LnR I (P 9 j) (fun i => I 98 (13 * j + i))
def IvR (P : PT) : Prop := RowsOk P ∧ ∀ s, s < 2 → P 66 s = 67 + 4 * s
def IvK (I : IT) : Prop := ∀ s, s < 2 → I 75 s = I 100 s ∧ (¬ I 100 s = 0 → LnR I (67 + 4 * s) (fun i => I 99 (13 * s + i)))
def IvS (I : IT) : Prop := ∃ sn, sn ≤ 6 ∧ I 76 2 = nI sn ∧ I 90 21 = nI sn ∧ ∀ r, r < sn → I 77 r = I 101 r ∧ I 78 r = I 102 r ∧ ∃ q, q < 5 ∧ I 101 r = nI q
theorem Inv.of {I : IT} {J : JT} {P : PT} (t : IvT I) (n : LnR I 4 (I 96)) (p : IvP I P) (r : IvR P) (k : IvK I) (s : IvS I) (j : J 1 = J 90) : Inv I J P := ⟨t, n, p, r, k, s, j⟩
theorem Inv.t {I : IT} {J : JT} {P : PT} (h : Inv I J P) : IvT I := h.1
theorem Inv.n {I : IT} {J : JT} {P : PT} (h : Inv I J P) : LnR I 4 (I 96) := h.2.1
theorem Inv.p {I : IT} {J : JT} {P : PT} (h : Inv I J P) : IvP I P := h.2.2.1
theorem Inv.r {I : IT} {J : JT} {P : PT} (h : Inv I J P) : IvR P := h.2.2.2.1
theorem Inv.k {I : IT} {J : JT} {P : PT} (h : Inv I J P) : IvK I := h.2.2.2.2.1
theorem Inv.s {I : IT} {J : JT} {P : PT} (h : Inv I J P) : IvS I := h.2.2.2.2.2.1
theorem Inv.j {I : IT} {J : JT} {P : PT} (h : Inv I J P) : J 1 = J 90 := h.2.2.2.2.2.2
/-- the border, the fold and the tails are the same -/
def Fr (I I' : IT) : Prop := I' 92 = I 92 ∧ I' 90 4 = I 90 4 ∧ I' 90 5 = I 90 5
theorem IvT.eq {I I' : IT} (h : IvT I) (h2 : I' 2 = I 2) (h3 : I' 3 = I 3) (h4 : I' 91 = I 91) (h5 : I' 90 2 = I 90 2) : IvT I' := by
  unfold IvT
  rw [h2, h3, h4, h5]
  exact h
theorem IvP.eq {I I' : IT} {P : PT} (h : IvP I P) (hR : RowsOk P) (f : Fr I I') (h1 : ∀ a, a = 8 ∨ (10 ≤ a ∧ a ≤ 65) → I' a = I a) (h2 : I' 98 = I 98) (h3 : I' 90 18 = I 90 18) : IvP I' P := by
  obtain ⟨m, c1, c2, c3, c4⟩ := h
  refine ⟨m, c1, by rw [h1 8 (by omega)]; exact c2, by rw [h3]; exact c3, fun j hj => ?_⟩
  rw [h2]
  have hr := (hR.ln (j := j) (by omega)).2
  exact (c4 j hj).eq (fun a _ _ => h1 a (by omega)) f.1 f.2.1 f.2.2
theorem IvK.eq {I I' : IT} (h : IvK I) (f : Fr I I') (h1 : ∀ a, 67 ≤ a → a ≤ 75 → I' a = I a) (h2 : I' 99 = I 99) (h3 : I' 100 = I 100) : IvK I' := fun s hs => by
  rw [h1 75 (by decide) (by decide), h2, h3]
  exact ⟨(h s hs).1, fun z => ((h s hs).2 z).eq (fun a _ _ => h1 a (by omega) (by omega)) f.1 f.2.1 f.2.2⟩
theorem IvS.eq {I I' : IT} (h : IvS I) (h1 : ∀ a, 76 ≤ a → a ≤ 78 → I' a = I a) (h2 : I' 101 = I 101) (h3 : I' 102 = I 102) (h4 : I' 90 21 = I 90 21) : IvS I' := by
  unfold IvS
  rw [h1 76 (by decide) (by decide), h1 77 (by decide) (by decide), h1 78 (by decide) (by decide), h2, h3, h4]
  exact h
theorem inv_unsee {I I1 I2 : IT} {J : JT} {P : PT} {r r' : Int32} (h : Inv I J P) (a : r = I 76 2 ∧ I1 = u2 I 76 2 0) (b : r' = I1 90 21 ∧ I2 = u2 (u2 I1 90 0 0) 90 21 0) : r = r' ∧ Inv I2 J P := by
  obtain ⟨a1, rfl⟩ := a
  obtain ⟨b1, rfl⟩ := b
  obtain ⟨sn, s1, s2, s3, -⟩ := h.s
  have g : ∀ x, x ≠ 76 → x ≠ 90 → u2 (u2 (u2 I 76 2 0) 90 0 0) 90 21 0 x = I x := fun x x1 x2 => by rw [u2_n x2, u2_n x2, u2_n x1]
  have g9 : ∀ j, j ≠ 0 → j ≠ 21 → u2 (u2 (u2 I 76 2 0) 90 0 0) 90 21 0 90 j = I 90 j := fun j j1 j2 => by rw [u2_sn j2, u2_sn j1, u2_n (by decide)]
  have f : Fr I (u2 (u2 (u2 I 76 2 0) 90 0 0) 90 21 0) := ⟨g 92 (by decide) (by decide), g9 4 (by decide) (by decide), g9 5 (by decide) (by decide)⟩
  refine ⟨?_, Inv.of (h.t.eq (g 2 (by decide) (by decide)) (g 3 (by decide) (by decide)) (g 91 (by decide) (by decide)) (g9 2 (by decide) (by decide))) ?_ (h.p.eq h.r.1 f (fun a ha => g a (by omega) (by omega)) (g 98 (by decide) (by decide)) (g9 18 (by decide) (by decide))) h.r (h.k.eq f (fun a _ _ => g a (by omega) (by omega)) (g 99 (by decide) (by decide)) (g 100 (by decide) (by decide))) ?_ h.j⟩
  · rw [a1, b1, s2, u2_n (by decide), s3]
  · rw [g 96 (by decide) (by decide)]
    exact h.n.eq (fun a _ _ => g a (by omega) (by omega)) f.1 f.2.1 f.2.2
  · refine ⟨0, by decide, ?_, ?_, fun r hr => absurd hr (Nat.not_lt_zero r)⟩
    · rw [u2_n (by decide), u2_n (by decide), u2_ss]; rfl
    · rw [u2_ss]; rfl
