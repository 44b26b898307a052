theorem inv_wipe {I I1 I2 : IT} {J : JT} {P : PT} {r r' : Int32} (h : Inv I J P) (a : r = I 2 1 ∧ I1 = u2 I 2 1 0) (b : r' = I1 90 2 ∧ ∃ I0, SameM I1 I0 ∧ I2 = u2 I0 90 2 0) : r = r' ∧ Inv I2 J P := by
  obtain ⟨a1, rfl⟩ := a
  obtain ⟨b1, I3, y2, rfl⟩ := b
  obtain ⟨n, t1, t2, t3, -, -⟩ := h.t
  have g : ∀ x, ((x ≤ 92 ∧ x ≠ 90) ∨ x = 96 ∨ (98 ≤ x ∧ x ≤ 102)) → x ≠ 2 → u2 I3 90 2 0 x = I x := fun x hx z2 => by rw [u2_n (by omega), y2.1 x hx, u2_n z2]
  have g9 : ∀ j, (j = 4 ∨ j = 5 ∨ j = 18 ∨ j = 21) → u2 I3 90 2 0 90 j = I 90 j := fun j hj => by rw [u2_sn (by omega), y2.2 j (by omega), u2_n (by decide)]
  have f : Fr I (u2 I3 90 2 0) := ⟨g 92 (by omega) (by decide), g9 4 (by omega), g9 5 (by omega)⟩
  refine ⟨by rw [a1, b1, t2, u2_n (by decide), t3], Inv.of ⟨0, by decide, ?_, ?_, fun j hj => absurd hj (Nat.not_lt_zero j), fun j hj => absurd hj (Nat.not_lt_zero j)⟩ ?_ (h.p.eq h.r.1 f (fun a ha => g a (by omega) (by omega)) (g 98 (by omega) (by decide)) (g9 18 (by omega))) h.r (h.k.eq f (fun a _ _ => g a (by omega) (by omega)) (g 99 (by omega) (by decide)) (g 100 (by omega) (by decide))) (h.s.eq (fun a _ _ => g a (by omega) (by omega)) (g 101 (by omega) (by decide)) (g 102 (by omega) (by decide)) (g9 21 (by omega))) h.j⟩
  · rw [u2_n (by decide), y2.1 2 (by omega), u2_ss]; rfl
  · rw [u2_ss]; rfl
  · rw [g 96 (by omega) (by decide)]
    exact h.n.eq (fun a _ _ => g a (by omega) (by omega)) f.1 f.2.1 f.2.2
theorem inv_seed {I I1 : IT} {J : JT} {P : PT} {v : Int64} (h : Inv I J P) (s : SameM I I1) : Inv I1 (uJ (uJ J 1 v) 90 v) P := by
  have k := h.m s
  refine Inv.of k.t k.n k.p k.r k.k k.s ?_
  simp [uJ]
