theorem inv_seeAt {I I1 I2 : IT} {J : JT} {P : PT} {c n : Nat} {i x r r' : Int32} (h : Inv I J P) (hc5 : c ≤ 5) (hn : I 76 2 = nI n) (hn6 : n ≤ 6) (a : RSeeAt I I1 c n i x r) (b : RSeeAtM I1 I2 c n i x r') : r = r' ∧ Inv I2 J P := by
  by_cases hk : ∃ j, j < c ∧ i = nI j
  · by_cases hx : -30 ≤ x ∧ x ≤ 30
    · obtain ⟨a1, a2⟩ := (a.2 hk).2 hx
      obtain ⟨b1, b2⟩ := (b.2 hk).2 hx
      rcases Nat.lt_or_ge n 6 with hlt | hge
      · obtain ⟨x1, rfl⟩ := a2 hlt
        obtain ⟨y1, rfl⟩ := b2 hlt
        obtain ⟨sn, s1, s2, s3, s4⟩ := h.s
        obtain rfl : sn = n := (nI_eq (by omega) (by omega)).mp (s2.symm.trans hn)
        generalize e : u2 (u2 (u2 (u2 (u2 (u2 (u2 I 77 sn i) 78 sn x) 76 2 (nI (sn + 1))) 90 0 0) 101 sn i) 102 sn x) 90 21 (nI (sn + 1)) = K
        have g : ∀ y, y ≠ 76 → y ≠ 77 → y ≠ 78 → y ≠ 90 → y ≠ 101 → y ≠ 102 → K y = I y := fun y z1 z2 z3 z4 z5 z6 => by rw [← e, u2_n z4, u2_n z6, u2_n z5, u2_n z4, u2_n z1, u2_n z3, u2_n z2]
        have g9 : ∀ j, j ≠ 0 → j ≠ 21 → K 90 j = I 90 j := fun j j1 j2 => by rw [← e, u2_sn j2, u2_n (by decide), u2_n (by decide), u2_sn j1, u2_n (by decide), u2_n (by decide), u2_n (by decide)]
        have G : ∀ y, (y < 76 ∨ y = 91 ∨ y = 92 ∨ y = 96 ∨ (98 ≤ y ∧ y ≤ 100)) → K y = I y := fun y hy => g y (by omega) (by omega) (by omega) (by omega) (by omega) (by omega)
        have f : Fr I K := ⟨G 92 (by omega), g9 4 (by decide) (by decide), g9 5 (by decide) (by decide)⟩
        refine ⟨by rw [x1, y1], Inv.of (h.t.eq (G 2 (by omega)) (G 3 (by omega)) (G 91 (by omega)) (g9 2 (by decide) (by decide))) ?_ (h.p.eq h.r.1 f (fun a ha => G a (by omega)) (G 98 (by omega)) (g9 18 (by decide) (by decide))) h.r (h.k.eq f (fun a _ _ => G a (by omega)) (G 99 (by omega)) (G 100 (by omega))) ⟨sn + 1, by omega, ?_, ?_, fun q hq => ?_⟩ h.j⟩
        · rw [G 96 (by omega)]
          exact h.n.eq (fun a _ _ => G a (by omega)) f.1 f.2.1 f.2.2
        · rw [← e]; simp [u2_g]
        · rw [← e]; simp [u2_g]
        · obtain ⟨j, hj, ej⟩ := hk
          rcases Nat.lt_or_ge q sn with z | z
          · have z2 : ¬ q = sn := by omega
            have := s4 q z
            rw [← e]
            simp [u2_g, z2]
            exact this
          · obtain rfl : q = sn := by omega
            rw [← e]
            simp [u2_g]
            exact ⟨j, by omega, ej⟩
      · obtain ⟨x1, rfl⟩ := a1 (by omega)
        obtain ⟨y1, y2⟩ := b1 (by omega)
        exact ⟨by rw [x1, y1], h.m y2⟩
    · obtain ⟨x1, rfl⟩ := (a.2 hk).1 hx
      obtain ⟨y1, y2⟩ := (b.2 hk).1 hx
      exact ⟨by rw [x1, y1], h.m y2⟩
  · obtain ⟨x1, rfl⟩ := a.1 hk
    obtain ⟨y1, y2⟩ := b.1 hk
    exact ⟨by rw [x1, y1], h.m y2⟩
