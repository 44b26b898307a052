theorem inv_write {I I1 I2 : IT} {J : JT} {P : PT} {n : Nat} {v r r' : Int32} (h : Inv I J P) (hn : I 2 1 = nI n) (hn2 : n ≤ 32) (a : RWrite I I1 n v r) (b : RWriteM I1 I2 n v r') : r = r' ∧ Inv I2 J P := by
  have e0 : (0 : Int32).toInt = 0 := by decide
  have e255 : (255 : Int32).toInt = 255 := by decide
  by_cases hv : 0 ≤ v ∧ v ≤ 255
  · have hv' : ¬ (v < 0 ∨ 255 < v) := fun z => z.elim (fun w => absurd w (Int32.not_lt.mpr hv.1)) (fun w => absurd w (Int32.not_lt.mpr hv.2))
    obtain ⟨a1, a2⟩ := a.2 hv'
    obtain ⟨b1, b2⟩ := b.2 hv
    rcases Nat.lt_or_ge n 32 with hlt | hge
    · obtain ⟨x1, x2, x3, x4, x5⟩ := a2 hlt
      obtain ⟨y1, I3, y2, rfl⟩ := b2 hlt
      obtain ⟨m, t1, t2, t3, t4, t5⟩ := h.t
      obtain rfl : m = n := (nI_eq (by omega) (by omega)).mp (t2.symm.trans hn)
      have g : ∀ x, ((x ≤ 92 ∧ x ≠ 90) ∨ x = 96 ∨ (98 ≤ x ∧ x ≤ 102)) → x ≠ 2 → x ≠ 3 → x ≠ 91 → u2 (u2 I3 91 m v) 90 2 (nI (m + 1)) x = I x := fun x hx z2 z3 z91 => by rw [u2_n (by omega), u2_n z91, y2.1 x hx, x2 x z2 z3]
      have g9 : ∀ j, (j = 4 ∨ j = 5 ∨ j = 18 ∨ j = 21) → u2 (u2 I3 91 m v) 90 2 (nI (m + 1)) 90 j = I 90 j := fun j hj => by rw [u2_sn (by omega), u2_n (by decide), y2.2 j (by omega), x2 90 (by decide) (by decide)]
      have f : Fr I (u2 (u2 I3 91 m v) 90 2 (nI (m + 1))) := ⟨g 92 (by omega) (by decide) (by decide) (by decide), g9 4 (by omega), g9 5 (by omega)⟩
      have hB : 0 ≤ v.toInt ∧ v.toInt ≤ 255 := by
        have z1 := hv.1
        have z2 := hv.2
        rw [Int32.le_iff_toInt_le] at z1 z2
        omega
      have e91 : I3 91 = I 91 := by rw [y2.1 91 (by omega), x2 91 (by decide) (by decide)]
      have e2 : I3 2 = I1 2 := y2.1 2 (by omega)
      have e3 : I3 3 = I1 3 := y2.1 3 (by omega)
      refine ⟨by rw [x1, y1], Inv.of ⟨m + 1, by omega, ?_, ?_, fun j hj => ?_, fun j hj => ?_⟩ ?_ (h.p.eq h.r.1 f (fun a ha => g a (by omega) (by omega) (by omega) (by omega)) (g 98 (by omega) (by decide) (by decide) (by decide)) (g9 18 (by omega))) h.r (h.k.eq f (fun a _ _ => g a (by omega) (by omega) (by omega) (by omega)) (g 99 (by omega) (by decide) (by decide) (by decide)) (g 100 (by omega) (by decide) (by decide) (by decide))) (h.s.eq (fun a _ _ => g a (by omega) (by omega) (by omega) (by omega)) (g 101 (by omega) (by decide) (by decide) (by decide)) (g 102 (by omega) (by decide) (by decide) (by decide)) (g9 21 (by omega))) h.j⟩
      · rw [u2_n (by decide), u2_n (by decide), e2]; exact x3
      · rw [u2_ss]
      · rw [u2_n (show 3 ≠ 90 by decide), u2_n (show 3 ≠ 91 by decide), u2_n (show 91 ≠ 90 by decide), e3]
        rcases Nat.lt_or_ge j m with z | z
        · rw [u2_sn (by omega), x5 j (by omega), e91]; exact t4 j z
        · obtain rfl : j = m := by omega
          rw [u2_ss]; exact x4
      · rw [u2_n (show 91 ≠ 90 by decide)]
        rcases Nat.lt_or_ge j m with z | z
        · rw [u2_sn (by omega), e91]; exact t5 j z
        · obtain rfl : j = m := by omega
          rw [u2_ss]; exact hB
      · rw [g 96 (by omega) (by decide) (by decide) (by decide)]
        exact h.n.eq (fun a _ _ => g a (by omega) (by omega) (by omega) (by omega)) f.1 f.2.1 f.2.2
    · obtain ⟨x1, rfl⟩ := a1 (by omega)
      obtain ⟨y1, y2⟩ := b1 (by omega)
      exact ⟨by rw [x1, y1], h.m y2⟩
  · have hv' : v < 0 ∨ 255 < v := by
      by_cases z : v < 0
      · exact Or.inl z
      · exact Or.inr (Int32.not_le.mp (fun w => hv ⟨Int32.not_lt.mp z, w⟩))
    obtain ⟨x1, rfl⟩ := a.1 hv'
    obtain ⟨y1, y2⟩ := b.1 hv
    exact ⟨by rw [x1, y1], h.m y2⟩
