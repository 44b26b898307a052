/-- the class's line at the cell A beside a row of the model -/
def LnR (I : IT) (A : Nat) (row : Nat → Int32) : Prop := ∃ c, c ≤ 5 ∧ I A 0 = nI c ∧ row 0 = nI c ∧ I A 1 = row 1 ∧ I A 2 = row 2 ∧ I A 3 = I 90 4 ∧ I A 4 = I 90 5 ∧ (∀ k, k < c → I (A + 1) k = row (3 + k) ∧ I (A + 2) k = row (8 + k) ∧ I (A + 3) k = I 92 k) ∧ sm (row 1) 2 ∧ sm (row 2) 2 ∧ ∀ k, k < c → sm (row (8 + k)) 2 ∧ (1 ≤ (row (3 + k)).toInt ∧ (row (3 + k)).toInt ≤ 30) ∧ (0 ≤ (I 92 k).toInt ∧ (I 92 k).toInt ≤ 9)
/-- class and model stand at the same flight -/
def Inv (I : IT) (J : JT) (P : PT) : Prop :=
  (∃ n, n ≤ 32 ∧ I 2 1 = nI n ∧ I 90 2 = nI n ∧ (∀ j, j < n → I 3 j = I 91 j) ∧ Byt (I 91) n) ∧
  LnR I 4 (I 96) ∧
  (∃ m, m ≤ 14 ∧ I 8 1 = nI m ∧ I 90 18 = nI m ∧ ∀ j, j < m → LnR I (P 9 j) (fun i => I 98 (13 * j + i))) ∧
  (RowsOk P ∧ ∀ s, s < 2 → P 66 s = 67 + 4 * s) ∧
  (∀ s, s < 2 → I 75 s = I 100 s ∧ (¬ I 100 s = 0 → LnR I (67 + 4 * s) (fun i => I 99 (13 * s + i)))) ∧
  (∃ sn, sn ≤ 6 ∧ I 76 2 = nI sn ∧ I 90 21 = nI sn ∧ ∀ r, r < sn → I 77 r = I 101 r ∧ I 78 r = I 102 r ∧ ∃ q, q < 5 ∧ I 101 r = nI q) ∧
  J 1 = J 90
theorem LnR.eq {I I' : IT} {A : Nat} {row : Nat → Int32} (h : LnR I A row) (hA : ∀ a, A ≤ a → a ≤ A + 3 → I' a = I a) (h92 : I' 92 = I 92) (h4 : I' 90 4 = I 90 4) (h5 : I' 90 5 = I 90 5) : LnR I' A row := by
  obtain ⟨c, h1, h2, h3, h6, h7, h8, h9, h10, h11⟩ := h
  refine ⟨c, h1, ?_, h3, ?_, ?_, ?_, ?_, ?_, ?_⟩
  · rw [hA A (by omega) (by omega)]; exact h2
  · rw [hA A (by omega) (by omega)]; exact h6
  · rw [hA A (by omega) (by omega)]; exact h7
  · rw [hA A (by omega) (by omega), h4]; exact h8
  · rw [hA A (by omega) (by omega), h5]; exact h9
  · rw [hA (A + 1) (by omega) (by omega), hA (A + 2) (by omega) (by omega), hA (A + 3) (by omega) (by omega), h92]; exact h10
  · rw [h92]; exact h11
theorem Inv.eq {I I' : IT} {J : JT} {P : PT} (h : Inv I J P) (hC : ∀ a, a < 79 → I' a = I a) (hM : ∀ a, (a = 91 ∨ a = 92 ∨ a = 96 ∨ (98 ≤ a ∧ a ≤ 102)) → I' a = I a) (h90 : ∀ j, (j = 2 ∨ j = 4 ∨ j = 5 ∨ j = 18 ∨ j = 21) → I' 90 j = I 90 j) : Inv I' J P := by
  obtain ⟨⟨n, a1, a2, a3, a4, a5⟩, b, ⟨m, c1, c2, c3, c4⟩, d, e, ⟨sn, f1, f2, f3, f4⟩, g⟩ := h
  have e92 := hM 92 (by omega)
  have e4 := h90 4 (by omega)
  have e5 := h90 5 (by omega)
  refine ⟨⟨n, a1, ?_, ?_, ?_, ?_⟩, ?_, ⟨m, c1, ?_, ?_, fun j hj => ?_⟩, d, fun s hs => ?_, ⟨sn, f1, ?_, ?_, ?_⟩, g⟩
  · rw [hC 2 (by omega)]; exact a2
  · rw [h90 2 (by omega)]; exact a3
  · rw [hC 3 (by omega), hM 91 (by omega)]; exact a4
  · rw [hM 91 (by omega)]; exact a5
  · rw [hM 96 (by omega)]; exact b.eq (fun a _ _ => hC a (by omega)) e92 e4 e5
  · rw [hC 8 (by omega)]; exact c2
  · rw [h90 18 (by omega)]; exact c3
  · rw [hM 98 (by omega)]
    have hR := (d.1.ln (j := j) (by omega)).2
    exact (c4 j hj).eq (fun a _ _ => hC a (by omega)) e92 e4 e5
  · rw [hC 75 (by omega), hM 100 (by omega), hM 99 (by omega)]
    exact ⟨(e s hs).1, fun z => ((e s hs).2 z).eq (fun a _ _ => hC a (by omega)) e92 e4 e5⟩
  · rw [hC 76 (by omega)]; exact f2
  · rw [h90 21 (by omega)]; exact f3
  · rw [hC 77 (by omega), hC 78 (by omega), hM 101 (by omega), hM 102 (by omega)]; exact f4
theorem Inv.c {I I' : IT} {J : JT} {P : PT} (h : Inv I J P) (s : SameC I I') : Inv I' J P := h.eq (fun a ha => s a (by omega)) (fun a ha => s a (by omega)) (fun j _ => by rw [s 90 (by omega)])
theorem Inv.m {I I' : IT} {J : JT} {P : PT} (h : Inv I J P) (s : SameM I I') : Inv I' J P := h.eq (fun a ha => s.1 a (by omega)) (fun a ha => s.1 a (by omega)) (fun j hj => s.2 j (by omega))
/-- what the walk of a question needs -/
theorem Inv.now {I : IT} {J : JT} {P : PT} (h : Inv I J P) : ∃ c, c ≤ 5 ∧ I 4 0 = nI c ∧ I 96 0 = nI c ∧ LEq (lnD I 4) (mdD I 96 92) c ∧ LR (mdD I 96 92) c := by
  obtain ⟨-, ⟨c, h1, h2, h3, h6, h7, h8, h9, h10, h11, h12, h13⟩, -⟩ := h
  exact ⟨c, h1, h2, h3, ⟨h10, h6, h7, h8, h9⟩, h11, h12, h13⟩
