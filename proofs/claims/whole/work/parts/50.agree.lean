theorem LEq.sy {D E : LD} {c : Nat} (h : LEq D E c) : LEq E D c := ⟨fun k hk => ⟨(h.1 k hk).1.symm, (h.1 k hk).2.1.symm, (h.1 k hk).2.2.symm⟩, h.2.1.symm, h.2.2.1.symm, h.2.2.2.1.symm, h.2.2.2.2.symm⟩
theorem LEq.su {D E : LD} {c : Nat} (h : LEq D E c) : sumI (dY D) c = sumI (dY E) c := sumI_ext c (fun k hk => (h.1 k hk).1)
theorem LEq.bs {D E : LD} {c : Nat} (h : LEq D E c) : bsum D c = bsum E c := sumI_ext c (fun k hk => by rw [(h.1 k hk).2.1])
theorem LEq.ff {D E : LD} {c : Nat} (h : LEq D E c) : fF D c = fF E c := (h.fl c (Nat.le_refl c)).2.2.2
theorem RAbout.tr {D E : LD} {c n sn tl : Nat} {w r : Int32} (h : LEq D E c) (a : RAbout D c n sn tl w r) : RAbout E c n sn tl w r := by
  unfold RAbout at *
  rw [h.2.1, h.2.2.1, h.2.2.2.1, h.2.2.2.2, h.su, h.ff] at a
  exact a
theorem ag_about {D E : LD} {c n sn tl : Nat} {w r r' : Int32} (h : LEq D E c) (a : RAbout D c n sn tl w r) (b : RAbout E c n sn tl w r') : r = r' := by
  obtain ⟨a0, a1, a2, a3, a4, a5, a6, a7, a8, a9, a10⟩ := a.tr h
  obtain ⟨b0, b1, b2, b3, b4, b5, b6, b7, b8, b9, b10⟩ := b
  rcases pk_ix w (n := 10) (by decide) with hw | hw | ⟨j, hj, e⟩
  · rw [a0 (Or.inl hw), b0 (Or.inl hw)]
  · rw [a0 (Or.inr hw), b0 (Or.inr hw)]
  · rcases (show j = 0 ∨ j = 1 ∨ j = 2 ∨ j = 3 ∨ j = 4 ∨ j = 5 ∨ j = 6 ∨ j = 7 ∨ j = 8 ∨ j = 9 by omega) with rfl | rfl | rfl | rfl | rfl | rfl | rfl | rfl | rfl | rfl
    · rw [a1 e, b1 e]
    · rw [a2 e, b2 e]
    · rw [a3 e, b3 e]
    · rw [a4 e, b4 e]
    · rw [a5 e, b5 e]
    · rw [a6 e, b6 e]
    · rw [a7 e, b7 e]
    · rw [a8 e, b8 e]
    · rw [a9 e, b9 e]
    · rw [a10 e, b10 e]
theorem ag_kite {D E : LD} {c : Nat} {i w r r' : Int32} (h : LEq D E c) (a : RKite D c i w r) (b : RKite E c i w r') : r = r' := by
  by_cases hx : ∃ j, j < c ∧ i = nI j
  · obtain ⟨j, hj, ej⟩ := hx
    obtain ⟨a0, a1, a2, a3, a4, a5, a6⟩ := a.2 j hj ej
    obtain ⟨b0, b1, b2, b3, b4, b5, b6⟩ := b.2 j hj ej
    obtain ⟨y, bb, t⟩ := h.1 j hj
    obtain ⟨f1, f2, -, -⟩ := h.fl (j + 1) (by omega)
    rw [y] at a1
    rw [bb] at a2
    rw [t] at a3
    rw [f1] at a4
    rw [f2] at a5
    rw [h.ff] at a6
    rcases pk_ix w (n := 6) (by decide) with hw | hw | ⟨q, hq, e⟩
    · rw [a0 (Or.inl hw), b0 (Or.inl hw)]
    · rw [a0 (Or.inr hw), b0 (Or.inr hw)]
    · rcases (show q = 0 ∨ q = 1 ∨ q = 2 ∨ q = 3 ∨ q = 4 ∨ q = 5 by omega) with rfl | rfl | rfl | rfl | rfl | rfl
      · rw [a1 e, b1 e]
      · rw [a2 e, b2 e]
      · rw [a3 e, b3 e]
      · rw [a4 e, b4 e]
      · rw [a5 e, b5 e]
      · rw [a6 e, b6 e]
  · rw [a.1 hx, b.1 hx]
theorem ag_sees {D E : LD} {c : Nat} {x r r' : Int32} (h : LEq D E c) (a : RSees D c x r) (b : RSees E c x r') : r = r' := by
  by_cases hx : -100 ≤ x ∧ x ≤ 100
  · obtain ⟨a1, a2⟩ := a.2 hx
    obtain ⟨b1, b2⟩ := b.2 hx
    by_cases v : Vd D c x
    · rw [a1 v, b1 ((h.vd x).mp v)]
    · rw [a2 v, b2 (fun z => v ((h.vd x).mpr z))]
  · rw [a.1 hx, b.1 hx]
theorem ag_drops {D E : LD} {c : Nat} {i r r' : Int32} (h : LEq D E c) (a : RDrops D c i r) (b : RDrops E c i r') : r = r' := by
  by_cases hx : ∃ j, j < c ∧ i = nI j
  · obtain ⟨j, hj, ej⟩ := hx
    rw [a.2 j hj ej, b.2 j hj ej]
    exact sumI_ext _ (fun k hk => (h.1 (j + k) (by omega)).1)
  · rw [a.1 hx, b.1 hx]
theorem where_one {F r r' : Int32} : ∀ c, (RWhere F c r → RWhere F c r' → r = r') := fun c a b => by
  by_cases hx : ∃ k, 1 ≤ k ∧ k < c ∧ okC F k ∧ ∀ j, k < j → j < c → ¬ okC F j
  · obtain ⟨k, h1, h2, h3, h4⟩ := hx
    rw [a.1 k h1 h2 h3 h4, b.1 k h1 h2 h3 h4]
  · have hno : ∀ k, 1 ≤ k → k < c → ¬ okC F k := by
      intro k h1 h2 h3
      have key : ∀ n k, k + n = c → 1 ≤ k → k < c → okC F k → False := by
        intro n
        induction n using Nat.strongRecOn with
        | ind n ih =>
          intro k hk h1 h2 h3
          refine hx ⟨k, h1, h2, h3, fun j h4 h5 h6 => ?_⟩
          exact ih (c - j) (by omega) j (by omega) (by omega) h5 h6
      exact key (c - k) k (by omega) h1 h2 h3
    rw [a.2 hno, b.2 hno]
theorem ag_where {D E : LD} {c : Nat} {r r' : Int32} (h : LEq D E c) (a : RWhere (fF D c) c r) (b : RWhere (fF E c) c r') : r = r' := by
  rw [h.ff] at a
  exact where_one c a b
theorem sch_one {cost cost' num : Nat → Int32} {ok ok' : Nat → Prop} : ∀ t, (∀ k, k < t → cost k = cost' k ∧ (ok k ↔ ok' k)) → ∀ a b a' b', Sch cost num ok t a b → Sch cost' num ok' t a' b' → a = a' ∧ b = b'
  | 0, _, a, b, a', b', h, h' => ⟨h.1.trans h'.1.symm, h.2.trans h'.2.symm⟩
  | t + 1, hk, a, b, a', b', ⟨a0, b0, h1, h2, h3⟩, ⟨a0', b0', h1', h2', h3'⟩ => by
    obtain ⟨e1, e2⟩ := sch_one t (fun k hh => hk k (by omega)) a0 b0 a0' b0' h1 h1'
    subst e1
    subst e2
    obtain ⟨c1, c2⟩ := hk t (by omega)
    rw [← c1, ← c2] at h2' h3'
    by_cases z : (a0 = -9 ∨ cost t < a0) ∧ ok t
    · rw [(h2 z).1, (h2 z).2, (h2' z).1, (h2' z).2]; exact ⟨rfl, rfl⟩
    · rw [(h3 z).1, (h3 z).2, (h3' z).1, (h3' z).2]; exact ⟨rfl, rfl⟩
theorem seek_one {cost cost' num : Nat → Int32} {ok ok' : Nat → Prop} {N : Nat} {x w r r' : Int32} (hk : ∀ k, k < N → cost k = cost' k ∧ (ok k ↔ ok' k)) (a : RSeek cost num ok N x w r) (b : RSeek cost' num ok' N x w r') : r = r' := by
  by_cases hx : (-100 ≤ x ∧ x ≤ 100) ∧ (w = 0 ∨ w = 1)
  · obtain ⟨p, q, h1, h2, h3⟩ := a.2 hx
    obtain ⟨p', q', g1, g2, g3⟩ := b.2 hx
    obtain ⟨rfl, rfl⟩ := sch_one N hk p q p' q' h1 g1
    by_cases z : w = 0
    · rw [h2 z, g2 z]
    · rw [h3 z, g3 z]
  · rw [a.1 hx, b.1 hx]
theorem LEq.wy {D E : LD} {c : Nat} (h : LEq D E c) (f : Nat → Nat) : LEq (wyD D f) (wyD E f) c := ⟨fun k hk => ⟨by show dY D k + _ = dY E k + _; rw [(h.1 k hk).1], (h.1 k hk).2.1, (h.1 k hk).2.2⟩, h.2⟩
theorem LEq.wb {D E : LD} {c : Nat} (h : LEq D E c) (f : Nat → Nat) : LEq (wbD D f) (wbD E f) c := ⟨fun k hk => ⟨(h.1 k hk).1, rfl, (h.1 k hk).2.2⟩, h.2⟩
theorem ag_cheapest {D E : LD} {c : Nat} {x w r r' : Int32} (h : LEq D E c) (a : RSeek (costY c) (numW 4 c) (okY D c x) (4 ^ c) x w r) (b : RSeek (costY c) (numW 4 c) (okY E c x) (4 ^ c) x w r') : r = r' := by
  refine seek_one (fun t _ => ⟨rfl, ?_⟩) a b
  unfold okY
  rw [(h.wy (dig 4 c t)).vd x]
  constructor
  · exact fun z => ⟨fun k hk => by rw [← (h.1 k hk).1]; exact z.1 k hk, z.2⟩
  · exact fun z => ⟨fun k hk => by rw [(h.1 k hk).1]; exact z.1 k hk, z.2⟩
theorem chI_exb {b b' f : Nat → Int32} : ∀ n, (∀ k, k < n → b k = b' k) → chI b f n = chI b' f n
  | 0, _ => rfl
  | n + 1, h => by simp only [chI]; rw [chI_exb n (fun k hk => h k (by omega)), h n (by omega)]
theorem ag_fewest {D E : LD} {c : Nat} {x w r r' : Int32} (h : LEq D E c) (a : RSeek (costB D c) (numW 5 c) (okB D c x) (5 ^ c) x w r) (b : RSeek (costB E c) (numW 5 c) (okB E c x) (5 ^ c) x w r') : r = r' := by
  refine seek_one (fun t _ => ⟨chI_exb c (fun k hk => (h.1 k hk).2.1), ?_⟩) a b
  unfold okB
  exact (h.wb (dig 5 c t)).vd x
