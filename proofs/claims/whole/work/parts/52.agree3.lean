theorem wn_one {ok ok' : Nat → Prop} : ∀ t, (∀ k, k < t → (ok k ↔ ok' k)) → ∀ n f l n' f' l', Wn ok t n f l → Wn ok' t n' f' l' → n = n' ∧ f = f' ∧ l = l'
  | 0, _, n, f, l, n', f', l', h, h' => ⟨h.1.trans h'.1.symm, h.2.1.trans h'.2.1.symm, h.2.2.trans h'.2.2.symm⟩
  | t + 1, hk, n, f, l, n', f', l', ⟨n0, f0, l0, h1, h2, h3⟩, ⟨n0', f0', l0', g1, g2, g3⟩ => by
    obtain ⟨e1, e2, e3⟩ := wn_one t (fun k hh => hk k (by omega)) n0 f0 l0 n0' f0' l0' h1 g1
    subst e1
    subst e2
    subst e3
    have hi := hk t (by omega)
    by_cases z : ok t
    · obtain ⟨a1, a2, a3⟩ := h2 z
      obtain ⟨b1, b2, b3⟩ := g2 (hi.mp z)
      exact ⟨a1.trans b1.symm, a2.trans b2.symm, a3.trans b3.symm⟩
    · obtain ⟨a1, a2, a3⟩ := h3 z
      obtain ⟨b1, b2, b3⟩ := g3 (fun w => z (hi.mpr w))
      exact ⟨a1.trans b1.symm, a2.trans b2.symm, a3.trans b3.symm⟩
theorem tl_one {ok ok' : Nat → Prop} : ∀ t, (∀ k, k < t → (ok k ↔ ok' k)) → ∀ n f n' f', Tl ok t n f → Tl ok' t n' f' → n = n' ∧ f = f'
  | 0, _, n, f, n', f', h, h' => ⟨h.1.trans h'.1.symm, h.2.trans h'.2.symm⟩
  | t + 1, hk, n, f, n', f', ⟨n0, f0, h1, h2, h3⟩, ⟨n0', f0', g1, g2, g3⟩ => by
    obtain ⟨e1, e2⟩ := tl_one t (fun k hh => hk k (by omega)) n0 f0 n0' f0' h1 g1
    subst e1
    subst e2
    have hi := hk t (by omega)
    by_cases z : ok t
    · obtain ⟨a1, a2⟩ := h2 z
      obtain ⟨b1, b2⟩ := g2 (hi.mp z)
      exact ⟨a1.trans b1.symm, a2.trans b2.symm⟩
    · obtain ⟨a1, a2⟩ := h3 z
      obtain ⟨b1, b2⟩ := g3 (fun w => z (hi.mpr w))
      exact ⟨a1.trans b1.symm, a2.trans b2.symm⟩
theorem okW_iff {D E : LD} {c sn t : Nat} {kp : Nat → Nat} {pl pl' : Nat → Int32} (h : LEq D E c) (hp : ∀ r, r < sn → pl r = pl' r) : okW D kp pl c sn t ↔ okW E kp pl' c sn t := by
  unfold okW
  have e : ∀ r, kp r < c → fP (wD D (lw (t / 5)) (lw (t % 5))) (kp r + 1) = fP (wD E (lw (t / 5)) (lw (t % 5))) (kp r + 1) := fun r hr => ((h.wd _ _).fl (kp r + 1) (by omega)).2.1
  constructor
  · intro z r hr hrc
    rw [← e r hrc, z r hr hrc, hp r hr]
  · intro z r hr hrc
    rw [e r hrc, z r hr hrc, hp r hr]
theorem ag_winds {D E : LD} {c sn : Nat} {kp : Nat → Nat} {pl pl' : Nat → Int32} {w r r' : Int32} (h : LEq D E c) (hp : ∀ r, r < sn → pl r = pl' r) (a : RWinds (okW D kp pl c sn) w r) (b : RWinds (okW E kp pl' c sn) w r') : r = r' := by
  by_cases hx : w = nI 0 ∨ w = nI 1 ∨ w = nI 2
  · obtain ⟨n, f, l, h1, h2, h3, h4⟩ := a.2 hx
    obtain ⟨n', f', l', g1, g2, g3, g4⟩ := b.2 hx
    obtain ⟨rfl, rfl, rfl⟩ := wn_one 25 (fun k _ => okW_iff h hp) n f l n' f' l' h1 g1
    rcases hx with e | e | e
    · rw [h2 e, g2 e]
    · rw [h3 e, g3 e]
    · by_cases z : bcE l = 1
      · rw [(h4 e).1 z, (g4 e).1 z]
      · rw [(h4 e).2 z, (g4 e).2 z]
  · rw [a.1 hx, b.1 hx]
theorem LEq.b0 {D E : LD} {c : Nat} (h : LEq D E c) (i j : Nat) (a b : Int32) : LEq (B0 D i j a b) (B0 E i j a b) c := by
  refine ⟨fun k hk => ⟨(h.1 k hk).1, ?_, (h.1 k hk).2.2⟩, h.2⟩
  show upd (upd (dB D) i a) j b k = upd (upd (dB E) i a) j b k
  unfold upd
  split
  · rfl
  · split
    · rfl
    · exact (h.1 k hk).2.1
theorem okRs_iff {D E : LD} {c i j t : Nat} {p q : Int32} (h : LEq D E c) (hi : i < c) (hj : j < c) (hij : i ≠ j) : okRs D i j p q t ↔ okRs E i j p q t := by
  have hb : t % 5 < 5 := Nat.mod_lt _ (by decide)
  have ht : t = 5 * (t / 5) + t % 5 := by omega
  rw [ht, nn_ok hij hb, nn_ok hij hb]
  have e : ∀ (a b : Int32) (k : Nat) (x : Int32), k < c → dsI (B0 D i j a b) k x = dsI (B0 E i j a b) k x := fun a b k x hk => by
    unfold dsI
    rw [((h.b0 i j a b).fl (k + 1) (by omega)).2.1]
  unfold NN
  constructor
  · intro z k hk
    have := z k hk
    rw [e _ _ i p hi, e _ _ i p hi, e _ _ j q hj, e _ _ j q hj] at this
    exact this
  · intro z k hk
    rw [e _ _ i p hi, e _ _ i p hi, e _ _ j q hj, e _ _ j q hj]
    exact z k hk
theorem ag_rests {D E : LD} {c : Nat} {k o p q w r r' : Int32} (h : LEq D E c) (a : RRests D c k o p q w r) (b : RRests E c k o p q w r') : r = r' := by
  by_cases hx : (∃ i, i < c ∧ k = nI i) ∧ ∃ j, j < c ∧ o = nI j
  · obtain ⟨⟨i, hi, ei⟩, j, hj, ej⟩ := hx
    obtain ⟨a1, a2⟩ := a.2 i j hi hj ei ej
    obtain ⟨b1, b2⟩ := b.2 i j hi hj ei ej
    by_cases hy : i = j ∨ ¬ (-20 ≤ p ∧ p ≤ 20) ∨ ¬ (-20 ≤ q ∧ q ≤ 20) ∨ ¬ (w = 0 ∨ w = 1)
    · rw [a1 hy, b1 hy]
    · obtain ⟨n, f, h1, h2, h3⟩ := a2 hy
      obtain ⟨n', f', g1, g2, g3⟩ := b2 hy
      obtain ⟨rfl, rfl⟩ := tl_one 25 (fun t _ => okRs_iff h hi hj (fun z => hy (Or.inl z))) n f n' f' h1 g1
      by_cases z : w = 0
      · rw [h2 z, g2 z]
      · rw [h3 z, g3 z]
  · rw [a.1 hx, b.1 hx]
