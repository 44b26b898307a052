theorem pk_ext {m : Nat} {f g : Nat → Int32} : ∀ c, (∀ k, k < c → f k = g k) → pkI m f c = pkI m g c
  | 0, _ => rfl
  | c + 1, h => by
    have ih := pk_ext (m := m) c (fun k hk => h k (by omega))
    simp only [pkI]
    rw [ih, h c (by omega)]
theorem LEq.pk {D E : LD} {c : Nat} (h : LEq D E c) (m : Nat) : LEq (dpk D c m) (dpk E c m) (sel m c) := by
  refine ⟨fun k _ => ?_, h.2⟩
  show pkI m (dY D) c k = pkI m (dY E) c k ∧ pkI m (dB D) c k = pkI m (dB E) c k ∧ pkI m (dT D) c k = pkI m (dT E) c k
  rw [pk_ext c (fun k hk => (h.1 k hk).1), pk_ext c (fun k hk => (h.1 k hk).2.1), pk_ext c (fun k hk => (h.1 k hk).2.2)]
  exact ⟨rfl, rfl, rfl⟩
theorem LEq.vo {D E : LD} {c : Nat} (h : LEq D E c) (m : Nat) : voI D c m = voI E c m := by
  unfold voI
  obtain ⟨e1, e2, -, e4⟩ := (h.pk m).fl (sel m c) (Nat.le_refl _)
  rw [e1, e2, e4]
theorem LEq.sh {D E : LD} {c j : Nat} (h : LEq D E c) : ∀ m, shS D c j m = shS E c j m
  | 0 => rfl
  | m + 1 => by
    simp only [shS]
    rw [LEq.sh h m, h.vo, h.vo]
theorem ag_share {D E : LD} {c : Nat} {i u r r' : Int32} (h : LEq D E c) (hab : ∀ j, j < c → ∃ a, a < 2 ^ 31 ∧ absI (shS D c j (2 ^ c)) = nI a) (a : RShare D c i u r) (b : RShare E c i u r') : r = r' := by
  by_cases hx : ∃ j, j < c ∧ i = nI j
  · obtain ⟨j, hj, ej⟩ := hx
    obtain ⟨s, hs, es⟩ := hab j hj
    obtain ⟨a1, a2⟩ := a.2 j hj ej s hs es
    obtain ⟨b1, b2⟩ := b.2 j hj ej s hs (by rw [← h.sh]; exact es)
    rw [← h.sh] at b1
    by_cases z : u = 0
    · rw [a2 z, b2 z]
    · rw [a1 z, b1 z]
  · rw [a.1 hx, b.1 hx]
theorem ag_word {W0 W1 : Nat → Nat → Int32} {n w r r' : Int32} (h : ∀ N W, IsW n w N W → W0 N W = W1 N W) (a : RArr W0 n w r) (b : RArr W1 n w r') : r = r' := by
  by_cases hx : ∃ N W, IsW n w N W
  · obtain ⟨N, W, hW⟩ := hx
    rw [a.1 N W hW, b.1 N W hW, h N W hW]
  · have hn : ∀ N W, ¬ IsW n w N W := fun N W z => hx ⟨N, W, z⟩
    rw [a.2 hn, b.2 hn]
theorem ag_arrives {D E : LD} {c : Nat} {n w r r' : Int32} (h : LEq D E c) (a : RArr (fun N W => shA W (bsum D c) N) n w r) (b : RArr (fun N W => shA W (bsum E c) N) n w r') : r = r' := ag_word (fun N W _ => by rw [h.bs]) a b
theorem ag_sent {D E : LD} {c : Nat} {n w r r' : Int32} (h : LEq D E c) (a : RArr (fun N W => shA W (-bsum D c) N) n w r) (b : RArr (fun N W => shA W (-bsum E c) N) n w r') : r = r' := ag_word (fun N W _ => by rw [h.bs]) a b
theorem ag_taken {c : Nat} {n w v r r' : Int32} (a : RTaken c n w v r) (b : RTaken c n w v r') : r = r' := by
  by_cases hx : ∃ N W V, IsW n w N W ∧ IsW n v N V
  · obtain ⟨N, W, V, hW, hV⟩ := hx
    obtain ⟨a1, a2⟩ := a.2 N W V hW hV
    obtain ⟨b1, b2⟩ := b.2 N W V hW hV
    by_cases z : c = 0
    · by_cases e : W = V
      · rw [(a1 z).1 e, (b1 z).1 e]
      · rw [(a1 z).2 e, (b1 z).2 e]
    · by_cases e : Meet W V N
      · rw [(a2 z).1 e, (b2 z).1 e]
      · rw [(a2 z).2 e, (b2 z).2 e]
  · rw [a.1 hx, b.1 hx]
theorem LEq.wd {D E : LD} {c : Nat} (h : LEq D E c) (a b : Int32) : LEq (wD D a b) (wD E a b) c := ⟨h.1, rfl, rfl, h.2.2.2⟩
theorem LEq.gd {D E : LD} {c : Nat} (h : LEq D E c) (a b : Int32) : LEq (gD D a b) (gD E a b) c := ⟨h.1, by show dLo D + a = dLo E + a; rw [h.2.1], by show dHi D + b = dHi E + b; rw [h.2.2.1], h.2.2.2⟩
theorem LEq.cal {D E : LD} {c : Nat} (h : LEq D E c) (a b : Int32) : calI D c a b = calI E c a b := by
  unfold calI
  rw [(h.gd a b).ff]
theorem LEq.gu {D E : LD} {c : Nat} (h : LEq D E c) (x y : Int32) : guS D c x y = guS E c x y := by
  unfold guS
  rw [h.cal, h.cal, h.cal, h.cal]
theorem ag_gusts {D E : LD} {c : Nat} {x y u r r' : Int32} (h : LEq D E c) (a : RGusts D c x y u r) (b : RGusts E c x y u r') : r = r' := by
  by_cases hx : (0 ≤ x ∧ x ≤ 10) ∧ (0 ≤ y ∧ y ≤ 10)
  · obtain ⟨s, hs, es⟩ := gu_ab (D := D) (c := c) hx.1 hx.2
    obtain ⟨a1, a2⟩ := a.2 hx s hs es
    obtain ⟨b1, b2⟩ := b.2 hx s hs (by rw [← h.gu]; exact es)
    rw [← h.gu] at b1
    by_cases z : u = 0
    · rw [a2 z, b2 z]
    · rw [a1 z, b1 z]
  · rw [a.1 hx, b.1 hx]
theorem LEq.af {D E : LD} {c : Nat} (h : LEq D E c) (s : Int64) : ∀ t, aftS D c s t = aftS E c s t
  | 0 => rfl
  | t + 1 => by
    have e : fF (adD D (sdI s (t + 1))) c = fF (adD E (sdI s (t + 1))) c := (h.wd _ _).ff
    simp only [aftS]
    rw [LEq.af h s t, e]
theorem ag_afternoons {D E : LD} {c : Nat} {J J1 J2 J1' J2' : JT} {a1 a2 : Nat} {m r r' : Int32} (h : LEq D E c) (hJ : J a1 = J a2) (a : RAft D c J J1 a1 m r) (b : RAft E c J J2 a2 m r') : r = r' ∧ ((J1 = J ∧ J2 = J) ∨ ∃ v, J1 = uJ J a1 v ∧ J2 = uJ J a2 v) := by
  by_cases hx : 1 ≤ m ∧ m ≤ 30
  · obtain ⟨N, hN, eN⟩ := nI_of2 (M := 30) (n := 30) (x := m) (by decide) (fun z => absurd (Int32.lt_of_lt_of_le z (show (0 : Int32) ≤ 1 by decide)) (Int32.not_lt.mpr hx.1)) hx.2
    have hN1 : 1 ≤ N := Nat.pos_of_ne_zero (fun z => absurd hx.1 (by rw [eN, z]; decide))
    obtain ⟨x1, x2⟩ := a.2 N hN1 hN eN
    obtain ⟨y1, y2⟩ := b.2 N hN1 hN eN
    rw [← hJ] at y1 y2
    exact ⟨by rw [x1, y1, h.af], Or.inr ⟨_, x2, y2⟩⟩
  · obtain ⟨x1, x2⟩ := a.1 hx
    obtain ⟨y1, y2⟩ := b.1 hx
    exact ⟨by rw [x1, y1], Or.inl ⟨x2, y2⟩⟩
