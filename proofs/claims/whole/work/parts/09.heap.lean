def shl : List (Nat × Nat) := [(9, 0), (0, 8), (0, 6), (1, 32), (0, 2), (1, 5), (1, 5), (1, 5), (0, 3), (3, 14), (0, 2), (1, 5), (1, 5), (1, 5), (0, 2), (1, 5), (1, 5), (1, 5), (0, 2), (1, 5), (1, 5), (1, 5), (0, 2), (1, 5), (1, 5), (1, 5), (0, 2), (1, 5), (1, 5), (1, 5), (0, 2), (1, 5), (1, 5), (1, 5), (0, 2), (1, 5), (1, 5), (1, 5), (0, 2), (1, 5), (1, 5), (1, 5), (0, 2), (1, 5), (1, 5), (1, 5), (0, 2), (1, 5), (1, 5), (1, 5), (0, 2), (1, 5), (1, 5), (1, 5), (0, 2), (1, 5), (1, 5), (1, 5), (0, 2), (1, 5), (1, 5), (1, 5), (0, 2), (1, 5), (1, 5), (1, 5), (3, 2), (0, 2), (1, 5), (1, 5), (1, 5), (0, 2), (1, 5), (1, 5), (1, 5), (2, 2), (0, 4), (1, 6), (1, 6), (0, 2), (1, 5), (1, 5), (1, 5), (0, 1), (1, 5), (1, 5), (0, 7), (1, 5), (0, 0), (0, 5), (0, 9), (1, 32), (1, 5), (1, 5), (1, 5), (1, 5), (1, 13), (1, 13), (1, 182), (1, 26), (2, 2), (1, 6), (1, 6), (1, 5), (1, 5), (1, 5), (1, 5), (1, 32)]
/-- the shape of a cell: an object of a class, a row of ints, of booleans, of lines -/
def shp (a : Nat) : Nat × Nat := shl.getD a (9, 0)
/-- the kinds of a class's fields: int, long, reference -/
def fk (c : Nat) : List Nat := match c with
  | 0 => [0, 0]
  | 1 => [2, 2, 0, 0]
  | 2 => [0, 0, 0, 0, 0, 2, 2, 2]
  | 3 => [2, 0]
  | 4 => [2, 2, 0]
  | 5 => [0, 0]
  | 6 => [2, 0]
  | 7 => [2, 0, 0]
  | 8 => [2, 2, 2, 2, 2, 2, 1, 2, 2, 2, 2, 2]
  | _ => [0, 2, 0, 0, 0, 0, 2, 0, 0, 0, 0, 0, 2, 2, 2, 2, 2, 2, 0, 2, 2, 0, 2, 2, 1, 2, 2, 2, 2, 0, 0, 0, 0, 0, 0, 0, 0, 2]
def rfl_ : List (List Nat) := [[], [2, 4, 8, 66, 75, 76, 0, 79, 83, 86, 88, 89], [3], [], [0, 0, 0, 0, 0, 5, 6, 7], [], [], [], [9], [], [0, 0, 0, 0, 0, 11, 12, 13], [], [], [], [0, 0, 0, 0, 0, 15, 16, 17], [], [], [], [0, 0, 0, 0, 0, 19, 20, 21], [], [], [], [0, 0, 0, 0, 0, 23, 24, 25], [], [], [], [0, 0, 0, 0, 0, 27, 28, 29], [], [], [], [0, 0, 0, 0, 0, 31, 32, 33], [], [], [], [0, 0, 0, 0, 0, 35, 36, 37], [], [], [], [0, 0, 0, 0, 0, 39, 40, 41], [], [], [], [0, 0, 0, 0, 0, 43, 44, 45], [], [], [], [0, 0, 0, 0, 0, 47, 48, 49], [], [], [], [0, 0, 0, 0, 0, 51, 52, 53], [], [], [], [0, 0, 0, 0, 0, 55, 56, 57], [], [], [], [0, 0, 0, 0, 0, 59, 60, 61], [], [], [], [0, 0, 0, 0, 0, 63, 64, 65], [], [], [], [], [0, 0, 0, 0, 0, 68, 69, 70], [], [], [], [0, 0, 0, 0, 0, 72, 73, 74], [], [], [], [], [77, 78], [], [], [0, 0, 0, 0, 0, 80, 81, 82], [], [], [], [84, 85], [], [], [87], [], [], [], [0, 91, 0, 0, 0, 0, 92, 0, 0, 0, 0, 0, 93, 94, 95, 96, 97, 98, 0, 99, 100, 0, 101, 102, 0, 103, 104, 105, 106, 0, 0, 0, 0, 0, 0, 0, 0, 107], [], [], [], [], [], [], [], [], [], [], [], [], [], [], [], [], []]
/-- the references that stay -/
def rfs (a j : Nat) : Nat := (rfl_.getD a []).getD j 0
theorem shp_in {a t x : Nat} (h : shp a = (t, x)) (ht : t < 9) : 1 ≤ a ∧ a ≤ 107 := by
  unfold shp at h
  rw [List.getD_eq_getElem?_getD] at h
  by_cases hl : a < 108
  · refine ⟨?_, by omega⟩
    rcases Nat.eq_zero_or_pos a with rfl | q
    · exact absurd (congrArg Prod.fst h) (by show ¬ (9 = t); omega)
    · exact q
  · rw [List.getElem?_eq_none (by show shl.length ≤ a; exact Nat.le_of_not_lt hl)] at h
    exact absurd (congrArg Prod.fst h) (by show ¬ (9 = t); omega)
abbrev IT : Type := Nat → Nat → Int32
abbrev JT : Type := Nat → Int64
abbrev PT : Type := Nat → Nat → Nat
def mkf (I : IT) (J : JT) (a : Nat) : Nat → List Nat → List Value
  | _, [] => []
  | j, t :: r => (if t = 0 then .int (I a j) else if t = 1 then .long (J a) else .ref (rfs a j)) :: mkf I J a (j + 1) r
def mkc (I : IT) (J : JT) (P : PT) (a : Nat) : MC :=
  if (shp a).1 = 0 then .inr ((shp a).2, mkf I J a 0 (fk (shp a).2))
  else if (shp a).1 = 1 then .inl (0, ((shp a).2, .inl (I a)))
  else if (shp a).1 = 2 then .inl (1, ((shp a).2, .inl (I a)))
  else .inl (2, ((shp a).2, .inr (.inr (.inr (.inr (fun j => some (P a j)))))))
def hp (I : IT) (J : JT) (P : PT) : HS := (107, mkc I J P)
def u2 (I : IT) (a j : Nat) (v : Int32) : IT := fun x => if x = a then upd (I a) j v else I x
def uJ (J : JT) (a : Nat) (v : Int64) : JT := fun x => if x = a then v else J x
def uP (P : PT) (a j v : Nat) : PT := fun x => if x = a then (fun z => if z = j then v else P a z) else P x
theorem u2_s (I : IT) (a j : Nat) (v : Int32) : u2 I a j v a = upd (I a) j v := by simp [u2]
theorem u2_n {I : IT} {a j b : Nat} {v : Int32} (h : b ≠ a) : u2 I a j v b = I b := by simp [u2, h]
theorem u2_g (I : IT) (a j : Nat) (v : Int32) (b i : Nat) : u2 I a j v b i = if b = a ∧ i = j then v else I b i := by
  by_cases h : b = a
  · subst h
    by_cases h2 : i = j <;> simp [u2, upd, h2]
  · simp [u2, h]
theorem u2_ss (I : IT) (a j : Nat) (v : Int32) : u2 I a j v a j = v := by simp [u2_g]
theorem u2_sn {I : IT} {a j i : Nat} {v : Int32} (h : i ≠ j) : u2 I a j v a i = I a i := by simp [u2_g, h]
theorem mkf_get {I : IT} {J : JT} {a : Nat} : ∀ (l : List Nat) (j0 j t : Nat), l[j]? = some t → (mkf I J a j0 l)[j]? = some (if t = 0 then .int (I a (j0 + j)) else if t = 1 then .long (J a) else .ref (rfs a (j0 + j))) := by
  intro l
  induction l with
  | nil => intro j0 j t h; simp at h
  | cons x r ih =>
    intro j0 j t h
    cases j with
    | zero =>
      simp only [List.getElem?_cons_zero, Option.some.injEq] at h
      subst h
      simp [mkf]
    | succ j =>
      simp only [List.getElem?_cons_succ] at h
      have := ih (j0 + 1) j t h
      rw [show j0 + 1 + j = j0 + (j + 1) by omega] at this
      simpa [mkf] using this
theorem mkf_len {I : IT} {J : JT} {a : Nat} : ∀ (l : List Nat) (j0 : Nat), (mkf I J a j0 l).length = l.length := by
  intro l
  induction l with
  | nil => intro j0; rfl
  | cons x r ih => intro j0; simp [mkf, ih]
theorem mkf_ext {I I' : IT} {J J' : JT} {a : Nat} : ∀ (l : List Nat) (j0 : Nat), (∀ j, l[j]? = some 0 → I a (j0 + j) = I' a (j0 + j)) → (∀ j : Nat, l[j]? = some 1 → J a = J' a) → mkf I J a j0 l = mkf I' J' a j0 l := by
  intro l
  induction l with
  | nil => intro j0 _ _; rfl
  | cons x r ih =>
    intro j0 h1 h2
    simp only [mkf]
    rw [ih (j0 + 1) (fun j hj => by rw [show j0 + 1 + j = j0 + (j + 1) by omega]; exact h1 (j + 1) (by simpa using hj)) (fun j hj => h2 (j + 1) (by simpa using hj))]
    congr 1
    by_cases q0 : x = 0
    · subst q0
      simp only [if_true]
      have := h1 0 rfl
      rw [Nat.add_zero] at this
      rw [this]
    · by_cases q1 : x = 1
      · subst q1
        simp only [if_true, if_neg q0]
        rw [h2 0 rfl]
      · simp only [if_neg q0, if_neg q1]
theorem mkf_set {I : IT} {J : JT} {a j : Nat} {v : Int32} : ∀ (l : List Nat) (j0 : Nat), l[j]? = some 0 → (mkf I J a j0 l).set j (.int v) = mkf (u2 I a (j0 + j) v) J a j0 l := by
  intro l j0 hj
  apply List.ext_getElem?
  intro i
  by_cases hij : j = i
  · subst hij
    have hl : j < (mkf I J a j0 l).length := by rw [mkf_len]; exact (List.getElem?_eq_some_iff.mp hj).1
    rw [List.getElem?_set_self hl, mkf_get l j0 j 0 hj, if_pos rfl, u2_ss]
  · rw [List.getElem?_set_ne hij]
    cases hi : l[i]? with
    | none =>
      have hz : l.length ≤ i := List.getElem?_eq_none_iff.mp hi
      rw [List.getElem?_eq_none (by rw [mkf_len]; exact hz), List.getElem?_eq_none (by rw [mkf_len]; exact hz)]
    | some t =>
      rw [mkf_get l j0 i t hi, mkf_get l j0 i t hi, u2_sn (by omega)]
theorem mkf_setJ {I : IT} {J : JT} {a j : Nat} {v : Int64} : ∀ (l : List Nat) (j0 : Nat), l[j]? = some 1 → (∀ i : Nat, l[i]? = some 1 → i = j) → (mkf I J a j0 l).set j (.long v) = mkf I (uJ J a v) a j0 l := by
  intro l j0 hj hu
  apply List.ext_getElem?
  intro i
  by_cases hij : j = i
  · subst hij
    have hl : j < (mkf I J a j0 l).length := by rw [mkf_len]; exact (List.getElem?_eq_some_iff.mp hj).1
    rw [List.getElem?_set_self hl, mkf_get l j0 j 1 hj]
    simp [uJ]
  · rw [List.getElem?_set_ne hij]
    cases hi : l[i]? with
    | none =>
      have hz : l.length ≤ i := List.getElem?_eq_none_iff.mp hi
      rw [List.getElem?_eq_none (by rw [mkf_len]; exact hz), List.getElem?_eq_none (by rw [mkf_len]; exact hz)]
    | some t =>
      rw [mkf_get l j0 i t hi, mkf_get l j0 i t hi]
      by_cases q0 : t = 0
      · simp [q0]
      · by_cases q1 : t = 1
        · subst q1; exact absurd (hu i hi).symm hij
        · simp [q0, q1]
theorem mkc_0 {I : IT} {J : JT} {P : PT} {a c : Nat} (h : shp a = (0, c)) : mkc I J P a = .inr (c, mkf I J a 0 (fk c)) := by simp [mkc, h]
theorem mkc_1 {I : IT} {J : JT} {P : PT} {a c : Nat} (h : shp a = (1, c)) : mkc I J P a = .inl (0, (c, .inl (I a))) := by simp [mkc, h]
theorem mkc_2 {I : IT} {J : JT} {P : PT} {a c : Nat} (h : shp a = (2, c)) : mkc I J P a = .inl (1, (c, .inl (I a))) := by simp [mkc, h]
theorem mkc_3 {I : IT} {J : JT} {P : PT} {a c : Nat} (h : shp a = (3, c)) : mkc I J P a = .inl (2, (c, .inr (.inr (.inr (.inr (fun j => some (P a j))))))) := by simp [mkc, h]
theorem mkc_ext {I I' : IT} {J J' : JT} {P P' : PT} {a : Nat} (h1 : I a = I' a) (h2 : J a = J' a) (h3 : P a = P' a) : mkc I J P a = mkc I' J' P' a := by
  unfold mkc
  rw [mkf_ext (fk (shp a).2) 0 (fun j _ => by rw [h1]) (fun _ _ => h2), h1, h3]
theorem hp_set {I I' : IT} {J J' : JT} {P P' : PT} {a : Nat} {x : MC} (hx : x = mkc I' J' P' a) (h1 : ∀ b, b ≠ a → I b = I' b) (h2 : ∀ b, b ≠ a → J b = J' b) (h3 : ∀ b, b ≠ a → P b = P' b) : hset (hp I J P) a x = hp I' J' P' := by
  unfold hset hp
  refine Prod.ext rfl ?_
  funext b
  show (if b = a then x else mkc I J P b) = mkc I' J' P' b
  by_cases hb : b = a
  · rw [if_pos hb, hx, hb]
  · rw [if_neg hb]
    exact mkc_ext (h1 b hb) (h2 b hb) (h3 b hb)
theorem hp_u2 {I : IT} {J : JT} {P : PT} {a c j : Nat} {v : Int32} (hs : shp a = (0, c)) (hk : (fk c)[j]? = some 0) : hset (hp I J P) a (.inr (c, (mkf I J a 0 (fk c)).set j (.int v))) = hp (u2 I a j v) J P :=
  hp_set (by rw [mkc_0 hs, mkf_set _ 0 hk, Nat.zero_add]) (fun b hb => (u2_n hb).symm) (fun _ _ => rfl) (fun _ _ => rfl)
theorem hp_uJ {I : IT} {J : JT} {P : PT} {a c j : Nat} {v : Int64} (hs : shp a = (0, c)) (hk : (fk c)[j]? = some 1) (hu : ∀ i : Nat, (fk c)[i]? = some 1 → i = j) : hset (hp I J P) a (.inr (c, (mkf I J a 0 (fk c)).set j (.long v))) = hp I (uJ J a v) P :=
  hp_set (by rw [mkc_0 hs, mkf_setJ _ 0 hk hu]) (fun _ _ => rfl) (fun b hb => by simp [uJ, hb]) (fun _ _ => rfl)
theorem hp_a1 {I : IT} {J : JT} {P : PT} {a c j : Nat} {v : Int32} (hs : shp a = (1, c)) : hset (hp I J P) a (.inl (0, (c, .inl (upd (I a) j v)))) = hp (u2 I a j v) J P :=
  hp_set (by rw [mkc_1 hs, u2_s]) (fun b hb => (u2_n hb).symm) (fun _ _ => rfl) (fun _ _ => rfl)
theorem hp_a2 {I : IT} {J : JT} {P : PT} {a c j : Nat} {v : Int32} (hs : shp a = (2, c)) : hset (hp I J P) a (.inl (1, (c, .inl (upd (I a) j v)))) = hp (u2 I a j v) J P :=
  hp_set (by rw [mkc_2 hs, u2_s]) (fun b hb => (u2_n hb).symm) (fun _ _ => rfl) (fun _ _ => rfl)
theorem hp_a3 {I : IT} {J : JT} {P : PT} {a c j v : Nat} (hs : shp a = (3, c)) : hset (hp I J P) a (.inl (2, (c, .inr (.inr (.inr (.inr (va_up (fun j => some (P a j)) j (some v)))))))) = hp I J (uP P a j v) :=
  hp_set (by
    rw [mkc_3 hs]
    have : (va_up (fun j => some (P a j)) j (some v)) = fun z => some (uP P a j v a z) := by
      funext z
      by_cases hz : z = j <;> simp [va_up, uP, hz]
    rw [this]) (fun _ _ => rfl) (fun _ _ => rfl) (fun b hb => by simp [uP, hb])
theorem x_gI {y : YI} {G : GT} {pc nx : Nat} {ls : List (Option Value)} {st : List Value} {I : IT} {J : JT} {P : PT} {k n : Nat} {ix c j a : Nat} {fin : Bool} {ty : FieldType} (d : Dc y pc (.getfield ix) 3 nx) (fl : FL (yN y).cls ix c j fin ty) (hs : shp a = (0, c)) (hk : (fk c)[j]? = some 0) (K : xj y G nx ls (.int (I a j) :: st) (hp I J P) k n) : xj y G pc ls (.ref a :: st) (hp I J P) k n :=
  x_getf d fl (shp_in hs (by decide)).1 (shp_in hs (by decide)).2 (mkc_0 hs) (by rw [mkf_get _ 0 j 0 hk, Nat.zero_add]; rfl) K
theorem x_gJ {y : YI} {G : GT} {pc nx : Nat} {ls : List (Option Value)} {st : List Value} {I : IT} {J : JT} {P : PT} {k n : Nat} {ix c j a : Nat} {fin : Bool} {ty : FieldType} (d : Dc y pc (.getfield ix) 3 nx) (fl : FL (yN y).cls ix c j fin ty) (hs : shp a = (0, c)) (hk : (fk c)[j]? = some 1) (K : xj y G nx ls (.long (J a) :: st) (hp I J P) k n) : xj y G pc ls (.ref a :: st) (hp I J P) k n :=
  x_getf d fl (shp_in hs (by decide)).1 (shp_in hs (by decide)).2 (mkc_0 hs) (by rw [mkf_get _ 0 j 1 hk]; rfl) K
theorem x_gR {y : YI} {G : GT} {pc nx : Nat} {ls : List (Option Value)} {st : List Value} {I : IT} {J : JT} {P : PT} {k n : Nat} {ix c j a b : Nat} {fin : Bool} {ty : FieldType} (d : Dc y pc (.getfield ix) 3 nx) (fl : FL (yN y).cls ix c j fin ty) (hs : shp a = (0, c)) (hk : (fk c)[j]? = some 2) (hr : rfs a j = b) (K : xj y G nx ls (.ref b :: st) (hp I J P) k n) : xj y G pc ls (.ref a :: st) (hp I J P) k n :=
  x_getf d fl (shp_in hs (by decide)).1 (shp_in hs (by decide)).2 (mkc_0 hs) (by rw [mkf_get _ 0 j 2 hk, Nat.zero_add, hr]; rfl) K
theorem x_pI {y : YI} {G : GT} {pc nx : Nat} {ls : List (Option Value)} {st : List Value} {I : IT} {J : JT} {P : PT} {k n : Nat} {ix c j a : Nat} {v : Int32} (d : Dc y pc (.putfield ix) 3 nx) (fl : FL (yN y).cls ix c j false .int) (hs : shp a = (0, c)) (hk : (fk c)[j]? = some 0) (K : xj y G nx ls st (hp (u2 I a j v) J P) k n) : xj y G pc ls (.int v :: .ref a :: st) (hp I J P) k n :=
  x_putf d fl (shp_in hs (by decide)).1 (shp_in hs (by decide)).2 (mkc_0 hs) (by rw [mkf_len]; exact (List.getElem?_eq_some_iff.mp hk).1) (fun _ => rfl) (fun _ => rfl) (by rw [hp_u2 hs hk]; exact K)
theorem x_pJ {y : YI} {G : GT} {pc nx : Nat} {ls : List (Option Value)} {st : List Value} {I : IT} {J : JT} {P : PT} {k n : Nat} {ix c j a : Nat} {v : Int64} (d : Dc y pc (.putfield ix) 3 nx) (fl : FL (yN y).cls ix c j false .long) (hs : shp a = (0, c)) (hk : (fk c)[j]? = some 1) (hu : ∀ i : Nat, (fk c)[i]? = some 1 → i = j) (K : xj y G nx ls st (hp I (uJ J a v) P) k n) : xj y G pc ls (.long v :: .ref a :: st) (hp I J P) k n :=
  x_putf d fl (shp_in hs (by decide)).1 (shp_in hs (by decide)).2 (mkc_0 hs) (by rw [mkf_len]; exact (List.getElem?_eq_some_iff.mp hk).1) (fun _ => rfl) (fun _ => rfl) (by rw [hp_uJ hs hk hu]; exact K)
theorem x_ai {y : YI} {G : GT} {pc nx : Nat} {ls : List (Option Value)} {st : List Value} {I : IT} {J : JT} {P : PT} {k n : Nat} {a N : Nat} {i : Int32} (d : Dc y pc .iaload 1 nx) (hs : shp a = (1, N)) (hi : vp_in i N) (K : xj y G nx ls (.int (I a i.toNatClampNeg) :: st) (hp I J P) k n) : xj y G pc ls (.int i :: .ref a :: st) (hp I J P) k n :=
  x_iald d (shp_in hs (by decide)).1 (shp_in hs (by decide)).2 (mkc_1 hs) hi K
theorem x_al {y : YI} {G : GT} {pc nx : Nat} {ls : List (Option Value)} {st : List Value} {I : IT} {J : JT} {P : PT} {k n : Nat} {a N : Nat} {i : Int32} (j : Nat) (d : Dc y pc .iaload 1 nx) (hs : shp a = (1, N)) (hi : i = nI j) (hj : j < N) (hN : N < 2 ^ 31) (K : xj y G nx ls (.int (I a j) :: st) (hp I J P) k n) : xj y G pc ls (.int i :: .ref a :: st) (hp I J P) k n := by
  subst hi
  exact x_ai d hs (vp_in_nI hj hN) (by rw [nI_clamp (by omega)]; exact K)
theorem x_ao {y : YI} {G : GT} {pc nx : Nat} {ls : List (Option Value)} {st : List Value} {I : IT} {J : JT} {P : PT} {k n : Nat} {a N : Nat} {i v : Int32} (d : Dc y pc .iastore 1 nx) (hs : shp a = (1, N)) (hi : vp_in i N) (K : xj y G nx ls st (hp (u2 I a i.toNatClampNeg v) J P) k n) : xj y G pc ls (.int v :: .int i :: .ref a :: st) (hp I J P) k n :=
  x_iast d (shp_in hs (by decide)).1 (shp_in hs (by decide)).2 (mkc_1 hs) hi (by rw [hp_a1 hs]; exact K)
theorem x_as {y : YI} {G : GT} {pc nx : Nat} {ls : List (Option Value)} {st : List Value} {I : IT} {J : JT} {P : PT} {k n : Nat} {a N : Nat} {i v : Int32} (j : Nat) (d : Dc y pc .iastore 1 nx) (hs : shp a = (1, N)) (hi : i = nI j) (hj : j < N) (hN : N < 2 ^ 31) (K : xj y G nx ls st (hp (u2 I a j v) J P) k n) : xj y G pc ls (.int v :: .int i :: .ref a :: st) (hp I J P) k n := by
  subst hi
  exact x_ao d hs (vp_in_nI hj hN) (by rw [nI_clamp (by omega)]; exact K)
theorem x_zl {y : YI} {G : GT} {pc nx : Nat} {ls : List (Option Value)} {st : List Value} {I : IT} {J : JT} {P : PT} {k n : Nat} {a N : Nat} {i : Int32} (j : Nat) (d : Dc y pc .baload 1 nx) (hs : shp a = (2, N)) (hi : i = nI j) (hj : j < N) (hN : N < 2 ^ 31) (K : xj y G nx ls (.int (I a j) :: st) (hp I J P) k n) : xj y G pc ls (.int i :: .ref a :: st) (hp I J P) k n := by
  subst hi
  exact x_zald d (shp_in hs (by decide)).1 (shp_in hs (by decide)).2 (mkc_2 hs) (vp_in_nI hj hN) (by rw [nI_clamp (by omega)]; exact K)
theorem x_zs {y : YI} {G : GT} {pc nx : Nat} {ls : List (Option Value)} {st : List Value} {I : IT} {J : JT} {P : PT} {k n : Nat} {a N : Nat} {i v : Int32} (j : Nat) (d : Dc y pc .bastore 1 nx) (hs : shp a = (2, N)) (hi : i = nI j) (hj : j < N) (hN : N < 2 ^ 31) (hz : narrow .boolean (.int v) = .int v) (K : xj y G nx ls st (hp (u2 I a j v) J P) k n) : xj y G pc ls (.int v :: .int i :: .ref a :: st) (hp I J P) k n := by
  subst hi
  exact x_zast d (shp_in hs (by decide)).1 (shp_in hs (by decide)).2 (mkc_2 hs) (vp_in_nI hj hN) hz (by rw [nI_clamp (by omega), hp_a2 hs]; exact K)
theorem x_rl {y : YI} {G : GT} {pc nx : Nat} {ls : List (Option Value)} {st : List Value} {I : IT} {J : JT} {P : PT} {k n : Nat} {a N b : Nat} {i : Int32} (j : Nat) (d : Dc y pc .aaload 1 nx) (hs : shp a = (3, N)) (hi : i = nI j) (hj : j < N) (hN : N < 2 ^ 31) (hb : P a j = b) (hb1 : 1 ≤ b) (K : xj y G nx ls (.ref b :: st) (hp I J P) k n) : xj y G pc ls (.int i :: .ref a :: st) (hp I J P) k n := by
  subst hi
  exact x_aald d (shp_in hs (by decide)).1 (shp_in hs (by decide)).2 (mkc_3 hs) (vp_in_nI hj hN) (by rw [nI_clamp (by omega), hb]) hb1 K
theorem x_rs {y : YI} {G : GT} {pc nx : Nat} {ls : List (Option Value)} {st : List Value} {I : IT} {J : JT} {P : PT} {k n : Nat} {a N b : Nat} {i : Int32} (j : Nat) (d : Dc y pc .aastore 1 nx) (hs : shp a = (3, N)) (hi : i = nI j) (hj : j < N) (hN : N < 2 ^ 31) (hsb : shp b = (0, 2)) (K : xj y G nx ls st (hp I J (uP P a j b)) k n) : xj y G pc ls (.ref b :: .int i :: .ref a :: st) (hp I J P) k n := by
  subst hi
  exact x_aast d (shp_in hs (by decide)).1 (shp_in hs (by decide)).2 (mkc_3 hs) (vp_in_nI hj hN) (shp_in hsb (by decide)).1 (shp_in hsb (by decide)).2 (mkc_0 hsb) (by rw [nI_clamp (by omega), hp_a3 hs]; exact K)
theorem x_l1 {y : YI} {G : GT} {pc nx : Nat} {ls : List (Option Value)} {st : List Value} {I : IT} {J : JT} {P : PT} {k n : Nat} {a N : Nat} (v : Int32) (d : Dc y pc .arraylength 1 nx) (hs : shp a = (1, N)) (hv : Int32.ofNat N = v) (K : xj y G nx ls (.int v :: st) (hp I J P) k n) : xj y G pc ls (.ref a :: st) (hp I J P) k n :=
  x_alen v d (shp_in hs (by decide)).1 (shp_in hs (by decide)).2 (by decide) (mkc_1 hs) hv K
theorem x_l2 {y : YI} {G : GT} {pc nx : Nat} {ls : List (Option Value)} {st : List Value} {I : IT} {J : JT} {P : PT} {k n : Nat} {a N : Nat} (v : Int32) (d : Dc y pc .arraylength 1 nx) (hs : shp a = (2, N)) (hv : Int32.ofNat N = v) (K : xj y G nx ls (.int v :: st) (hp I J P) k n) : xj y G pc ls (.ref a :: st) (hp I J P) k n :=
  x_alen v d (shp_in hs (by decide)).1 (shp_in hs (by decide)).2 (by decide) (mkc_2 hs) hv K
theorem x_l3 {y : YI} {G : GT} {pc nx : Nat} {ls : List (Option Value)} {st : List Value} {I : IT} {J : JT} {P : PT} {k n : Nat} {a N : Nat} (v : Int32) (d : Dc y pc .arraylength 1 nx) (hs : shp a = (3, N)) (hv : Int32.ofNat N = v) (K : xj y G nx ls (.int v :: st) (hp I J P) k n) : xj y G pc ls (.ref a :: st) (hp I J P) k n :=
  x_alen v d (shp_in hs (by decide)).1 (shp_in hs (by decide)).2 (by decide) (mkc_3 hs) hv K
theorem x_v0 {y y' : YI} {G : GT} {pc nx : Nat} {ls ls0 : List (Option Value)} {st : List Value} {ix : Nat} {I : IT} {J : JT} {P : PT} {k n : Nat} {c b : Nat} (d : Dc y pc (.invokevirtual ix) 3 nx) (cf : CV (yN y).cls ix y') (ok : YOK y' 0) (rm : rmOk y y') (hlen : (entl (.ref b :: [])).length ≤ yL y') (he : ent0 y' (.ref b :: []) = ls0) (hst : (st.map fun v => v.category).sum ≤ 8) (hs : shp b = (0, c)) (hcc : ∃ r, kcl[c]? = some r ∧ r.1 = (yN y').cls) (hz : (yR y').cells = 0) (hz2 : (yR y').slots = 0) (hk2 : k ≤ (yR y).cells) (hn2 : n ≤ (yR y).slots) (K : xj y' (mG y' (fun r h' => xj y G nx ls (pushR r st) h' k n)) 0 ls0 [] (hp I J P) 0 0) : xj y G pc ls (.ref b :: st) (hp I J P) k n :=
  x_callV (As := []) d cf ok rm rfl hlen he hst (shp_in hs (by decide)).1 (shp_in hs (by decide)).2 (mkc_0 hs) hcc (by rw [hz]; rfl) (by rw [hz2]; rfl) hk2 hn2 K
theorem x_s0 {y y' : YI} {G : GT} {pc nx : Nat} {ls ls0 : List (Option Value)} {st : List Value} {ix : Nat} {h : HS} {k n : Nat} (d : Dc y pc (.invokestatic ix) 3 nx) (cf : CS (yN y).cls ix y') (ok : YOK y' 0) (rm : rmOk y y') (hlen : (entl []).length ≤ yL y') (he : ent0 y' [] = ls0) (hst : (st.map fun v => v.category).sum ≤ 8) (hz : (yR y').cells = 0) (hz2 : (yR y').slots = 0) (hk2 : k ≤ (yR y).cells) (hn2 : n ≤ (yR y).slots) (K : xj y' (mG y' (fun r h' => xj y G nx ls (pushR r st) h' k n)) 0 ls0 [] (h) 0 0) : xj y G pc ls (st) h k n :=
  x_callS (As := []) d cf ok rm rfl hlen he hst (by rw [hz]; rfl) (by rw [hz2]; rfl) hk2 hn2 K
theorem x_t0 {y y' : YI} {G : GT} {pc nx : Nat} {ls ls0 : List (Option Value)} {st : List Value} {ix : Nat} {h : HS} {k n : Nat} (d : Dc y pc (.invokestatic ix) 3 nx) (cf : CSN (yN y).cls ix y') (ok : YOK y' 0) (rm : rmOk y y') (hlen : (entl []).length ≤ yL y') (he : ent0 y' [] = ls0) (hst : (st.map fun v => v.category).sum ≤ 8) (hz : (yR y').cells = 0) (hz2 : (yR y').slots = 0) (hk2 : k ≤ (yR y).cells) (hn2 : n ≤ (yR y).slots) (K : xj y' (mG y' (fun r h' => xj y G nx ls (pushR r st) h' k n)) 0 ls0 [] (h) 0 0) : xj y G pc ls (st) h k n :=
  x_callSN (As := []) d cf ok rm rfl hlen he hst (by rw [hz]; rfl) (by rw [hz2]; rfl) hk2 hn2 K
theorem x_v1 {y y' : YI} {G : GT} {pc nx : Nat} {ls ls0 : List (Option Value)} {st : List Value} {ix : Nat} {I : IT} {J : JT} {P : PT} {k n : Nat} {c b : Nat} {v0 : Value} (d : Dc y pc (.invokevirtual ix) 3 nx) (cf : CV (yN y).cls ix y') (ok : YOK y' 1) (rm : rmOk y y') (hlen : (entl (.ref b :: [v0])).length ≤ yL y') (he : ent0 y' (.ref b :: [v0]) = ls0) (hst : (st.map fun v => v.category).sum ≤ 8) (hs : shp b = (0, c)) (hcc : ∃ r, kcl[c]? = some r ∧ r.1 = (yN y').cls) (hz : (yR y').cells = 0) (hz2 : (yR y').slots = 0) (hk2 : k ≤ (yR y).cells) (hn2 : n ≤ (yR y).slots) (K : xj y' (mG y' (fun r h' => xj y G nx ls (pushR r st) h' k n)) 0 ls0 [] (hp I J P) 0 0) : xj y G pc ls (v0 :: .ref b :: st) (hp I J P) k n :=
  x_callV (As := [v0]) d cf ok rm rfl hlen he hst (shp_in hs (by decide)).1 (shp_in hs (by decide)).2 (mkc_0 hs) hcc (by rw [hz]; rfl) (by rw [hz2]; rfl) hk2 hn2 K
theorem x_s1 {y y' : YI} {G : GT} {pc nx : Nat} {ls ls0 : List (Option Value)} {st : List Value} {ix : Nat} {h : HS} {k n : Nat} {v0 : Value} (d : Dc y pc (.invokestatic ix) 3 nx) (cf : CS (yN y).cls ix y') (ok : YOK y' 1) (rm : rmOk y y') (hlen : (entl [v0]).length ≤ yL y') (he : ent0 y' [v0] = ls0) (hst : (st.map fun v => v.category).sum ≤ 8) (hz : (yR y').cells = 0) (hz2 : (yR y').slots = 0) (hk2 : k ≤ (yR y).cells) (hn2 : n ≤ (yR y).slots) (K : xj y' (mG y' (fun r h' => xj y G nx ls (pushR r st) h' k n)) 0 ls0 [] (h) 0 0) : xj y G pc ls (v0 :: st) h k n :=
  x_callS (As := [v0]) d cf ok rm rfl hlen he hst (by rw [hz]; rfl) (by rw [hz2]; rfl) hk2 hn2 K
theorem x_t1 {y y' : YI} {G : GT} {pc nx : Nat} {ls ls0 : List (Option Value)} {st : List Value} {ix : Nat} {h : HS} {k n : Nat} {v0 : Value} (d : Dc y pc (.invokestatic ix) 3 nx) (cf : CSN (yN y).cls ix y') (ok : YOK y' 1) (rm : rmOk y y') (hlen : (entl [v0]).length ≤ yL y') (he : ent0 y' [v0] = ls0) (hst : (st.map fun v => v.category).sum ≤ 8) (hz : (yR y').cells = 0) (hz2 : (yR y').slots = 0) (hk2 : k ≤ (yR y).cells) (hn2 : n ≤ (yR y).slots) (K : xj y' (mG y' (fun r h' => xj y G nx ls (pushR r st) h' k n)) 0 ls0 [] (h) 0 0) : xj y G pc ls (v0 :: st) h k n :=
  x_callSN (As := [v0]) d cf ok rm rfl hlen he hst (by rw [hz]; rfl) (by rw [hz2]; rfl) hk2 hn2 K
theorem x_v2 {y y' : YI} {G : GT} {pc nx : Nat} {ls ls0 : List (Option Value)} {st : List Value} {ix : Nat} {I : IT} {J : JT} {P : PT} {k n : Nat} {c b : Nat} {v0 v1 : Value} (d : Dc y pc (.invokevirtual ix) 3 nx) (cf : CV (yN y).cls ix y') (ok : YOK y' 2) (rm : rmOk y y') (hlen : (entl (.ref b :: [v0, v1])).length ≤ yL y') (he : ent0 y' (.ref b :: [v0, v1]) = ls0) (hst : (st.map fun v => v.category).sum ≤ 8) (hs : shp b = (0, c)) (hcc : ∃ r, kcl[c]? = some r ∧ r.1 = (yN y').cls) (hz : (yR y').cells = 0) (hz2 : (yR y').slots = 0) (hk2 : k ≤ (yR y).cells) (hn2 : n ≤ (yR y).slots) (K : xj y' (mG y' (fun r h' => xj y G nx ls (pushR r st) h' k n)) 0 ls0 [] (hp I J P) 0 0) : xj y G pc ls (v1 :: v0 :: .ref b :: st) (hp I J P) k n :=
  x_callV (As := [v0, v1]) d cf ok rm rfl hlen he hst (shp_in hs (by decide)).1 (shp_in hs (by decide)).2 (mkc_0 hs) hcc (by rw [hz]; rfl) (by rw [hz2]; rfl) hk2 hn2 K
theorem x_s2 {y y' : YI} {G : GT} {pc nx : Nat} {ls ls0 : List (Option Value)} {st : List Value} {ix : Nat} {h : HS} {k n : Nat} {v0 v1 : Value} (d : Dc y pc (.invokestatic ix) 3 nx) (cf : CS (yN y).cls ix y') (ok : YOK y' 2) (rm : rmOk y y') (hlen : (entl [v0, v1]).length ≤ yL y') (he : ent0 y' [v0, v1] = ls0) (hst : (st.map fun v => v.category).sum ≤ 8) (hz : (yR y').cells = 0) (hz2 : (yR y').slots = 0) (hk2 : k ≤ (yR y).cells) (hn2 : n ≤ (yR y).slots) (K : xj y' (mG y' (fun r h' => xj y G nx ls (pushR r st) h' k n)) 0 ls0 [] (h) 0 0) : xj y G pc ls (v1 :: v0 :: st) h k n :=
  x_callS (As := [v0, v1]) d cf ok rm rfl hlen he hst (by rw [hz]; rfl) (by rw [hz2]; rfl) hk2 hn2 K
theorem x_t2 {y y' : YI} {G : GT} {pc nx : Nat} {ls ls0 : List (Option Value)} {st : List Value} {ix : Nat} {h : HS} {k n : Nat} {v0 v1 : Value} (d : Dc y pc (.invokestatic ix) 3 nx) (cf : CSN (yN y).cls ix y') (ok : YOK y' 2) (rm : rmOk y y') (hlen : (entl [v0, v1]).length ≤ yL y') (he : ent0 y' [v0, v1] = ls0) (hst : (st.map fun v => v.category).sum ≤ 8) (hz : (yR y').cells = 0) (hz2 : (yR y').slots = 0) (hk2 : k ≤ (yR y).cells) (hn2 : n ≤ (yR y).slots) (K : xj y' (mG y' (fun r h' => xj y G nx ls (pushR r st) h' k n)) 0 ls0 [] (h) 0 0) : xj y G pc ls (v1 :: v0 :: st) h k n :=
  x_callSN (As := [v0, v1]) d cf ok rm rfl hlen he hst (by rw [hz]; rfl) (by rw [hz2]; rfl) hk2 hn2 K
theorem x_v3 {y y' : YI} {G : GT} {pc nx : Nat} {ls ls0 : List (Option Value)} {st : List Value} {ix : Nat} {I : IT} {J : JT} {P : PT} {k n : Nat} {c b : Nat} {v0 v1 v2 : Value} (d : Dc y pc (.invokevirtual ix) 3 nx) (cf : CV (yN y).cls ix y') (ok : YOK y' 3) (rm : rmOk y y') (hlen : (entl (.ref b :: [v0, v1, v2])).length ≤ yL y') (he : ent0 y' (.ref b :: [v0, v1, v2]) = ls0) (hst : (st.map fun v => v.category).sum ≤ 8) (hs : shp b = (0, c)) (hcc : ∃ r, kcl[c]? = some r ∧ r.1 = (yN y').cls) (hz : (yR y').cells = 0) (hz2 : (yR y').slots = 0) (hk2 : k ≤ (yR y).cells) (hn2 : n ≤ (yR y).slots) (K : xj y' (mG y' (fun r h' => xj y G nx ls (pushR r st) h' k n)) 0 ls0 [] (hp I J P) 0 0) : xj y G pc ls (v2 :: v1 :: v0 :: .ref b :: st) (hp I J P) k n :=
  x_callV (As := [v0, v1, v2]) d cf ok rm rfl hlen he hst (shp_in hs (by decide)).1 (shp_in hs (by decide)).2 (mkc_0 hs) hcc (by rw [hz]; rfl) (by rw [hz2]; rfl) hk2 hn2 K
theorem x_s3 {y y' : YI} {G : GT} {pc nx : Nat} {ls ls0 : List (Option Value)} {st : List Value} {ix : Nat} {h : HS} {k n : Nat} {v0 v1 v2 : Value} (d : Dc y pc (.invokestatic ix) 3 nx) (cf : CS (yN y).cls ix y') (ok : YOK y' 3) (rm : rmOk y y') (hlen : (entl [v0, v1, v2]).length ≤ yL y') (he : ent0 y' [v0, v1, v2] = ls0) (hst : (st.map fun v => v.category).sum ≤ 8) (hz : (yR y').cells = 0) (hz2 : (yR y').slots = 0) (hk2 : k ≤ (yR y).cells) (hn2 : n ≤ (yR y).slots) (K : xj y' (mG y' (fun r h' => xj y G nx ls (pushR r st) h' k n)) 0 ls0 [] (h) 0 0) : xj y G pc ls (v2 :: v1 :: v0 :: st) h k n :=
  x_callS (As := [v0, v1, v2]) d cf ok rm rfl hlen he hst (by rw [hz]; rfl) (by rw [hz2]; rfl) hk2 hn2 K
theorem x_t3 {y y' : YI} {G : GT} {pc nx : Nat} {ls ls0 : List (Option Value)} {st : List Value} {ix : Nat} {h : HS} {k n : Nat} {v0 v1 v2 : Value} (d : Dc y pc (.invokestatic ix) 3 nx) (cf : CSN (yN y).cls ix y') (ok : YOK y' 3) (rm : rmOk y y') (hlen : (entl [v0, v1, v2]).length ≤ yL y') (he : ent0 y' [v0, v1, v2] = ls0) (hst : (st.map fun v => v.category).sum ≤ 8) (hz : (yR y').cells = 0) (hz2 : (yR y').slots = 0) (hk2 : k ≤ (yR y).cells) (hn2 : n ≤ (yR y).slots) (K : xj y' (mG y' (fun r h' => xj y G nx ls (pushR r st) h' k n)) 0 ls0 [] (h) 0 0) : xj y G pc ls (v2 :: v1 :: v0 :: st) h k n :=
  x_callSN (As := [v0, v1, v2]) d cf ok rm rfl hlen he hst (by rw [hz]; rfl) (by rw [hz2]; rfl) hk2 hn2 K
theorem x_v4 {y y' : YI} {G : GT} {pc nx : Nat} {ls ls0 : List (Option Value)} {st : List Value} {ix : Nat} {I : IT} {J : JT} {P : PT} {k n : Nat} {c b : Nat} {v0 v1 v2 v3 : Value} (d : Dc y pc (.invokevirtual ix) 3 nx) (cf : CV (yN y).cls ix y') (ok : YOK y' 4) (rm : rmOk y y') (hlen : (entl (.ref b :: [v0, v1, v2, v3])).length ≤ yL y') (he : ent0 y' (.ref b :: [v0, v1, v2, v3]) = ls0) (hst : (st.map fun v => v.category).sum ≤ 8) (hs : shp b = (0, c)) (hcc : ∃ r, kcl[c]? = some r ∧ r.1 = (yN y').cls) (hz : (yR y').cells = 0) (hz2 : (yR y').slots = 0) (hk2 : k ≤ (yR y).cells) (hn2 : n ≤ (yR y).slots) (K : xj y' (mG y' (fun r h' => xj y G nx ls (pushR r st) h' k n)) 0 ls0 [] (hp I J P) 0 0) : xj y G pc ls (v3 :: v2 :: v1 :: v0 :: .ref b :: st) (hp I J P) k n :=
  x_callV (As := [v0, v1, v2, v3]) d cf ok rm rfl hlen he hst (shp_in hs (by decide)).1 (shp_in hs (by decide)).2 (mkc_0 hs) hcc (by rw [hz]; rfl) (by rw [hz2]; rfl) hk2 hn2 K
theorem x_s4 {y y' : YI} {G : GT} {pc nx : Nat} {ls ls0 : List (Option Value)} {st : List Value} {ix : Nat} {h : HS} {k n : Nat} {v0 v1 v2 v3 : Value} (d : Dc y pc (.invokestatic ix) 3 nx) (cf : CS (yN y).cls ix y') (ok : YOK y' 4) (rm : rmOk y y') (hlen : (entl [v0, v1, v2, v3]).length ≤ yL y') (he : ent0 y' [v0, v1, v2, v3] = ls0) (hst : (st.map fun v => v.category).sum ≤ 8) (hz : (yR y').cells = 0) (hz2 : (yR y').slots = 0) (hk2 : k ≤ (yR y).cells) (hn2 : n ≤ (yR y).slots) (K : xj y' (mG y' (fun r h' => xj y G nx ls (pushR r st) h' k n)) 0 ls0 [] (h) 0 0) : xj y G pc ls (v3 :: v2 :: v1 :: v0 :: st) h k n :=
  x_callS (As := [v0, v1, v2, v3]) d cf ok rm rfl hlen he hst (by rw [hz]; rfl) (by rw [hz2]; rfl) hk2 hn2 K
theorem x_t4 {y y' : YI} {G : GT} {pc nx : Nat} {ls ls0 : List (Option Value)} {st : List Value} {ix : Nat} {h : HS} {k n : Nat} {v0 v1 v2 v3 : Value} (d : Dc y pc (.invokestatic ix) 3 nx) (cf : CSN (yN y).cls ix y') (ok : YOK y' 4) (rm : rmOk y y') (hlen : (entl [v0, v1, v2, v3]).length ≤ yL y') (he : ent0 y' [v0, v1, v2, v3] = ls0) (hst : (st.map fun v => v.category).sum ≤ 8) (hz : (yR y').cells = 0) (hz2 : (yR y').slots = 0) (hk2 : k ≤ (yR y).cells) (hn2 : n ≤ (yR y).slots) (K : xj y' (mG y' (fun r h' => xj y G nx ls (pushR r st) h' k n)) 0 ls0 [] (h) 0 0) : xj y G pc ls (v3 :: v2 :: v1 :: v0 :: st) h k n :=
  x_callSN (As := [v0, v1, v2, v3]) d cf ok rm rfl hlen he hst (by rw [hz]; rfl) (by rw [hz2]; rfl) hk2 hn2 K
theorem x_v5 {y y' : YI} {G : GT} {pc nx : Nat} {ls ls0 : List (Option Value)} {st : List Value} {ix : Nat} {I : IT} {J : JT} {P : PT} {k n : Nat} {c b : Nat} {v0 v1 v2 v3 v4 : Value} (d : Dc y pc (.invokevirtual ix) 3 nx) (cf : CV (yN y).cls ix y') (ok : YOK y' 5) (rm : rmOk y y') (hlen : (entl (.ref b :: [v0, v1, v2, v3, v4])).length ≤ yL y') (he : ent0 y' (.ref b :: [v0, v1, v2, v3, v4]) = ls0) (hst : (st.map fun v => v.category).sum ≤ 8) (hs : shp b = (0, c)) (hcc : ∃ r, kcl[c]? = some r ∧ r.1 = (yN y').cls) (hz : (yR y').cells = 0) (hz2 : (yR y').slots = 0) (hk2 : k ≤ (yR y).cells) (hn2 : n ≤ (yR y).slots) (K : xj y' (mG y' (fun r h' => xj y G nx ls (pushR r st) h' k n)) 0 ls0 [] (hp I J P) 0 0) : xj y G pc ls (v4 :: v3 :: v2 :: v1 :: v0 :: .ref b :: st) (hp I J P) k n :=
  x_callV (As := [v0, v1, v2, v3, v4]) d cf ok rm rfl hlen he hst (shp_in hs (by decide)).1 (shp_in hs (by decide)).2 (mkc_0 hs) hcc (by rw [hz]; rfl) (by rw [hz2]; rfl) hk2 hn2 K
theorem x_s5 {y y' : YI} {G : GT} {pc nx : Nat} {ls ls0 : List (Option Value)} {st : List Value} {ix : Nat} {h : HS} {k n : Nat} {v0 v1 v2 v3 v4 : Value} (d : Dc y pc (.invokestatic ix) 3 nx) (cf : CS (yN y).cls ix y') (ok : YOK y' 5) (rm : rmOk y y') (hlen : (entl [v0, v1, v2, v3, v4]).length ≤ yL y') (he : ent0 y' [v0, v1, v2, v3, v4] = ls0) (hst : (st.map fun v => v.category).sum ≤ 8) (hz : (yR y').cells = 0) (hz2 : (yR y').slots = 0) (hk2 : k ≤ (yR y).cells) (hn2 : n ≤ (yR y).slots) (K : xj y' (mG y' (fun r h' => xj y G nx ls (pushR r st) h' k n)) 0 ls0 [] (h) 0 0) : xj y G pc ls (v4 :: v3 :: v2 :: v1 :: v0 :: st) h k n :=
  x_callS (As := [v0, v1, v2, v3, v4]) d cf ok rm rfl hlen he hst (by rw [hz]; rfl) (by rw [hz2]; rfl) hk2 hn2 K
theorem x_t5 {y y' : YI} {G : GT} {pc nx : Nat} {ls ls0 : List (Option Value)} {st : List Value} {ix : Nat} {h : HS} {k n : Nat} {v0 v1 v2 v3 v4 : Value} (d : Dc y pc (.invokestatic ix) 3 nx) (cf : CSN (yN y).cls ix y') (ok : YOK y' 5) (rm : rmOk y y') (hlen : (entl [v0, v1, v2, v3, v4]).length ≤ yL y') (he : ent0 y' [v0, v1, v2, v3, v4] = ls0) (hst : (st.map fun v => v.category).sum ≤ 8) (hz : (yR y').cells = 0) (hz2 : (yR y').slots = 0) (hk2 : k ≤ (yR y).cells) (hn2 : n ≤ (yR y).slots) (K : xj y' (mG y' (fun r h' => xj y G nx ls (pushR r st) h' k n)) 0 ls0 [] (h) 0 0) : xj y G pc ls (v4 :: v3 :: v2 :: v1 :: v0 :: st) h k n :=
  x_callSN (As := [v0, v1, v2, v3, v4]) d cf ok rm rfl hlen he hst (by rw [hz]; rfl) (by rw [hz2]; rfl) hk2 hn2 K
/-- a line's cell and its rows -/
def isLn (a : Nat) : Prop := shp a = (0, 2) ∧ rfs a 5 = a + 1 ∧ rfs a 6 = a + 2 ∧ rfs a 7 = a + 3 ∧ shp (a + 1) = (1, 5) ∧ shp (a + 2) = (1, 5) ∧ shp (a + 3) = (1, 5)
theorem ln_4 : isLn 4 := ⟨rfl, rfl, rfl, rfl, rfl, rfl, rfl⟩
theorem ln_67 : isLn 67 := ⟨rfl, rfl, rfl, rfl, rfl, rfl, rfl⟩
theorem ln_71 : isLn 71 := ⟨rfl, rfl, rfl, rfl, rfl, rfl, rfl⟩
theorem ln_79 : isLn 79 := ⟨rfl, rfl, rfl, rfl, rfl, rfl, rfl⟩
theorem ln_row : ∀ i, i < 14 → isLn (10 + 4 * i) := by unfold isLn; decide +kernel
