/-! THE CONSTRUCTORS. A heap is told by its number of cells and by what lies at each -/
abbrev cAi (n : Nat) : MC := .inl (0, (n, .inl (fun _ => 0)))
abbrev cAz (n : Nat) : MC := .inl (1, (n, .inl (fun _ => 0)))
abbrev cLn (a : Nat) : MC := .inr (2, [.int 0, .int 0, .int 0, .int 0, .int 1, .ref (a + 1), .ref (a + 2), .ref (a + 3)])
theorem w_new {y : YI} {G : GT} {pc nx : Nat} {ls : List (Option Value)} {st : List Value} {h : HS} {k n : Nat} {ix ci nn k' n' : Nat} {fs : List Value} (M : Nat) (d : Dc y pc (.new ix) 3 nx) (nw : NW (yN y).cls ix ci fs nn) (hM : h.1 + 1 = M) (hk : k + 1 = k') (hn : n + nn = n') (hk2 : k' ≤ (yR y).cells) (hn2 : n' ≤ (yR y).slots) (K : ∀ h' : HS, h'.1 = M → h'.2 M = .inr (ci, fs) → (∀ b, b < M → h'.2 b = h.2 b) → xj y G nx ls (.ref M :: st) h' k' n') : xj y G pc ls st h k n := by
  subst hM
  refine x_new d nw hk hn hk2 hn2 (K _ rfl ?_ (fun b hb => ?_))
  · show (if h.1 + 1 = h.1 + 1 then _ else _) = _
    rw [if_pos rfl]
  · show (if b = h.1 + 1 then _ else _) = _
    rw [if_neg (by omega)]
theorem w_newI {y : YI} {G : GT} {pc nx : Nat} {ls : List (Option Value)} {st : List Value} {h : HS} {k n : Nat} {k' n' N : Nat} {i : Int32} (M : Nat) (d : Dc y pc (.newarray .int) 2 nx) (hM : h.1 + 1 = M) (h0 : ¬ i < 0) (hN : i.toNatClampNeg = N) (hb : N * 4 ≤ 536870912) (hk : k + 1 = k') (hn : n + N = n') (hk2 : k' ≤ (yR y).cells) (hn2 : n' ≤ (yR y).slots) (K : ∀ h' : HS, h'.1 = M → h'.2 M = cAi N → (∀ b, b < M → h'.2 b = h.2 b) → xj y G nx ls (.ref M :: st) h' k' n') : xj y G pc ls (.int i :: st) h k n := by
  subst hM
  refine x_newI d aI h0 hN hb hk hn hk2 hn2 (K _ rfl ?_ (fun b hb => ?_))
  · show (if h.1 + 1 = h.1 + 1 then _ else _) = _
    rw [if_pos rfl]
  · show (if b = h.1 + 1 then _ else _) = _
    rw [if_neg (by omega)]
theorem w_newZ {y : YI} {G : GT} {pc nx : Nat} {ls : List (Option Value)} {st : List Value} {h : HS} {k n : Nat} {k' n' N : Nat} {i : Int32} (M : Nat) (d : Dc y pc (.newarray .boolean) 2 nx) (hM : h.1 + 1 = M) (h0 : ¬ i < 0) (hN : i.toNatClampNeg = N) (hb : N * 1 ≤ 536870912) (hk : k + 1 = k') (hn : n + N = n') (hk2 : k' ≤ (yR y).cells) (hn2 : n' ≤ (yR y).slots) (K : ∀ h' : HS, h'.1 = M → h'.2 M = cAz N → (∀ b, b < M → h'.2 b = h.2 b) → xj y G nx ls (.ref M :: st) h' k' n') : xj y G pc ls (.int i :: st) h k n := by
  subst hM
  refine x_newZ d aZ h0 hN hb hk hn hk2 hn2 (K _ rfl ?_ (fun b hb => ?_))
  · show (if h.1 + 1 = h.1 + 1 then _ else _) = _
    rw [if_pos rfl]
  · show (if b = h.1 + 1 then _ else _) = _
    rw [if_neg (by omega)]
theorem w_putF {y : YI} {G : GT} {pc nx : Nat} {ls : List (Option Value)} {st : List Value} {h : HS} {k n : Nat} {ix ci j a : Nat} {ty : FieldType} {fs : List Value} {v : Value} (fs' : List Value) (d : Dc y pc (.putfield ix) 3 nx) (fl : FL (yN y).cls ix ci j true ty) (hin : (yN y).name = "<init>") (hcl : ∀ r, kcl[ci]? = some r → r.1 = (yN y).cls) (h1 : 1 ≤ a) (h2 : a ≤ h.1) (hc : h.2 a = .inr (ci, fs)) (hl0 : j < fs.length) (hn : ∀ E, narrow ty (trv E v) = trv E v) (hfit : ∀ E, fits ty (trv E v) = true) (hfs : fs.set j v = fs') (K : ∀ h' : HS, h'.1 = h.1 → h'.2 a = .inr (ci, fs') → (∀ b, b ≠ a → h'.2 b = h.2 b) → xj y G nx ls st h' k n) : xj y G pc ls (v :: .ref a :: st) h k n := by
  refine x_putF d fl hin hcl h1 h2 hc hl0 hn hfit (K _ rfl ?_ (fun b hb => ?_))
  · show (if a = a then _ else _) = _
    rw [if_pos rfl, hfs]
  · show (if b = a then _ else _) = _
    rw [if_neg hb]
theorem w_put {y : YI} {G : GT} {pc nx : Nat} {ls : List (Option Value)} {st : List Value} {h : HS} {k n : Nat} {ix ci j a : Nat} {ty : FieldType} {fs : List Value} {v : Value} (fs' : List Value) (d : Dc y pc (.putfield ix) 3 nx) (fl : FL (yN y).cls ix ci j false ty) (h1 : 1 ≤ a) (h2 : a ≤ h.1) (hc : h.2 a = .inr (ci, fs)) (hl0 : j < fs.length) (hn : ∀ E, narrow ty (trv E v) = trv E v) (hfit : ∀ E, fits ty (trv E v) = true) (hfs : fs.set j v = fs') (K : ∀ h' : HS, h'.1 = h.1 → h'.2 a = .inr (ci, fs') → (∀ b, b ≠ a → h'.2 b = h.2 b) → xj y G nx ls st h' k n) : xj y G pc ls (v :: .ref a :: st) h k n := by
  refine x_putf d fl h1 h2 hc hl0 hn hfit (K _ rfl ?_ (fun b hb => ?_))
  · show (if a = a then _ else _) = _
    rw [if_pos rfl, hfs]
  · show (if b = a then _ else _) = _
    rw [if_neg hb]
theorem w_initN {y y' : YI} {G : GT} {pc nx : Nat} {ls ls0 : List (Option Value)} {st : List Value} {h : HS} {k n k' n' : Nat} {ix b : Nat} (d : Dc y pc (.invokespecial ix) 3 nx) (cf : CIN (yN y).cls ix y') (ok : YOK y' 0) (hT : yT y' = none) (rm : rmOk y y') (hlen : (entl [.ref b]).length ≤ yL y') (he : ent0 y' [.ref b] = ls0) (hst : (st.map fun v => v.category).sum ≤ 8) (b1 : 1 ≤ b) (hk : k + (yR y').cells = k') (hn : n + (yR y').slots = n') (hk2 : k' ≤ (yR y).cells) (hn2 : n' ≤ (yR y).slots)
    (K : xj y' (mG y' (fun r h' => xj y G nx ls (pushR r st) h' k' n')) 0 ls0 [] h 0 0) : xj y G pc ls (.ref b :: st) h k n :=
  x_callIN (As := []) d cf ok hT rm rfl hlen he hst b1 hk hn hk2 hn2 K
theorem w_init {y y' : YI} {G : GT} {pc nx : Nat} {ls ls0 : List (Option Value)} {st : List Value} {h : HS} {k n k' n' : Nat} {ix b : Nat} (d : Dc y pc (.invokespecial ix) 3 nx) (cf : CI (yN y).cls ix y') (ok : YOK y' 0) (hT : yT y' = none) (rm : rmOk y y') (hlen : (entl [.ref b]).length ≤ yL y') (he : ent0 y' [.ref b] = ls0) (hst : (st.map fun v => v.category).sum ≤ 8) (b1 : 1 ≤ b) (hk : k + (yR y').cells = k') (hn : n + (yR y').slots = n') (hk2 : k' ≤ (yR y).cells) (hn2 : n' ≤ (yR y).slots)
    (K : xj y' (mG y' (fun r h' => xj y G nx ls (pushR r st) h' k' n')) 0 ls0 [] h 0 0) : xj y G pc ls (.ref b :: st) h k n :=
  x_callI (As := []) d cf ok hT rm rfl hlen he hst b1 hk hn hk2 hn2 K
theorem i_Text {Po : Option Value → HS → Prop} {h : HS} {N : Nat} (hN : h.1 = N) (h0 : 1 ≤ N) (hc : h.2 N = .inr (6, [.null, .int 0])) (hq : ∀ h' : HS, h'.1 = N + 1 → h'.2 N = .inr (6, [.ref (N + 1), .int 0]) → h'.2 (N + 1) = cAi 32 → (∀ b, b < N → h'.2 b = h.2 b) → Po none h') : xj yText_init (mG yText_init Po) 0 [some (.ref N)] [] h 0 0 := by
  refine x_aload_0 cText_init_0 ?_
  refine x_objInit cText_init_1 kText_3 (Nat.le_of_ble_eq_true rfl) (Nat.le_of_ble_eq_true rfl) ?_
  refine x_aload_0 cText_init_4 ?_
  refine x_bipush 32 (by decide) cText_init_5 ?_
  refine w_newI (N + 1) cText_init_7 (by omega) (by decide) (N := 32) (by decide) (Nat.le_of_ble_eq_true rfl) rfl rfl (Nat.le_of_ble_eq_true rfl) (Nat.le_of_ble_eq_true rfl) (fun h1 e1 o1 f1 => ?_)
  have c1 : h1.2 N = .inr (6, [.null, .int 0]) := (f1 _ (by omega)).trans hc
  refine w_putF [.ref (N + 1), .int 0] cText_init_9 fText_9 rfl (fun r z => by cases z; rfl) (by omega) (by omega) c1 (Nat.le_of_ble_eq_true rfl) (fun E => rfl) (fun E => rfl) rfl (fun h2 e2 o2 f2 => ?_)
  refine x_return cText_init_12 rfl (Nat.le_of_ble_eq_true rfl) (Nat.le_of_ble_eq_true rfl) ?_
  exact hq h2 (by omega) o2 (by rw [f2 _ (by omega)]; exact o1) (fun b hb => by rw [f2 b (by omega), f1 b (by omega)])
theorem i_Line {Po : Option Value → HS → Prop} {h : HS} {N : Nat} (hN : h.1 = N) (h0 : 1 ≤ N) (hc : h.2 N = .inr (2, [.int 0, .int 0, .int 0, .int 0, .int 0, .null, .null, .null])) (hq : ∀ h' : HS, h'.1 = N + 3 → h'.2 N = .inr (2, [.int 0, .int 0, .int 0, .int 0, .int 1, .ref (N + 1), .ref (N + 2), .ref (N + 3)]) → h'.2 (N + 1) = cAi 5 → h'.2 (N + 2) = cAi 5 → h'.2 (N + 3) = cAi 5 → (∀ b, b < N → h'.2 b = h.2 b) → Po none h') : xj yLine_init (mG yLine_init Po) 0 [some (.ref N)] [] h 0 0 := by
  refine x_aload_0 cLine_init_0 ?_
  refine x_objInit cLine_init_1 kLine_3 (Nat.le_of_ble_eq_true rfl) (Nat.le_of_ble_eq_true rfl) ?_
  refine x_aload_0 cLine_init_4 ?_
  refine x_iconst 1 (by decide) cLine_init_5 ?_
  refine w_put [.int 0, .int 0, .int 0, .int 0, .int 1, .null, .null, .null] cLine_init_6 fLine_9 (by omega) (by omega) hc (Nat.le_of_ble_eq_true rfl) (fun E => rfl) (fun E => rfl) rfl (fun h1 e1 o1 f1 => ?_)
  refine x_aload_0 cLine_init_9 ?_
  refine x_iconst 5 (by decide) cLine_init_10 ?_
  refine w_newI (N + 1) cLine_init_11 (by omega) (by decide) (N := 5) (by decide) (Nat.le_of_ble_eq_true rfl) rfl rfl (Nat.le_of_ble_eq_true rfl) (Nat.le_of_ble_eq_true rfl) (fun h2 e2 o2 f2 => ?_)
  have c2 : h2.2 N = .inr (2, [.int 0, .int 0, .int 0, .int 0, .int 1, .null, .null, .null]) := (f2 _ (by omega)).trans o1
  refine w_putF [.int 0, .int 0, .int 0, .int 0, .int 1, .ref (N + 1), .null, .null] cLine_init_13 fLine_15 rfl (fun r z => by cases z; rfl) (by omega) (by omega) c2 (Nat.le_of_ble_eq_true rfl) (fun E => rfl) (fun E => rfl) rfl (fun h3 e3 o3 f3 => ?_)
  refine x_aload_0 cLine_init_16 ?_
  refine x_iconst 5 (by decide) cLine_init_17 ?_
  refine w_newI (N + 2) cLine_init_18 (by omega) (by decide) (N := 5) (by decide) (Nat.le_of_ble_eq_true rfl) rfl rfl (Nat.le_of_ble_eq_true rfl) (Nat.le_of_ble_eq_true rfl) (fun h4 e4 o4 f4 => ?_)
  have c4 : h4.2 N = .inr (2, [.int 0, .int 0, .int 0, .int 0, .int 1, .ref (N + 1), .null, .null]) := (f4 _ (by omega)).trans o3
  refine w_putF [.int 0, .int 0, .int 0, .int 0, .int 1, .ref (N + 1), .ref (N + 2), .null] cLine_init_20 fLine_19 rfl (fun r z => by cases z; rfl) (by omega) (by omega) c4 (Nat.le_of_ble_eq_true rfl) (fun E => rfl) (fun E => rfl) rfl (fun h5 e5 o5 f5 => ?_)
  refine x_aload_0 cLine_init_23 ?_
  refine x_iconst 5 (by decide) cLine_init_24 ?_
  refine w_newI (N + 3) cLine_init_25 (by omega) (by decide) (N := 5) (by decide) (Nat.le_of_ble_eq_true rfl) rfl rfl (Nat.le_of_ble_eq_true rfl) (Nat.le_of_ble_eq_true rfl) (fun h6 e6 o6 f6 => ?_)
  have c6 : h6.2 N = .inr (2, [.int 0, .int 0, .int 0, .int 0, .int 1, .ref (N + 1), .ref (N + 2), .null]) := (f6 _ (by omega)).trans o5
  refine w_putF [.int 0, .int 0, .int 0, .int 0, .int 1, .ref (N + 1), .ref (N + 2), .ref (N + 3)] cLine_init_27 fLine_22 rfl (fun r z => by cases z; rfl) (by omega) (by omega) c6 (Nat.le_of_ble_eq_true rfl) (fun E => rfl) (fun E => rfl) rfl (fun h7 e7 o7 f7 => ?_)
  refine x_return cLine_init_30 rfl (Nat.le_of_ble_eq_true rfl) (Nat.le_of_ble_eq_true rfl) ?_
  exact hq h7 (by omega) o7 (by rw [f7 _ (by omega), f6 _ (by omega), f5 _ (by omega), f4 _ (by omega), f3 _ (by omega)]; exact o2) (by rw [f7 _ (by omega), f6 _ (by omega), f5 _ (by omega)]; exact o4) (by rw [f7 _ (by omega)]; exact o6) (fun b hb => by rw [f7 b (by omega), f6 b (by omega), f5 b (by omega), f4 b (by omega), f3 b (by omega), f2 b (by omega), f1 b (by omega)])
theorem i_Flight {Po : Option Value → HS → Prop} {h : HS} {N : Nat} (hN : h.1 = N) (h0 : 1 ≤ N) (hc : h.2 N = .inr (1, [.null, .null, .int 0, .int 0])) (hq : ∀ h' : HS, h'.1 = N + 2 → h'.2 N = .inr (1, [.ref (N + 1), .ref (N + 2), .int 0, .int 0]) → h'.2 (N + 1) = cAi 5 → h'.2 (N + 2) = cAi 5 → (∀ b, b < N → h'.2 b = h.2 b) → Po none h') : xj yFlight_init (mG yFlight_init Po) 0 [some (.ref N)] [] h 0 0 := by
  refine x_aload_0 cFlight_init_0 ?_
  refine x_objInit cFlight_init_1 kFlight_3 (Nat.le_of_ble_eq_true rfl) (Nat.le_of_ble_eq_true rfl) ?_
  refine x_aload_0 cFlight_init_4 ?_
  refine x_iconst 5 (by decide) cFlight_init_5 ?_
  refine w_newI (N + 1) cFlight_init_6 (by omega) (by decide) (N := 5) (by decide) (Nat.le_of_ble_eq_true rfl) rfl rfl (Nat.le_of_ble_eq_true rfl) (Nat.le_of_ble_eq_true rfl) (fun h1 e1 o1 f1 => ?_)
  have c1 : h1.2 N = .inr (1, [.null, .null, .int 0, .int 0]) := (f1 _ (by omega)).trans hc
  refine w_putF [.ref (N + 1), .null, .int 0, .int 0] cFlight_init_8 fFlight_9 rfl (fun r z => by cases z; rfl) (by omega) (by omega) c1 (Nat.le_of_ble_eq_true rfl) (fun E => rfl) (fun E => rfl) rfl (fun h2 e2 o2 f2 => ?_)
  refine x_aload_0 cFlight_init_11 ?_
  refine x_iconst 5 (by decide) cFlight_init_12 ?_
  refine w_newI (N + 2) cFlight_init_13 (by omega) (by decide) (N := 5) (by decide) (Nat.le_of_ble_eq_true rfl) rfl rfl (Nat.le_of_ble_eq_true rfl) (Nat.le_of_ble_eq_true rfl) (fun h3 e3 o3 f3 => ?_)
  have c3 : h3.2 N = .inr (1, [.ref (N + 1), .null, .int 0, .int 0]) := (f3 _ (by omega)).trans o2
  refine w_putF [.ref (N + 1), .ref (N + 2), .int 0, .int 0] cFlight_init_15 fFlight_15 rfl (fun r z => by cases z; rfl) (by omega) (by omega) c3 (Nat.le_of_ble_eq_true rfl) (fun E => rfl) (fun E => rfl) rfl (fun h4 e4 o4 f4 => ?_)
  refine x_return cFlight_init_18 rfl (Nat.le_of_ble_eq_true rfl) (Nat.le_of_ble_eq_true rfl) ?_
  exact hq h4 (by omega) o4 (by rw [f4 _ (by omega), f3 _ (by omega), f2 _ (by omega)]; exact o1) (by rw [f4 _ (by omega)]; exact o3) (fun b hb => by rw [f4 b (by omega), f3 b (by omega), f2 b (by omega), f1 b (by omega)])
theorem i_Sightings {Po : Option Value → HS → Prop} {h : HS} {N : Nat} (hN : h.1 = N) (h0 : 1 ≤ N) (hc : h.2 N = .inr (4, [.null, .null, .int 0])) (hq : ∀ h' : HS, h'.1 = N + 2 → h'.2 N = .inr (4, [.ref (N + 1), .ref (N + 2), .int 0]) → h'.2 (N + 1) = cAi 6 → h'.2 (N + 2) = cAi 6 → (∀ b, b < N → h'.2 b = h.2 b) → Po none h') : xj ySightings_init (mG ySightings_init Po) 0 [some (.ref N)] [] h 0 0 := by
  refine x_aload_0 cSightings_init_0 ?_
  refine x_objInit cSightings_init_1 kSightings_3 (Nat.le_of_ble_eq_true rfl) (Nat.le_of_ble_eq_true rfl) ?_
  refine x_aload_0 cSightings_init_4 ?_
  refine x_bipush 6 (by decide) cSightings_init_5 ?_
  refine w_newI (N + 1) cSightings_init_7 (by omega) (by decide) (N := 6) (by decide) (Nat.le_of_ble_eq_true rfl) rfl rfl (Nat.le_of_ble_eq_true rfl) (Nat.le_of_ble_eq_true rfl) (fun h1 e1 o1 f1 => ?_)
  have c1 : h1.2 N = .inr (4, [.null, .null, .int 0]) := (f1 _ (by omega)).trans hc
  refine w_putF [.ref (N + 1), .null, .int 0] cSightings_init_9 fSightings_9 rfl (fun r z => by cases z; rfl) (by omega) (by omega) c1 (Nat.le_of_ble_eq_true rfl) (fun E => rfl) (fun E => rfl) rfl (fun h2 e2 o2 f2 => ?_)
  refine x_aload_0 cSightings_init_12 ?_
  refine x_bipush 6 (by decide) cSightings_init_13 ?_
  refine w_newI (N + 2) cSightings_init_15 (by omega) (by decide) (N := 6) (by decide) (Nat.le_of_ble_eq_true rfl) rfl rfl (Nat.le_of_ble_eq_true rfl) (Nat.le_of_ble_eq_true rfl) (fun h3 e3 o3 f3 => ?_)
  have c3 : h3.2 N = .inr (4, [.ref (N + 1), .null, .int 0]) := (f3 _ (by omega)).trans o2
  refine w_putF [.ref (N + 1), .ref (N + 2), .int 0] cSightings_init_17 fSightings_15 rfl (fun r z => by cases z; rfl) (by omega) (by omega) c3 (Nat.le_of_ble_eq_true rfl) (fun E => rfl) (fun E => rfl) rfl (fun h4 e4 o4 f4 => ?_)
  refine x_return cSightings_init_20 rfl (Nat.le_of_ble_eq_true rfl) (Nat.le_of_ble_eq_true rfl) ?_
  exact hq h4 (by omega) o4 (by rw [f4 _ (by omega), f3 _ (by omega), f2 _ (by omega)]; exact o1) (by rw [f4 _ (by omega)]; exact o3) (fun b hb => by rw [f4 b (by omega), f3 b (by omega), f2 b (by omega), f1 b (by omega)])
theorem i_Way {Po : Option Value → HS → Prop} {h : HS} {N : Nat} (hN : h.1 = N) (h0 : 1 ≤ N) (hc : h.2 N = .inr (7, [.null, .int 0, .int 0])) (hq : ∀ h' : HS, h'.1 = N + 1 → h'.2 N = .inr (7, [.ref (N + 1), .int 0, .int 0]) → h'.2 (N + 1) = cAi 5 → (∀ b, b < N → h'.2 b = h.2 b) → Po none h') : xj yWay_init (mG yWay_init Po) 0 [some (.ref N)] [] h 0 0 := by
  refine x_aload_0 cWay_init_0 ?_
  refine x_objInit cWay_init_1 kWay_3 (Nat.le_of_ble_eq_true rfl) (Nat.le_of_ble_eq_true rfl) ?_
  refine x_aload_0 cWay_init_4 ?_
  refine x_iconst 5 (by decide) cWay_init_5 ?_
  refine w_newI (N + 1) cWay_init_6 (by omega) (by decide) (N := 5) (by decide) (Nat.le_of_ble_eq_true rfl) rfl rfl (Nat.le_of_ble_eq_true rfl) (Nat.le_of_ble_eq_true rfl) (fun h1 e1 o1 f1 => ?_)
  have c1 : h1.2 N = .inr (7, [.null, .int 0, .int 0]) := (f1 _ (by omega)).trans hc
  refine w_putF [.ref (N + 1), .int 0, .int 0] cWay_init_8 fWay_9 rfl (fun r z => by cases z; rfl) (by omega) (by omega) c1 (Nat.le_of_ble_eq_true rfl) (fun E => rfl) (fun E => rfl) rfl (fun h2 e2 o2 f2 => ?_)
  refine x_return cWay_init_11 rfl (Nat.le_of_ble_eq_true rfl) (Nat.le_of_ble_eq_true rfl) ?_
  exact hq h2 (by omega) o2 (by rw [f2 _ (by omega)]; exact o1) (fun b hb => by rw [f2 b (by omega), f1 b (by omega)])
theorem i_Best {Po : Option Value → HS → Prop} {h : HS} {N : Nat} (hN : h.1 = N) (h0 : 1 ≤ N) (hc : h.2 N = .inr (0, [.int 0, .int 0])) (hq : ∀ h' : HS, h'.1 = N + 0 → h'.2 N = .inr (0, [.int (-9), .int (-9)]) → (∀ b, b < N → h'.2 b = h.2 b) → Po none h') : xj yBest_init (mG yBest_init Po) 0 [some (.ref N)] [] h 0 0 := by
  refine x_aload_0 cBest_init_0 ?_
  refine x_objInit cBest_init_1 kBest_3 (Nat.le_of_ble_eq_true rfl) (Nat.le_of_ble_eq_true rfl) ?_
  refine x_aload_0 cBest_init_4 ?_
  refine x_bipush (-9) (by decide) cBest_init_5 ?_
  refine w_put [.int (-9), .int 0] cBest_init_7 fBest_9 (by omega) (by omega) hc (Nat.le_of_ble_eq_true rfl) (fun E => rfl) (fun E => rfl) rfl (fun h1 e1 o1 f1 => ?_)
  refine x_aload_0 cBest_init_10 ?_
  refine x_bipush (-9) (by decide) cBest_init_11 ?_
  refine w_put [.int (-9), .int (-9)] cBest_init_13 fBest_15 (by omega) (by omega) o1 (Nat.le_of_ble_eq_true rfl) (fun E => rfl) (fun E => rfl) rfl (fun h2 e2 o2 f2 => ?_)
  refine x_return cBest_init_16 rfl (Nat.le_of_ble_eq_true rfl) (Nat.le_of_ble_eq_true rfl) ?_
  exact hq h2 (by omega) o2 (fun b hb => by rw [f2 b (by omega), f1 b (by omega)])
theorem i_Tally {Po : Option Value → HS → Prop} {h : HS} {N : Nat} (hN : h.1 = N) (h0 : 1 ≤ N) (hc : h.2 N = .inr (5, [.int 0, .int 0])) (hq : ∀ h' : HS, h'.1 = N + 0 → h'.2 N = .inr (5, [.int 0, .int (-9)]) → (∀ b, b < N → h'.2 b = h.2 b) → Po none h') : xj yTally_init (mG yTally_init Po) 0 [some (.ref N)] [] h 0 0 := by
  refine x_aload_0 cTally_init_0 ?_
  refine x_objInit cTally_init_1 kTally_3 (Nat.le_of_ble_eq_true rfl) (Nat.le_of_ble_eq_true rfl) ?_
  refine x_aload_0 cTally_init_4 ?_
  refine x_bipush (-9) (by decide) cTally_init_5 ?_
  refine w_put [.int 0, .int (-9)] cTally_init_7 fTally_9 (by omega) (by omega) hc (Nat.le_of_ble_eq_true rfl) (fun E => rfl) (fun E => rfl) rfl (fun h1 e1 o1 f1 => ?_)
  refine x_return cTally_init_10 rfl (Nat.le_of_ble_eq_true rfl) (Nat.le_of_ble_eq_true rfl) ?_
  exact hq h1 (by omega) o1 (fun b hb => by rw [f1 b (by omega)])
theorem i_newLines_loop {Po : Option Value → HS → Prop} {h : HS} {N m : Nat} (hm : m ≤ 14) (hq : ∀ (h' : HS) (f : Nat → Option Nat), h'.1 = N + 1 + 4 * m → h'.2 (N + 1) = .inl (2, (m, .inr (.inr (.inr (.inr f))))) → (∀ i, i < m → f i = some (N + 2 + 4 * i)) → (∀ i, i < m → h'.2 (N + 2 + 4 * i) = cLn (N + 2 + 4 * i) ∧ h'.2 (N + 2 + 4 * i + 1) = cAi 5 ∧ h'.2 (N + 2 + 4 * i + 2) = cAi 5 ∧ h'.2 (N + 2 + 4 * i + 3) = cAi 5) → (∀ b, b ≤ N → h'.2 b = h.2 b) → Po (some (.ref (N + 1))) h') : ∀ r i, i + r = m → ∀ (h' : HS) (f : Nat → Option Nat), h'.1 = N + 1 + 4 * i → h'.2 (N + 1) = .inl (2, (m, .inr (.inr (.inr (.inr f))))) → (∀ j, j < i → f j = some (N + 2 + 4 * j)) → (∀ j, j < i → h'.2 (N + 2 + 4 * j) = cLn (N + 2 + 4 * j) ∧ h'.2 (N + 2 + 4 * j + 1) = cAi 5 ∧ h'.2 (N + 2 + 4 * j + 2) = cAi 5 ∧ h'.2 (N + 2 + 4 * j + 3) = cAi 5) → (∀ b, b ≤ N → h'.2 b = h.2 b) → xj yK_newLines (mG yK_newLines Po) 11 [some (.int (nI m)), some (.ref (N + 1)), some (.int (nI i))] [] h' (1 + 4 * i) (m + 23 * i) := by
  intro r
  induction r with
  | zero =>
    intro i hi h' f e a0 a1 a2 fr
    obtain rfl : i = m := by omega
    refine x_iload_2 cK_newLines_11 ?_
    refine x_aload_1 cK_newLines_12 ?_
    refine x_alen (nI i) cK_newLines_13 (by omega) (by omega) (by decide) a0 rfl ?_
    refine x_icmp_ge cK_newLines_14 (fun _ => ?_) (fun q => absurd (Int32.le_refl _) q)
    refine x_aload_1 cK_newLines_33 ?_
    refine x_areturn cK_newLines_34 rfl (Or.inr ⟨_, rfl⟩) (Or.inr ⟨_, rfl⟩) (show 1 + 4 * i ≤ 57 by omega) (show i + 23 * i ≤ 336 by omega) ?_
    exact hq h' f e a0 a1 a2 fr
  | succ r ih =>
    intro i hi h' f e a0 a1 a2 fr
    have him : i < m := by omega
    refine x_iload_2 cK_newLines_11 ?_
    refine x_aload_1 cK_newLines_12 ?_
    refine x_alen (nI m) cK_newLines_13 (by omega) (by omega) (by decide) a0 rfl ?_
    refine x_icmp_ge cK_newLines_14 (fun q => absurd ((nI_leI (by omega) (by omega)).mp q) (by omega)) (fun _ => ?_)
    refine x_aload_1 cK_newLines_17 ?_
    refine x_iload_2 cK_newLines_18 ?_
    refine w_new (N + 2 + 4 * i) cK_newLines_19 wK_16 (by omega) (k' := 1 + 4 * i + 1) (n' := m + 23 * i + 8) rfl rfl (show 1 + 4 * i + 1 ≤ 57 by omega) (show m + 23 * i + 8 ≤ 336 by omega) (fun h1 e1 o1 f1 => ?_)
    refine x_dup rfl cK_newLines_22 ?_
    refine w_initN (ls0 := [some _]) cK_newLines_23 kK_18 okLine_init rfl ⟨(Nat.le_of_ble_eq_true rfl), (Nat.le_of_ble_eq_true rfl)⟩ (Nat.le_of_ble_eq_true rfl) rfl (Nat.le_of_ble_eq_true rfl) (by omega) (k' := 1 + 4 * i + 1 + 3) (n' := m + 23 * i + 8 + 15) rfl rfl (show 1 + 4 * i + 1 + 3 ≤ 57 by omega) (show m + 23 * i + 8 + 15 ≤ 336 by omega) ?_
    refine i_Line (N := N + 2 + 4 * i) e1 (by omega) o1 (fun h2 e2 b0 b1 b2 b3 f2 => ?_)
    dsimp only [pushR]
    have g0 : h2.2 (N + 1) = .inl (2, (m, .inr (.inr (.inr (.inr f))))) := by rw [f2 _ (by omega), f1 _ (by omega)]; exact a0
    refine x_aast cK_newLines_26 (by omega) (by omega) g0 (nI_in him (by omega)) (by omega) (by omega) b0 ?_
    rw [nI_clamp (by omega)]
    refine x_iinc_2 (nI (i + 1)) cK_newLines_27 rfl (nI_inc i) (Nat.le_of_ble_eq_true rfl) ?_
    refine x_goto cK_newLines_30 ?_
    have er : ∀ b, b ≠ N + 1 → (hset h2 (N + 1) (.inl (2, (m, .inr (.inr (.inr (.inr (va_up f i (some (N + 2 + 4 * i)))))))))).2 b = h2.2 b := fun b hb => by
      show (if b = N + 1 then _ else _) = _
      rw [if_neg hb]
    have fin := ih (i + 1) (by omega) (hset h2 (N + 1) (.inl (2, (m, .inr (.inr (.inr (.inr (va_up f i (some (N + 2 + 4 * i))))))))) ) (va_up f i (some (N + 2 + 4 * i))) (by show h2.1 = _; omega) (by show (if N + 1 = N + 1 then _ else _) = _; rw [if_pos rfl]) (fun j hj => ?_) (fun j hj => ?_) (fun b hb => ?_)
    · rw [show 1 + 4 * (i + 1) = 1 + 4 * i + 1 + 3 by omega, show m + 23 * (i + 1) = m + 23 * i + 8 + 15 by omega] at fin
      exact fin
    · unfold va_up
      by_cases q : j = i
      · subst q; simp
      · simp only [q, if_false]
        exact a1 j (by omega)
    · rw [er _ (by omega), er _ (by omega), er _ (by omega), er _ (by omega)]
      rcases Nat.lt_or_ge j i with q | q
      · rw [f2 _ (by omega), f2 _ (by omega), f2 _ (by omega), f2 _ (by omega), f1 _ (by omega), f1 _ (by omega), f1 _ (by omega), f1 _ (by omega)]
        exact a2 j q
      · obtain rfl : j = i := by omega
        exact ⟨b0, b1, b2, b3⟩
    · rw [er _ (by omega), f2 _ (by omega), f1 _ (by omega)]
      exact fr b hb
theorem i_newLines {Po : Option Value → HS → Prop} {h : HS} {N m : Nat} (hN : h.1 = N) (hm : m ≤ 14) (hq : ∀ (h' : HS) (f : Nat → Option Nat), h'.1 = N + 1 + 4 * m → h'.2 (N + 1) = .inl (2, (m, .inr (.inr (.inr (.inr f))))) → (∀ i, i < m → f i = some (N + 2 + 4 * i)) → (∀ i, i < m → h'.2 (N + 2 + 4 * i) = cLn (N + 2 + 4 * i) ∧ h'.2 (N + 2 + 4 * i + 1) = cAi 5 ∧ h'.2 (N + 2 + 4 * i + 2) = cAi 5 ∧ h'.2 (N + 2 + 4 * i + 3) = cAi 5) → (∀ b, b ≤ N → h'.2 b = h.2 b) → Po (some (.ref (N + 1))) h') : xj yK_newLines (mG yK_newLines Po) 0 [some (.int (nI m)), none, none] [] h 0 0 := by
  have e0 : (if (0 : Int32) < nI m then nI m else 0) = nI m := by
    by_cases q : (0 : Int32) < nI m
    · rw [if_pos q]
    · rw [if_neg q]
      rcases Nat.eq_zero_or_pos m with z | z
      · subst z; rfl
      · exact absurd ((nI_ltI (a := 0) (by decide) (by omega)).mpr z) q
  refine x_iconst 0 (by decide) cK_newLines_0 ?_
  refine x_iload_0 cK_newLines_1 ?_
  refine x_s2 (ls0 := [some _, some _]) cK_newLines_2 kK_320 okMath_max ⟨(Nat.le_of_ble_eq_true rfl), (Nat.le_of_ble_eq_true rfl)⟩ (Nat.le_of_ble_eq_true rfl) rfl (Nat.le_of_ble_eq_true rfl) rfl rfl (Nat.le_of_ble_eq_true rfl) (Nat.le_of_ble_eq_true rfl) ?_
  refine s_max ?_
  dsimp only [pushR]
  rw [e0]
  refine x_newL cK_newLines_5 (mT (i := 36) (by decide +kernel) rfl) (fun q => ?_) (nI_clamp (by omega)) (by omega) (k' := 1) (n' := m) rfl (Nat.zero_add m) (show 1 ≤ 57 by decide) (show m ≤ 336 by omega) ?_
  · rw [Int32.lt_iff_toInt_lt, nI_toInt (by omega), show (0 : Int32).toInt = 0 from by decide] at q
    omega
  refine x_astore_1 cK_newLines_8 rfl (Nat.le_of_ble_eq_true rfl) ?_
  refine x_iconst 0 (by decide) cK_newLines_9 ?_
  refine x_istore_2 cK_newLines_10 rfl (Nat.le_of_ble_eq_true rfl) ?_
  subst hN
  exact i_newLines_loop hm hq m 0 (by omega) _ _ rfl (by show (if h.1 + 1 = h.1 + 1 then _ else _) = _; rw [if_pos rfl]) (fun j hj => absurd hj (Nat.not_lt_zero j)) (fun j hj => absurd hj (Nat.not_lt_zero j)) (fun b hb => by show (if b = h.1 + 1 then _ else _) = _; rw [if_neg (by omega)])
