theorem i_Past {Po : Option Value → HS → Prop} {h : HS} {N : Nat} (hN : h.1 = N) (h0 : 1 ≤ N) (hc : h.2 N = .inr (3, [.null, .int 0])) (hq : ∀ (h' : HS) (f : Nat → Option Nat), h'.1 = N + 57 → h'.2 N = .inr (3, [.ref (N + 1), .int 0]) → h'.2 (N + 1) = .inl (2, (14, .inr (.inr (.inr (.inr f))))) → (∀ i, i < 14 → f i = some (N + 2 + 4 * i)) → (∀ i, i < 14 → h'.2 (N + 2 + 4 * i) = cLn (N + 2 + 4 * i) ∧ h'.2 (N + 2 + 4 * i + 1) = cAi 5 ∧ h'.2 (N + 2 + 4 * i + 2) = cAi 5 ∧ h'.2 (N + 2 + 4 * i + 3) = cAi 5) → (∀ b, b < N → h'.2 b = h.2 b) → Po none h') : xj yPast_init (mG yPast_init Po) 0 [some (.ref N)] [] h 0 0 := by
  refine x_aload_0 cPast_init_0 ?_
  refine x_objInit cPast_init_1 kPast_3 (Nat.le_of_ble_eq_true rfl) (Nat.le_of_ble_eq_true rfl) ?_
  refine x_aload_0 cPast_init_4 ?_
  refine x_bipush 14 (by decide) cPast_init_5 ?_
  refine x_callSN (As := [.int 14]) (ls0 := [some _, none, none]) cPast_init_7 kPast_9 okK_newLines ⟨(Nat.le_of_ble_eq_true rfl), (Nat.le_of_ble_eq_true rfl)⟩ rfl (Nat.le_of_ble_eq_true rfl) rfl (Nat.le_of_ble_eq_true rfl) rfl rfl (Nat.le_of_ble_eq_true rfl) (Nat.le_of_ble_eq_true rfl) ?_
  refine i_newLines (N := N) (m := 14) hN (by decide) (fun h1 f e1 a0 a1 a2 f1 => ?_)
  dsimp only [pushR]
  have c1 : h1.2 N = .inr (3, [.null, .int 0]) := (f1 _ (by omega)).trans hc
  refine w_putF [.ref (N + 1), .int 0] cPast_init_10 fPast_13 rfl (fun r z => by cases z; rfl) (by omega) (by omega) c1 (Nat.le_of_ble_eq_true rfl) (fun E => rfl) (fun E => rfl) rfl (fun h2 e2 o2 f2 => ?_)
  refine x_return cPast_init_13 rfl (Nat.le_of_ble_eq_true rfl) (Nat.le_of_ble_eq_true rfl) ?_
  refine hq h2 f (by omega) o2 (by rw [f2 _ (by omega)]; exact a0) a1 (fun i hi => ?_) (fun b hb => by rw [f2 b (by omega), f1 b (by omega)])
  rw [f2 _ (by omega), f2 _ (by omega), f2 _ (by omega), f2 _ (by omega)]
  exact a2 i hi
/-- the same up to what lies behind a row's end -/
def ceq (c c' : MC) : Prop := c = c' ∨ ∃ (n : Nat) (f f' : Nat → Option Nat), c = .inl (2, (n, .inr (.inr (.inr (.inr f))))) ∧ c' = .inl (2, (n, .inr (.inr (.inr (.inr f'))))) ∧ ∀ j, j < n → f j = f' j
theorem arrV_ext {cI : ClassId} {N : Nat} {f g : Nat → Value} (h : ∀ j, j < N → f j = g j) : arrV cI N f = arrV cI N g := by
  unfold arrV
  have : (fun j : Fin N => f j.val) = fun j : Fin N => g j.val := funext fun j => h j.val j.isLt
  rw [this]
theorem ceq_at {E : EV} {a : Nat} {c c' : MC} {H : Heap} (h : ceq c c') (hc : va_at E.2.2.1 kcl (a, trc E c') H) : va_at E.2.2.1 kcl (a, trc E c) H := by
  rcases h with rfl | ⟨n, f, f', rfl, rfl, hj⟩
  · exact hc
  · have hc : H[a]? = some (vp_cell (E.2.2.2 2) (n, .inr (.inr (.inr (.inr (fun j => (f' j).map (fun a => E.1 + a))))))) := hc
    show H[a]? = some (vp_cell (E.2.2.2 2) (n, .inr (.inr (.inr (.inr (fun j => (f j).map (fun a => E.1 + a)))))))
    rw [hc, vp_cell_q, vp_cell_q]
    congr 1
    exact arrV_ext fun j hj2 => by rw [hj j hj2]
theorem x_cong {y : YI} {G : GT} {pc : Nat} {ls : List (Option Value)} {st : List Value} {h h' : HS} {k n : Nat} (e : h.1 = h'.1) (hc : ∀ b, 1 ≤ b → b ≤ h.1 → ceq (h'.2 b) (h.2 b)) (K : xj y G pc ls st h' k n) : xj y G pc ls st h k n := by
  intro E p l e0 s m args below meth c H locs la C hH hS hl
  refine K E p l e0 s m args below meth c H locs la C ⟨fun j q hq => ?_, by rw [← e]; exact hH.2⟩ hS hl
  obtain ⟨hj, rfl⟩ := wl_at hq
  have h1 : (wl E h)[j]? = some (E.1 + (j + 1), trc E (h.2 (j + 1))) := wl_get (E := E) (h := h) (a := j + 1) (by omega) (by omega)
  exact ceq_at (hc (j + 1) (by omega) (by omega)) (hH.1 j _ h1)
def L0 : Nat → Int32 := fun j => if j = 4 then 1 else 0
def I0 : IT := fun a => if a = 4 then L0 else if a = 67 then L0 else if a = 71 then L0 else if a = 79 then L0 else if a = 88 then (fun _ => -9) else if a = 89 then (fun j => if j = 1 then -9 else 0) else if a = 90 then (fun j => if j = 5 then 1 else 0) else if (10 ≤ a ∧ a ≤ 62 ∧ a % 4 = 2) then L0 else fun _ => 0
def J0 : JT := fun _ => 0
def P0 : PT := fun a j => if a = 9 then 10 + 4 * j else 67 + 4 * j
theorem mk_row : ∀ i, i < 14 → mkc I0 J0 P0 (10 + 4 * i) = cLn (10 + 4 * i) ∧ mkc I0 J0 P0 (10 + 4 * i + 1) = cAi 5 ∧ mkc I0 J0 P0 (10 + 4 * i + 2) = cAi 5 ∧ mkc I0 J0 P0 (10 + 4 * i + 3) = cAi 5 := by
  intro i hi
  rcases (show i = 0 ∨ i = 1 ∨ i = 2 ∨ i = 3 ∨ i = 4 ∨ i = 5 ∨ i = 6 ∨ i = 7 ∨ i = 8 ∨ i = 9 ∨ i = 10 ∨ i = 11 ∨ i = 12 ∨ i = 13 by omega) with rfl | rfl | rfl | rfl | rfl | rfl | rfl | rfl | rfl | rfl | rfl | rfl | rfl | rfl <;> exact ⟨rfl, rfl, rfl, rfl⟩
theorem mk_kept : ∀ i, i < 2 → mkc I0 J0 P0 (67 + 4 * i) = cLn (67 + 4 * i) ∧ mkc I0 J0 P0 (67 + 4 * i + 1) = cAi 5 ∧ mkc I0 J0 P0 (67 + 4 * i + 2) = cAi 5 ∧ mkc I0 J0 P0 (67 + 4 * i + 3) = cAi 5 := by
  intro i hi
  rcases (show i = 0 ∨ i = 1 by omega) with rfl | rfl <;> exact ⟨rfl, rfl, rfl, rfl⟩
theorem i_K {Po : Option Value → HS → Prop} {h : HS} (hN : h.1 = 1) (hc : h.2 1 = .inr (8, [.null, .null, .null, .null, .null, .null, .long 0, .null, .null, .null, .null, .null])) (hq : ∀ h' : HS, h'.1 = 89 → (∀ b, 1 ≤ b → b ≤ 89 → ceq (h'.2 b) (mkc I0 J0 P0 b)) → Po none h') : xj yK_init (mG yK_init Po) 0 [some (.ref 1)] [] h 0 0 := by
  refine x_aload_0 cK_init_0 ?_
  refine x_objInit cK_init_1 kK_1 (Nat.le_of_ble_eq_true rfl) (Nat.le_of_ble_eq_true rfl) ?_
  refine x_aload_0 cK_init_4 ?_
  refine w_new 2 cK_init_5 wK_7 (by omega) rfl rfl (Nat.le_of_ble_eq_true rfl) (Nat.le_of_ble_eq_true rfl) (fun h1 e1 o1 f1 => ?_)
  have c1 : h1.2 1 = .inr (8, [.null, .null, .null, .null, .null, .null, .long 0, .null, .null, .null, .null, .null]) := (f1 _ (by omega)).trans hc
  refine x_dup rfl cK_init_8 ?_
  refine w_initN (ls0 := [some _]) cK_init_9 kK_9 okText_init rfl ⟨(Nat.le_of_ble_eq_true rfl), (Nat.le_of_ble_eq_true rfl)⟩ (Nat.le_of_ble_eq_true rfl) rfl (Nat.le_of_ble_eq_true rfl) (by omega) rfl rfl (Nat.le_of_ble_eq_true rfl) (Nat.le_of_ble_eq_true rfl) ?_
  refine i_Text (N := 2) (by omega) (by omega) o1 (fun h2 e2 a2_0 a2_1 f2 => ?_)
  dsimp only [pushR]
  have c2 : h2.2 1 = .inr (8, [.null, .null, .null, .null, .null, .null, .long 0, .null, .null, .null, .null, .null]) := (f2 _ (by omega)).trans c1
  refine w_putF [.ref 2, .null, .null, .null, .null, .null, .long 0, .null, .null, .null, .null, .null] cK_init_12 fK_10 rfl (fun r z => by cases z; rfl) (by omega) (by omega) c2 (Nat.le_of_ble_eq_true rfl) (fun E => rfl) (fun E => rfl) rfl (fun h3 e3 o3 f3 => ?_)
  refine x_aload_0 cK_init_15 ?_
  refine w_new 4 cK_init_16 wK_16 (by omega) rfl rfl (Nat.le_of_ble_eq_true rfl) (Nat.le_of_ble_eq_true rfl) (fun h4 e4 o4 f4 => ?_)
  have c4 : h4.2 1 = .inr (8, [.ref 2, .null, .null, .null, .null, .null, .long 0, .null, .null, .null, .null, .null]) := (f4 _ (by omega)).trans o3
  refine x_dup rfl cK_init_19 ?_
  refine w_initN (ls0 := [some _]) cK_init_20 kK_18 okLine_init rfl ⟨(Nat.le_of_ble_eq_true rfl), (Nat.le_of_ble_eq_true rfl)⟩ (Nat.le_of_ble_eq_true rfl) rfl (Nat.le_of_ble_eq_true rfl) (by omega) rfl rfl (Nat.le_of_ble_eq_true rfl) (Nat.le_of_ble_eq_true rfl) ?_
  refine i_Line (N := 4) (by omega) (by omega) o4 (fun h5 e5 a5_0 a5_1 a5_2 a5_3 f5 => ?_)
  dsimp only [pushR]
  have c5 : h5.2 1 = .inr (8, [.ref 2, .null, .null, .null, .null, .null, .long 0, .null, .null, .null, .null, .null]) := (f5 _ (by omega)).trans c4
  refine w_putF [.ref 2, .ref 4, .null, .null, .null, .null, .long 0, .null, .null, .null, .null, .null] cK_init_23 fK_19 rfl (fun r z => by cases z; rfl) (by omega) (by omega) c5 (Nat.le_of_ble_eq_true rfl) (fun E => rfl) (fun E => rfl) rfl (fun h6 e6 o6 f6 => ?_)
  refine x_aload_0 cK_init_26 ?_
  refine w_new 8 cK_init_27 wK_23 (by omega) rfl rfl (Nat.le_of_ble_eq_true rfl) (Nat.le_of_ble_eq_true rfl) (fun h7 e7 o7 f7 => ?_)
  have c7 : h7.2 1 = .inr (8, [.ref 2, .ref 4, .null, .null, .null, .null, .long 0, .null, .null, .null, .null, .null]) := (f7 _ (by omega)).trans o6
  refine x_dup rfl cK_init_30 ?_
  refine w_initN (ls0 := [some _]) cK_init_31 kK_25 okPast_init rfl ⟨(Nat.le_of_ble_eq_true rfl), (Nat.le_of_ble_eq_true rfl)⟩ (Nat.le_of_ble_eq_true rfl) rfl (Nat.le_of_ble_eq_true rfl) (by omega) rfl rfl (Nat.le_of_ble_eq_true rfl) (Nat.le_of_ble_eq_true rfl) ?_
  refine i_Past (N := 8) (by omega) (by omega) o7 (fun h8 g8 e8 a8_0 a8_1 a8_2 a8_3 f8 => ?_)
  dsimp only [pushR]
  have c8 : h8.2 1 = .inr (8, [.ref 2, .ref 4, .null, .null, .null, .null, .long 0, .null, .null, .null, .null, .null]) := (f8 _ (by omega)).trans c7
  refine w_putF [.ref 2, .ref 4, .ref 8, .null, .null, .null, .long 0, .null, .null, .null, .null, .null] cK_init_34 fK_26 rfl (fun r z => by cases z; rfl) (by omega) (by omega) c8 (Nat.le_of_ble_eq_true rfl) (fun E => rfl) (fun E => rfl) rfl (fun h9 e9 o9 f9 => ?_)
  refine x_aload_0 cK_init_37 ?_
  refine x_iconst 2 (by decide) cK_init_38 ?_
  refine x_callS (As := [.int 2]) (ls0 := [some _, none, none]) cK_init_39 kK_30 okK_newLines ⟨(Nat.le_of_ble_eq_true rfl), (Nat.le_of_ble_eq_true rfl)⟩ rfl (Nat.le_of_ble_eq_true rfl) rfl (Nat.le_of_ble_eq_true rfl) rfl rfl (Nat.le_of_ble_eq_true rfl) (Nat.le_of_ble_eq_true rfl) ?_
  refine i_newLines (N := 65) (m := 2) (by omega) (by decide) (fun h10 g10 e10 a10_1 a10_2 a10_3 f10 => ?_)
  dsimp only [pushR]
  have c10 : h10.2 1 = .inr (8, [.ref 2, .ref 4, .ref 8, .null, .null, .null, .long 0, .null, .null, .null, .null, .null]) := (f10 _ (by omega)).trans o9
  refine w_putF [.ref 2, .ref 4, .ref 8, .ref 66, .null, .null, .long 0, .null, .null, .null, .null, .null] cK_init_42 fK_34 rfl (fun r z => by cases z; rfl) (by omega) (by omega) c10 (Nat.le_of_ble_eq_true rfl) (fun E => rfl) (fun E => rfl) rfl (fun h11 e11 o11 f11 => ?_)
  refine x_aload_0 cK_init_45 ?_
  refine x_iconst 2 (by decide) cK_init_46 ?_
  refine w_newZ 75 cK_init_47 (by omega) (by decide) (N := 2) (by decide) (Nat.le_of_ble_eq_true rfl) rfl rfl (Nat.le_of_ble_eq_true rfl) (Nat.le_of_ble_eq_true rfl) (fun h12 e12 o12 f12 => ?_)
  have c12 : h12.2 1 = .inr (8, [.ref 2, .ref 4, .ref 8, .ref 66, .null, .null, .long 0, .null, .null, .null, .null, .null]) := (f12 _ (by omega)).trans o11
  refine w_putF [.ref 2, .ref 4, .ref 8, .ref 66, .ref 75, .null, .long 0, .null, .null, .null, .null, .null] cK_init_49 fK_38 rfl (fun r z => by cases z; rfl) (by omega) (by omega) c12 (Nat.le_of_ble_eq_true rfl) (fun E => rfl) (fun E => rfl) rfl (fun h13 e13 o13 f13 => ?_)
  refine x_aload_0 cK_init_52 ?_
  refine w_new 76 cK_init_53 wK_42 (by omega) rfl rfl (Nat.le_of_ble_eq_true rfl) (Nat.le_of_ble_eq_true rfl) (fun h14 e14 o14 f14 => ?_)
  have c14 : h14.2 1 = .inr (8, [.ref 2, .ref 4, .ref 8, .ref 66, .ref 75, .null, .long 0, .null, .null, .null, .null, .null]) := (f14 _ (by omega)).trans o13
  refine x_dup rfl cK_init_56 ?_
  refine w_initN (ls0 := [some _]) cK_init_57 kK_44 okSightings_init rfl ⟨(Nat.le_of_ble_eq_true rfl), (Nat.le_of_ble_eq_true rfl)⟩ (Nat.le_of_ble_eq_true rfl) rfl (Nat.le_of_ble_eq_true rfl) (by omega) rfl rfl (Nat.le_of_ble_eq_true rfl) (Nat.le_of_ble_eq_true rfl) ?_
  refine i_Sightings (N := 76) (by omega) (by omega) o14 (fun h15 e15 a15_0 a15_1 a15_2 f15 => ?_)
  dsimp only [pushR]
  have c15 : h15.2 1 = .inr (8, [.ref 2, .ref 4, .ref 8, .ref 66, .ref 75, .null, .long 0, .null, .null, .null, .null, .null]) := (f15 _ (by omega)).trans c14
  refine w_putF [.ref 2, .ref 4, .ref 8, .ref 66, .ref 75, .ref 76, .long 0, .null, .null, .null, .null, .null] cK_init_60 fK_45 rfl (fun r z => by cases z; rfl) (by omega) (by omega) c15 (Nat.le_of_ble_eq_true rfl) (fun E => rfl) (fun E => rfl) rfl (fun h16 e16 o16 f16 => ?_)
  refine x_aload_0 cK_init_63 ?_
  refine x_lconst 0 (by decide) cK_init_64 ?_
  refine w_put [.ref 2, .ref 4, .ref 8, .ref 66, .ref 75, .ref 76, .long 0, .null, .null, .null, .null, .null] cK_init_65 fK_49 (by omega) (by omega) o16 (Nat.le_of_ble_eq_true rfl) (fun E => rfl) (fun E => rfl) rfl (fun h17 e17 o17 f17 => ?_)
  refine x_aload_0 cK_init_68 ?_
  refine w_new 79 cK_init_69 wK_16 (by omega) rfl rfl (Nat.le_of_ble_eq_true rfl) (Nat.le_of_ble_eq_true rfl) (fun h18 e18 o18 f18 => ?_)
  have c18 : h18.2 1 = .inr (8, [.ref 2, .ref 4, .ref 8, .ref 66, .ref 75, .ref 76, .long 0, .null, .null, .null, .null, .null]) := (f18 _ (by omega)).trans o17
  refine x_dup rfl cK_init_72 ?_
  refine w_initN (ls0 := [some _]) cK_init_73 kK_18 okLine_init rfl ⟨(Nat.le_of_ble_eq_true rfl), (Nat.le_of_ble_eq_true rfl)⟩ (Nat.le_of_ble_eq_true rfl) rfl (Nat.le_of_ble_eq_true rfl) (by omega) rfl rfl (Nat.le_of_ble_eq_true rfl) (Nat.le_of_ble_eq_true rfl) ?_
  refine i_Line (N := 79) (by omega) (by omega) o18 (fun h19 e19 a19_0 a19_1 a19_2 a19_3 f19 => ?_)
  dsimp only [pushR]
  have c19 : h19.2 1 = .inr (8, [.ref 2, .ref 4, .ref 8, .ref 66, .ref 75, .ref 76, .long 0, .null, .null, .null, .null, .null]) := (f19 _ (by omega)).trans c18
  refine w_putF [.ref 2, .ref 4, .ref 8, .ref 66, .ref 75, .ref 76, .long 0, .ref 79, .null, .null, .null, .null] cK_init_76 fK_53 rfl (fun r z => by cases z; rfl) (by omega) (by omega) c19 (Nat.le_of_ble_eq_true rfl) (fun E => rfl) (fun E => rfl) rfl (fun h20 e20 o20 f20 => ?_)
  refine x_aload_0 cK_init_79 ?_
  refine w_new 83 cK_init_80 wK_56 (by omega) rfl rfl (Nat.le_of_ble_eq_true rfl) (Nat.le_of_ble_eq_true rfl) (fun h21 e21 o21 f21 => ?_)
  have c21 : h21.2 1 = .inr (8, [.ref 2, .ref 4, .ref 8, .ref 66, .ref 75, .ref 76, .long 0, .ref 79, .null, .null, .null, .null]) := (f21 _ (by omega)).trans o20
  refine x_dup rfl cK_init_83 ?_
  refine w_initN (ls0 := [some _]) cK_init_84 kK_58 okFlight_init rfl ⟨(Nat.le_of_ble_eq_true rfl), (Nat.le_of_ble_eq_true rfl)⟩ (Nat.le_of_ble_eq_true rfl) rfl (Nat.le_of_ble_eq_true rfl) (by omega) rfl rfl (Nat.le_of_ble_eq_true rfl) (Nat.le_of_ble_eq_true rfl) ?_
  refine i_Flight (N := 83) (by omega) (by omega) o21 (fun h22 e22 a22_0 a22_1 a22_2 f22 => ?_)
  dsimp only [pushR]
  have c22 : h22.2 1 = .inr (8, [.ref 2, .ref 4, .ref 8, .ref 66, .ref 75, .ref 76, .long 0, .ref 79, .null, .null, .null, .null]) := (f22 _ (by omega)).trans c21
  refine w_putF [.ref 2, .ref 4, .ref 8, .ref 66, .ref 75, .ref 76, .long 0, .ref 79, .ref 83, .null, .null, .null] cK_init_87 fK_59 rfl (fun r z => by cases z; rfl) (by omega) (by omega) c22 (Nat.le_of_ble_eq_true rfl) (fun E => rfl) (fun E => rfl) rfl (fun h23 e23 o23 f23 => ?_)
  refine x_aload_0 cK_init_90 ?_
  refine w_new 86 cK_init_91 wK_63 (by omega) rfl rfl (Nat.le_of_ble_eq_true rfl) (Nat.le_of_ble_eq_true rfl) (fun h24 e24 o24 f24 => ?_)
  have c24 : h24.2 1 = .inr (8, [.ref 2, .ref 4, .ref 8, .ref 66, .ref 75, .ref 76, .long 0, .ref 79, .ref 83, .null, .null, .null]) := (f24 _ (by omega)).trans o23
  refine x_dup rfl cK_init_94 ?_
  refine w_initN (ls0 := [some _]) cK_init_95 kK_65 okWay_init rfl ⟨(Nat.le_of_ble_eq_true rfl), (Nat.le_of_ble_eq_true rfl)⟩ (Nat.le_of_ble_eq_true rfl) rfl (Nat.le_of_ble_eq_true rfl) (by omega) rfl rfl (Nat.le_of_ble_eq_true rfl) (Nat.le_of_ble_eq_true rfl) ?_
  refine i_Way (N := 86) (by omega) (by omega) o24 (fun h25 e25 a25_0 a25_1 f25 => ?_)
  dsimp only [pushR]
  have c25 : h25.2 1 = .inr (8, [.ref 2, .ref 4, .ref 8, .ref 66, .ref 75, .ref 76, .long 0, .ref 79, .ref 83, .null, .null, .null]) := (f25 _ (by omega)).trans c24
  refine w_putF [.ref 2, .ref 4, .ref 8, .ref 66, .ref 75, .ref 76, .long 0, .ref 79, .ref 83, .ref 86, .null, .null] cK_init_98 fK_66 rfl (fun r z => by cases z; rfl) (by omega) (by omega) c25 (Nat.le_of_ble_eq_true rfl) (fun E => rfl) (fun E => rfl) rfl (fun h26 e26 o26 f26 => ?_)
  refine x_aload_0 cK_init_101 ?_
  refine w_new 88 cK_init_102 wK_70 (by omega) rfl rfl (Nat.le_of_ble_eq_true rfl) (Nat.le_of_ble_eq_true rfl) (fun h27 e27 o27 f27 => ?_)
  have c27 : h27.2 1 = .inr (8, [.ref 2, .ref 4, .ref 8, .ref 66, .ref 75, .ref 76, .long 0, .ref 79, .ref 83, .ref 86, .null, .null]) := (f27 _ (by omega)).trans o26
  refine x_dup rfl cK_init_105 ?_
  refine w_initN (ls0 := [some _]) cK_init_106 kK_72 okBest_init rfl ⟨(Nat.le_of_ble_eq_true rfl), (Nat.le_of_ble_eq_true rfl)⟩ (Nat.le_of_ble_eq_true rfl) rfl (Nat.le_of_ble_eq_true rfl) (by omega) rfl rfl (Nat.le_of_ble_eq_true rfl) (Nat.le_of_ble_eq_true rfl) ?_
  refine i_Best (N := 88) (by omega) (by omega) o27 (fun h28 e28 a28_0 f28 => ?_)
  dsimp only [pushR]
  have c28 : h28.2 1 = .inr (8, [.ref 2, .ref 4, .ref 8, .ref 66, .ref 75, .ref 76, .long 0, .ref 79, .ref 83, .ref 86, .null, .null]) := (f28 _ (by omega)).trans c27
  refine w_putF [.ref 2, .ref 4, .ref 8, .ref 66, .ref 75, .ref 76, .long 0, .ref 79, .ref 83, .ref 86, .ref 88, .null] cK_init_109 fK_73 rfl (fun r z => by cases z; rfl) (by omega) (by omega) c28 (Nat.le_of_ble_eq_true rfl) (fun E => rfl) (fun E => rfl) rfl (fun h29 e29 o29 f29 => ?_)
  refine x_aload_0 cK_init_112 ?_
  refine w_new 89 cK_init_113 wK_77 (by omega) rfl rfl (Nat.le_of_ble_eq_true rfl) (Nat.le_of_ble_eq_true rfl) (fun h30 e30 o30 f30 => ?_)
  have c30 : h30.2 1 = .inr (8, [.ref 2, .ref 4, .ref 8, .ref 66, .ref 75, .ref 76, .long 0, .ref 79, .ref 83, .ref 86, .ref 88, .null]) := (f30 _ (by omega)).trans o29
  refine x_dup rfl cK_init_116 ?_
  refine w_initN (ls0 := [some _]) cK_init_117 kK_79 okTally_init rfl ⟨(Nat.le_of_ble_eq_true rfl), (Nat.le_of_ble_eq_true rfl)⟩ (Nat.le_of_ble_eq_true rfl) rfl (Nat.le_of_ble_eq_true rfl) (by omega) rfl rfl (Nat.le_of_ble_eq_true rfl) (Nat.le_of_ble_eq_true rfl) ?_
  refine i_Tally (N := 89) (by omega) (by omega) o30 (fun h31 e31 a31_0 f31 => ?_)
  dsimp only [pushR]
  have c31 : h31.2 1 = .inr (8, [.ref 2, .ref 4, .ref 8, .ref 66, .ref 75, .ref 76, .long 0, .ref 79, .ref 83, .ref 86, .ref 88, .null]) := (f31 _ (by omega)).trans c30
  refine w_putF [.ref 2, .ref 4, .ref 8, .ref 66, .ref 75, .ref 76, .long 0, .ref 79, .ref 83, .ref 86, .ref 88, .ref 89] cK_init_120 fK_80 rfl (fun r z => by cases z; rfl) (by omega) (by omega) c31 (Nat.le_of_ble_eq_true rfl) (fun E => rfl) (fun E => rfl) rfl (fun h32 e32 o32 f32 => ?_)
  refine x_return cK_init_123 rfl (Nat.le_of_ble_eq_true rfl) (Nat.le_of_ble_eq_true rfl) ?_
  refine hq h32 (by omega) ?_
  have q1 : ceq (h32.2 1) (mkc I0 J0 P0 1) := Or.inl (o32.trans rfl)
  have F2 : ∀ b, 2 ≤ b → b < 4 → h32.2 b = h2.2 b := fun b b1 b2 => by rw [f32 b (by omega), f31 b (by omega), f30 b (by omega), f29 b (by omega), f28 b (by omega), f27 b (by omega), f26 b (by omega), f25 b (by omega), f24 b (by omega), f23 b (by omega), f22 b (by omega), f21 b (by omega), f20 b (by omega), f19 b (by omega), f18 b (by omega), f17 b (by omega), f16 b (by omega), f15 b (by omega), f14 b (by omega), f13 b (by omega), f12 b (by omega), f11 b (by omega), f10 b (by omega), f9 b (by omega), f8 b (by omega), f7 b (by omega), f6 b (by omega), f5 b (by omega), f4 b (by omega), f3 b (by omega)]
  have q2 : ceq (h32.2 2) (mkc I0 J0 P0 2) := Or.inl (((F2 2 (by omega) (by omega)).trans a2_0).trans rfl)
  have q3 : ceq (h32.2 3) (mkc I0 J0 P0 3) := Or.inl (((F2 3 (by omega) (by omega)).trans a2_1).trans rfl)
  have F5 : ∀ b, 4 ≤ b → b < 8 → h32.2 b = h5.2 b := fun b b1 b2 => by rw [f32 b (by omega), f31 b (by omega), f30 b (by omega), f29 b (by omega), f28 b (by omega), f27 b (by omega), f26 b (by omega), f25 b (by omega), f24 b (by omega), f23 b (by omega), f22 b (by omega), f21 b (by omega), f20 b (by omega), f19 b (by omega), f18 b (by omega), f17 b (by omega), f16 b (by omega), f15 b (by omega), f14 b (by omega), f13 b (by omega), f12 b (by omega), f11 b (by omega), f10 b (by omega), f9 b (by omega), f8 b (by omega), f7 b (by omega), f6 b (by omega)]
  have q4 : ceq (h32.2 4) (mkc I0 J0 P0 4) := Or.inl (((F5 4 (by omega) (by omega)).trans a5_0).trans rfl)
  have q5 : ceq (h32.2 5) (mkc I0 J0 P0 5) := Or.inl (((F5 5 (by omega) (by omega)).trans a5_1).trans rfl)
  have q6 : ceq (h32.2 6) (mkc I0 J0 P0 6) := Or.inl (((F5 6 (by omega) (by omega)).trans a5_2).trans rfl)
  have q7 : ceq (h32.2 7) (mkc I0 J0 P0 7) := Or.inl (((F5 7 (by omega) (by omega)).trans a5_3).trans rfl)
  have F8 : ∀ b, 8 ≤ b → b < 66 → h32.2 b = h8.2 b := fun b b1 b2 => by rw [f32 b (by omega), f31 b (by omega), f30 b (by omega), f29 b (by omega), f28 b (by omega), f27 b (by omega), f26 b (by omega), f25 b (by omega), f24 b (by omega), f23 b (by omega), f22 b (by omega), f21 b (by omega), f20 b (by omega), f19 b (by omega), f18 b (by omega), f17 b (by omega), f16 b (by omega), f15 b (by omega), f14 b (by omega), f13 b (by omega), f12 b (by omega), f11 b (by omega), f10 b (by omega), f9 b (by omega)]
  have q8 : ceq (h32.2 8) (mkc I0 J0 P0 8) := Or.inl (((F8 8 (by omega) (by omega)).trans a8_0).trans rfl)
  have q9 : ceq (h32.2 9) (mkc I0 J0 P0 9) := Or.inr ⟨14, g8, _, (F8 9 (by omega) (by omega)).trans a8_1, rfl, fun j hj => by rw [a8_2 j hj]; rfl⟩
  have qq9 : ∀ b, 10 ≤ b → b ≤ 65 → ceq (h32.2 b) (mkc I0 J0 P0 b) := by
    intro b b1 b2
    rw [F8 b (by omega) (by omega)]
    obtain ⟨i, hi, e⟩ : ∃ i, i < 14 ∧ (b = 10 + 4 * i ∨ b = 10 + 4 * i + 1 ∨ b = 10 + 4 * i + 2 ∨ b = 10 + 4 * i + 3) := ⟨(b - 10) / 4, by omega, by omega⟩
    obtain ⟨u0, u1, u2, u3⟩ := a8_3 i hi
    obtain ⟨v0, v1, v2, v3⟩ := mk_row i hi
    rcases e with rfl | rfl | rfl | rfl
    · exact Or.inl (u0.trans v0.symm)
    · exact Or.inl (u1.trans v1.symm)
    · exact Or.inl (u2.trans v2.symm)
    · exact Or.inl (u3.trans v3.symm)
  have F10 : ∀ b, 66 ≤ b → b < 75 → h32.2 b = h10.2 b := fun b b1 b2 => by rw [f32 b (by omega), f31 b (by omega), f30 b (by omega), f29 b (by omega), f28 b (by omega), f27 b (by omega), f26 b (by omega), f25 b (by omega), f24 b (by omega), f23 b (by omega), f22 b (by omega), f21 b (by omega), f20 b (by omega), f19 b (by omega), f18 b (by omega), f17 b (by omega), f16 b (by omega), f15 b (by omega), f14 b (by omega), f13 b (by omega), f12 b (by omega), f11 b (by omega)]
  have q66 : ceq (h32.2 66) (mkc I0 J0 P0 66) := Or.inr ⟨2, g10, _, (F10 66 (by omega) (by omega)).trans a10_1, rfl, fun j hj => by rw [a10_2 j hj]; rfl⟩
  have qq66 : ∀ b, 67 ≤ b → b ≤ 74 → ceq (h32.2 b) (mkc I0 J0 P0 b) := by
    intro b b1 b2
    rw [F10 b (by omega) (by omega)]
    obtain ⟨i, hi, e⟩ : ∃ i, i < 2 ∧ (b = 67 + 4 * i ∨ b = 67 + 4 * i + 1 ∨ b = 67 + 4 * i + 2 ∨ b = 67 + 4 * i + 3) := ⟨(b - 67) / 4, by omega, by omega⟩
    obtain ⟨u0, u1, u2, u3⟩ := a10_3 i hi
    obtain ⟨v0, v1, v2, v3⟩ := mk_kept i hi
    rcases e with rfl | rfl | rfl | rfl
    · exact Or.inl (u0.trans v0.symm)
    · exact Or.inl (u1.trans v1.symm)
    · exact Or.inl (u2.trans v2.symm)
    · exact Or.inl (u3.trans v3.symm)
  have F12 : ∀ b, 75 ≤ b → b < 76 → h32.2 b = h12.2 b := fun b b1 b2 => by rw [f32 b (by omega), f31 b (by omega), f30 b (by omega), f29 b (by omega), f28 b (by omega), f27 b (by omega), f26 b (by omega), f25 b (by omega), f24 b (by omega), f23 b (by omega), f22 b (by omega), f21 b (by omega), f20 b (by omega), f19 b (by omega), f18 b (by omega), f17 b (by omega), f16 b (by omega), f15 b (by omega), f14 b (by omega), f13 b (by omega)]
  have q75 : ceq (h32.2 75) (mkc I0 J0 P0 75) := Or.inl (((F12 75 (by omega) (by omega)).trans o12).trans rfl)
  have F15 : ∀ b, 76 ≤ b → b < 79 → h32.2 b = h15.2 b := fun b b1 b2 => by rw [f32 b (by omega), f31 b (by omega), f30 b (by omega), f29 b (by omega), f28 b (by omega), f27 b (by omega), f26 b (by omega), f25 b (by omega), f24 b (by omega), f23 b (by omega), f22 b (by omega), f21 b (by omega), f20 b (by omega), f19 b (by omega), f18 b (by omega), f17 b (by omega), f16 b (by omega)]
  have q76 : ceq (h32.2 76) (mkc I0 J0 P0 76) := Or.inl (((F15 76 (by omega) (by omega)).trans a15_0).trans rfl)
  have q77 : ceq (h32.2 77) (mkc I0 J0 P0 77) := Or.inl (((F15 77 (by omega) (by omega)).trans a15_1).trans rfl)
  have q78 : ceq (h32.2 78) (mkc I0 J0 P0 78) := Or.inl (((F15 78 (by omega) (by omega)).trans a15_2).trans rfl)
  have F19 : ∀ b, 79 ≤ b → b < 83 → h32.2 b = h19.2 b := fun b b1 b2 => by rw [f32 b (by omega), f31 b (by omega), f30 b (by omega), f29 b (by omega), f28 b (by omega), f27 b (by omega), f26 b (by omega), f25 b (by omega), f24 b (by omega), f23 b (by omega), f22 b (by omega), f21 b (by omega), f20 b (by omega)]
  have q79 : ceq (h32.2 79) (mkc I0 J0 P0 79) := Or.inl (((F19 79 (by omega) (by omega)).trans a19_0).trans rfl)
  have q80 : ceq (h32.2 80) (mkc I0 J0 P0 80) := Or.inl (((F19 80 (by omega) (by omega)).trans a19_1).trans rfl)
  have q81 : ceq (h32.2 81) (mkc I0 J0 P0 81) := Or.inl (((F19 81 (by omega) (by omega)).trans a19_2).trans rfl)
  have q82 : ceq (h32.2 82) (mkc I0 J0 P0 82) := Or.inl (((F19 82 (by omega) (by omega)).trans a19_3).trans rfl)
  have F22 : ∀ b, 83 ≤ b → b < 86 → h32.2 b = h22.2 b := fun b b1 b2 => by rw [f32 b (by omega), f31 b (by omega), f30 b (by omega), f29 b (by omega), f28 b (by omega), f27 b (by omega), f26 b (by omega), f25 b (by omega), f24 b (by omega), f23 b (by omega)]
  have q83 : ceq (h32.2 83) (mkc I0 J0 P0 83) := Or.inl (((F22 83 (by omega) (by omega)).trans a22_0).trans rfl)
  have q84 : ceq (h32.2 84) (mkc I0 J0 P0 84) := Or.inl (((F22 84 (by omega) (by omega)).trans a22_1).trans rfl)
  have q85 : ceq (h32.2 85) (mkc I0 J0 P0 85) := Or.inl (((F22 85 (by omega) (by omega)).trans a22_2).trans rfl)
  have F25 : ∀ b, 86 ≤ b → b < 88 → h32.2 b = h25.2 b := fun b b1 b2 => by rw [f32 b (by omega), f31 b (by omega), f30 b (by omega), f29 b (by omega), f28 b (by omega), f27 b (by omega), f26 b (by omega)]
  have q86 : ceq (h32.2 86) (mkc I0 J0 P0 86) := Or.inl (((F25 86 (by omega) (by omega)).trans a25_0).trans rfl)
  have q87 : ceq (h32.2 87) (mkc I0 J0 P0 87) := Or.inl (((F25 87 (by omega) (by omega)).trans a25_1).trans rfl)
  have F28 : ∀ b, 88 ≤ b → b < 89 → h32.2 b = h28.2 b := fun b b1 b2 => by rw [f32 b (by omega), f31 b (by omega), f30 b (by omega), f29 b (by omega)]
  have q88 : ceq (h32.2 88) (mkc I0 J0 P0 88) := Or.inl (((F28 88 (by omega) (by omega)).trans a28_0).trans rfl)
  have F31 : ∀ b, 89 ≤ b → b < 90 → h32.2 b = h31.2 b := fun b b1 b2 => by rw [f32 b (by omega)]
  have q89 : ceq (h32.2 89) (mkc I0 J0 P0 89) := Or.inl (((F31 89 (by omega) (by omega)).trans a31_0).trans rfl)
  intro b b1 b2
  rcases (show b = 1 ∨ b = 2 ∨ b = 3 ∨ b = 4 ∨ b = 5 ∨ b = 6 ∨ b = 7 ∨ b = 8 ∨ b = 9 ∨ b = 66 ∨ b = 75 ∨ b = 76 ∨ b = 77 ∨ b = 78 ∨ b = 79 ∨ b = 80 ∨ b = 81 ∨ b = 82 ∨ b = 83 ∨ b = 84 ∨ b = 85 ∨ b = 86 ∨ b = 87 ∨ b = 88 ∨ b = 89 ∨ (10 ≤ b ∧ b ≤ 65) ∨ (67 ≤ b ∧ b ≤ 74) by omega) with rfl | rfl | rfl | rfl | rfl | rfl | rfl | rfl | rfl | rfl | rfl | rfl | rfl | rfl | rfl | rfl | rfl | rfl | rfl | rfl | rfl | rfl | rfl | rfl | rfl | ⟨z1, z2⟩ | ⟨z1, z2⟩
  · exact q1
  · exact q2
  · exact q3
  · exact q4
  · exact q5
  · exact q6
  · exact q7
  · exact q8
  · exact q9
  · exact q66
  · exact q75
  · exact q76
  · exact q77
  · exact q78
  · exact q79
  · exact q80
  · exact q81
  · exact q82
  · exact q83
  · exact q84
  · exact q85
  · exact q86
  · exact q87
  · exact q88
  · exact q89
  · exact qq9 b z1 z2
  · exact qq66 b z1 z2
theorem i_M {Po : Option Value → HS → Prop} {h : HS} (hN : h.1 = 90) (hc : h.2 90 = .inr (9, [.int 0, .null, .int 0, .int 0, .int 0, .int 0, .null, .int 0, .int 0, .int 0, .int 0, .int 0, .null, .null, .null, .null, .null, .null, .int 0, .null, .null, .int 0, .null, .null, .long 0, .null, .null, .null, .null, .int 0, .int 0, .int 0, .int 0, .int 0, .int 0, .int 0, .int 0, .null])) (hq : ∀ h' : HS, h'.1 = 107 → (∀ b, 90 ≤ b → b ≤ 107 → ceq (h'.2 b) (mkc I0 J0 P0 b)) → (∀ b, b < 90 → h'.2 b = h.2 b) → Po none h') : xj yM_init (mG yM_init Po) 0 [some (.ref 90)] [] h 0 0 := by
  refine x_aload_0 cM_init_0 ?_
  refine x_objInit cM_init_1 kM_1 (Nat.le_of_ble_eq_true rfl) (Nat.le_of_ble_eq_true rfl) ?_
  refine x_aload_0 cM_init_4 ?_
  refine x_bipush 32 (by decide) cM_init_5 ?_
  refine w_newI (91) cM_init_7 (by omega) (by decide) (N := 32) (by decide) (Nat.le_of_ble_eq_true rfl) rfl rfl (Nat.le_of_ble_eq_true rfl) (Nat.le_of_ble_eq_true rfl) (fun h1 e1 o1 f1 => ?_)
  have c1 : h1.2 90 = .inr (9, [.int 0, .null, .int 0, .int 0, .int 0, .int 0, .null, .int 0, .int 0, .int 0, .int 0, .int 0, .null, .null, .null, .null, .null, .null, .int 0, .null, .null, .int 0, .null, .null, .long 0, .null, .null, .null, .null, .int 0, .int 0, .int 0, .int 0, .int 0, .int 0, .int 0, .int 0, .null]) := (f1 _ (by omega)).trans hc
  refine w_putF [.int 0, .ref (91), .int 0, .int 0, .int 0, .int 0, .null, .int 0, .int 0, .int 0, .int 0, .int 0, .null, .null, .null, .null, .null, .null, .int 0, .null, .null, .int 0, .null, .null, .long 0, .null, .null, .null, .null, .int 0, .int 0, .int 0, .int 0, .int 0, .int 0, .int 0, .int 0, .null] cM_init_9 fM_7 rfl (fun r z => by cases z; rfl) (by omega) (by omega) c1 (Nat.le_of_ble_eq_true rfl) (fun E => rfl) (fun E => rfl) rfl (fun h2 e2 o2 f2 => ?_)
  refine x_aload_0 cM_init_12 ?_
  refine x_iconst 1 (by decide) cM_init_13 ?_
  refine w_put [.int 0, .ref (91), .int 0, .int 0, .int 0, .int 1, .null, .int 0, .int 0, .int 0, .int 0, .int 0, .null, .null, .null, .null, .null, .null, .int 0, .null, .null, .int 0, .null, .null, .long 0, .null, .null, .null, .null, .int 0, .int 0, .int 0, .int 0, .int 0, .int 0, .int 0, .int 0, .null] cM_init_14 fM_13 (by omega) (by omega) o2 (Nat.le_of_ble_eq_true rfl) (fun E => rfl) (fun E => rfl) rfl (fun h3 e3 o3 f3 => ?_)
  refine x_aload_0 cM_init_17 ?_
  refine x_iconst 5 (by decide) cM_init_18 ?_
  refine w_newI (92) cM_init_19 (by omega) (by decide) (N := 5) (by decide) (Nat.le_of_ble_eq_true rfl) rfl rfl (Nat.le_of_ble_eq_true rfl) (Nat.le_of_ble_eq_true rfl) (fun h4 e4 o4 f4 => ?_)
  have c4 : h4.2 90 = .inr (9, [.int 0, .ref (91), .int 0, .int 0, .int 0, .int 1, .null, .int 0, .int 0, .int 0, .int 0, .int 0, .null, .null, .null, .null, .null, .null, .int 0, .null, .null, .int 0, .null, .null, .long 0, .null, .null, .null, .null, .int 0, .int 0, .int 0, .int 0, .int 0, .int 0, .int 0, .int 0, .null]) := (f4 _ (by omega)).trans o3
  refine w_putF [.int 0, .ref (91), .int 0, .int 0, .int 0, .int 1, .ref (92), .int 0, .int 0, .int 0, .int 0, .int 0, .null, .null, .null, .null, .null, .null, .int 0, .null, .null, .int 0, .null, .null, .long 0, .null, .null, .null, .null, .int 0, .int 0, .int 0, .int 0, .int 0, .int 0, .int 0, .int 0, .null] cM_init_21 fM_17 rfl (fun r z => by cases z; rfl) (by omega) (by omega) c4 (Nat.le_of_ble_eq_true rfl) (fun E => rfl) (fun E => rfl) rfl (fun h5 e5 o5 f5 => ?_)
  refine x_aload_0 cM_init_24 ?_
  refine x_iconst 5 (by decide) cM_init_25 ?_
  refine w_newI (93) cM_init_26 (by omega) (by decide) (N := 5) (by decide) (Nat.le_of_ble_eq_true rfl) rfl rfl (Nat.le_of_ble_eq_true rfl) (Nat.le_of_ble_eq_true rfl) (fun h6 e6 o6 f6 => ?_)
  have c6 : h6.2 90 = .inr (9, [.int 0, .ref (91), .int 0, .int 0, .int 0, .int 1, .ref (92), .int 0, .int 0, .int 0, .int 0, .int 0, .null, .null, .null, .null, .null, .null, .int 0, .null, .null, .int 0, .null, .null, .long 0, .null, .null, .null, .null, .int 0, .int 0, .int 0, .int 0, .int 0, .int 0, .int 0, .int 0, .null]) := (f6 _ (by omega)).trans o5
  refine w_putF [.int 0, .ref (91), .int 0, .int 0, .int 0, .int 1, .ref (92), .int 0, .int 0, .int 0, .int 0, .int 0, .ref (93), .null, .null, .null, .null, .null, .int 0, .null, .null, .int 0, .null, .null, .long 0, .null, .null, .null, .null, .int 0, .int 0, .int 0, .int 0, .int 0, .int 0, .int 0, .int 0, .null] cM_init_28 fM_20 rfl (fun r z => by cases z; rfl) (by omega) (by omega) c6 (Nat.le_of_ble_eq_true rfl) (fun E => rfl) (fun E => rfl) rfl (fun h7 e7 o7 f7 => ?_)
  refine x_aload_0 cM_init_31 ?_
  refine x_iconst 5 (by decide) cM_init_32 ?_
  refine w_newI (94) cM_init_33 (by omega) (by decide) (N := 5) (by decide) (Nat.le_of_ble_eq_true rfl) rfl rfl (Nat.le_of_ble_eq_true rfl) (Nat.le_of_ble_eq_true rfl) (fun h8 e8 o8 f8 => ?_)
  have c8 : h8.2 90 = .inr (9, [.int 0, .ref (91), .int 0, .int 0, .int 0, .int 1, .ref (92), .int 0, .int 0, .int 0, .int 0, .int 0, .ref (93), .null, .null, .null, .null, .null, .int 0, .null, .null, .int 0, .null, .null, .long 0, .null, .null, .null, .null, .int 0, .int 0, .int 0, .int 0, .int 0, .int 0, .int 0, .int 0, .null]) := (f8 _ (by omega)).trans o7
  refine w_putF [.int 0, .ref (91), .int 0, .int 0, .int 0, .int 1, .ref (92), .int 0, .int 0, .int 0, .int 0, .int 0, .ref (93), .ref (94), .null, .null, .null, .null, .int 0, .null, .null, .int 0, .null, .null, .long 0, .null, .null, .null, .null, .int 0, .int 0, .int 0, .int 0, .int 0, .int 0, .int 0, .int 0, .null] cM_init_35 fM_23 rfl (fun r z => by cases z; rfl) (by omega) (by omega) c8 (Nat.le_of_ble_eq_true rfl) (fun E => rfl) (fun E => rfl) rfl (fun h9 e9 o9 f9 => ?_)
  refine x_aload_0 cM_init_38 ?_
  refine x_iconst 5 (by decide) cM_init_39 ?_
  refine w_newI (95) cM_init_40 (by omega) (by decide) (N := 5) (by decide) (Nat.le_of_ble_eq_true rfl) rfl rfl (Nat.le_of_ble_eq_true rfl) (Nat.le_of_ble_eq_true rfl) (fun h10 e10 o10 f10 => ?_)
  have c10 : h10.2 90 = .inr (9, [.int 0, .ref (91), .int 0, .int 0, .int 0, .int 1, .ref (92), .int 0, .int 0, .int 0, .int 0, .int 0, .ref (93), .ref (94), .null, .null, .null, .null, .int 0, .null, .null, .int 0, .null, .null, .long 0, .null, .null, .null, .null, .int 0, .int 0, .int 0, .int 0, .int 0, .int 0, .int 0, .int 0, .null]) := (f10 _ (by omega)).trans o9
  refine w_putF [.int 0, .ref (91), .int 0, .int 0, .int 0, .int 1, .ref (92), .int 0, .int 0, .int 0, .int 0, .int 0, .ref (93), .ref (94), .ref (95), .null, .null, .null, .int 0, .null, .null, .int 0, .null, .null, .long 0, .null, .null, .null, .null, .int 0, .int 0, .int 0, .int 0, .int 0, .int 0, .int 0, .int 0, .null] cM_init_42 fM_26 rfl (fun r z => by cases z; rfl) (by omega) (by omega) c10 (Nat.le_of_ble_eq_true rfl) (fun E => rfl) (fun E => rfl) rfl (fun h11 e11 o11 f11 => ?_)
  refine x_aload_0 cM_init_45 ?_
  refine x_bipush 13 (by decide) cM_init_46 ?_
  refine w_newI (96) cM_init_48 (by omega) (by decide) (N := 13) (by decide) (Nat.le_of_ble_eq_true rfl) rfl rfl (Nat.le_of_ble_eq_true rfl) (Nat.le_of_ble_eq_true rfl) (fun h12 e12 o12 f12 => ?_)
  have c12 : h12.2 90 = .inr (9, [.int 0, .ref (91), .int 0, .int 0, .int 0, .int 1, .ref (92), .int 0, .int 0, .int 0, .int 0, .int 0, .ref (93), .ref (94), .ref (95), .null, .null, .null, .int 0, .null, .null, .int 0, .null, .null, .long 0, .null, .null, .null, .null, .int 0, .int 0, .int 0, .int 0, .int 0, .int 0, .int 0, .int 0, .null]) := (f12 _ (by omega)).trans o11
  refine w_putF [.int 0, .ref (91), .int 0, .int 0, .int 0, .int 1, .ref (92), .int 0, .int 0, .int 0, .int 0, .int 0, .ref (93), .ref (94), .ref (95), .ref (96), .null, .null, .int 0, .null, .null, .int 0, .null, .null, .long 0, .null, .null, .null, .null, .int 0, .int 0, .int 0, .int 0, .int 0, .int 0, .int 0, .int 0, .null] cM_init_50 fM_29 rfl (fun r z => by cases z; rfl) (by omega) (by omega) c12 (Nat.le_of_ble_eq_true rfl) (fun E => rfl) (fun E => rfl) rfl (fun h13 e13 o13 f13 => ?_)
  refine x_aload_0 cM_init_53 ?_
  refine x_bipush 13 (by decide) cM_init_54 ?_
  refine w_newI (97) cM_init_56 (by omega) (by decide) (N := 13) (by decide) (Nat.le_of_ble_eq_true rfl) rfl rfl (Nat.le_of_ble_eq_true rfl) (Nat.le_of_ble_eq_true rfl) (fun h14 e14 o14 f14 => ?_)
  have c14 : h14.2 90 = .inr (9, [.int 0, .ref (91), .int 0, .int 0, .int 0, .int 1, .ref (92), .int 0, .int 0, .int 0, .int 0, .int 0, .ref (93), .ref (94), .ref (95), .ref (96), .null, .null, .int 0, .null, .null, .int 0, .null, .null, .long 0, .null, .null, .null, .null, .int 0, .int 0, .int 0, .int 0, .int 0, .int 0, .int 0, .int 0, .null]) := (f14 _ (by omega)).trans o13
  refine w_putF [.int 0, .ref (91), .int 0, .int 0, .int 0, .int 1, .ref (92), .int 0, .int 0, .int 0, .int 0, .int 0, .ref (93), .ref (94), .ref (95), .ref (96), .ref (97), .null, .int 0, .null, .null, .int 0, .null, .null, .long 0, .null, .null, .null, .null, .int 0, .int 0, .int 0, .int 0, .int 0, .int 0, .int 0, .int 0, .null] cM_init_58 fM_32 rfl (fun r z => by cases z; rfl) (by omega) (by omega) c14 (Nat.le_of_ble_eq_true rfl) (fun E => rfl) (fun E => rfl) rfl (fun h15 e15 o15 f15 => ?_)
  refine x_aload_0 cM_init_61 ?_
  refine x_sipush 182 (by decide) cM_init_62 ?_
  refine w_newI (98) cM_init_65 (by omega) (by decide) (N := 182) (by decide) (Nat.le_of_ble_eq_true rfl) rfl rfl (Nat.le_of_ble_eq_true rfl) (Nat.le_of_ble_eq_true rfl) (fun h16 e16 o16 f16 => ?_)
  have c16 : h16.2 90 = .inr (9, [.int 0, .ref (91), .int 0, .int 0, .int 0, .int 1, .ref (92), .int 0, .int 0, .int 0, .int 0, .int 0, .ref (93), .ref (94), .ref (95), .ref (96), .ref (97), .null, .int 0, .null, .null, .int 0, .null, .null, .long 0, .null, .null, .null, .null, .int 0, .int 0, .int 0, .int 0, .int 0, .int 0, .int 0, .int 0, .null]) := (f16 _ (by omega)).trans o15
  refine w_putF [.int 0, .ref (91), .int 0, .int 0, .int 0, .int 1, .ref (92), .int 0, .int 0, .int 0, .int 0, .int 0, .ref (93), .ref (94), .ref (95), .ref (96), .ref (97), .ref (98), .int 0, .null, .null, .int 0, .null, .null, .long 0, .null, .null, .null, .null, .int 0, .int 0, .int 0, .int 0, .int 0, .int 0, .int 0, .int 0, .null] cM_init_67 fM_35 rfl (fun r z => by cases z; rfl) (by omega) (by omega) c16 (Nat.le_of_ble_eq_true rfl) (fun E => rfl) (fun E => rfl) rfl (fun h17 e17 o17 f17 => ?_)
  refine x_aload_0 cM_init_70 ?_
  refine x_bipush 26 (by decide) cM_init_71 ?_
  refine w_newI (99) cM_init_73 (by omega) (by decide) (N := 26) (by decide) (Nat.le_of_ble_eq_true rfl) rfl rfl (Nat.le_of_ble_eq_true rfl) (Nat.le_of_ble_eq_true rfl) (fun h18 e18 o18 f18 => ?_)
  have c18 : h18.2 90 = .inr (9, [.int 0, .ref (91), .int 0, .int 0, .int 0, .int 1, .ref (92), .int 0, .int 0, .int 0, .int 0, .int 0, .ref (93), .ref (94), .ref (95), .ref (96), .ref (97), .ref (98), .int 0, .null, .null, .int 0, .null, .null, .long 0, .null, .null, .null, .null, .int 0, .int 0, .int 0, .int 0, .int 0, .int 0, .int 0, .int 0, .null]) := (f18 _ (by omega)).trans o17
  refine w_putF [.int 0, .ref (91), .int 0, .int 0, .int 0, .int 1, .ref (92), .int 0, .int 0, .int 0, .int 0, .int 0, .ref (93), .ref (94), .ref (95), .ref (96), .ref (97), .ref (98), .int 0, .ref (99), .null, .int 0, .null, .null, .long 0, .null, .null, .null, .null, .int 0, .int 0, .int 0, .int 0, .int 0, .int 0, .int 0, .int 0, .null] cM_init_75 fM_38 rfl (fun r z => by cases z; rfl) (by omega) (by omega) c18 (Nat.le_of_ble_eq_true rfl) (fun E => rfl) (fun E => rfl) rfl (fun h19 e19 o19 f19 => ?_)
  refine x_aload_0 cM_init_78 ?_
  refine x_iconst 2 (by decide) cM_init_79 ?_
  refine w_newZ (100) cM_init_80 (by omega) (by decide) (N := 2) (by decide) (Nat.le_of_ble_eq_true rfl) rfl rfl (Nat.le_of_ble_eq_true rfl) (Nat.le_of_ble_eq_true rfl) (fun h20 e20 o20 f20 => ?_)
  have c20 : h20.2 90 = .inr (9, [.int 0, .ref (91), .int 0, .int 0, .int 0, .int 1, .ref (92), .int 0, .int 0, .int 0, .int 0, .int 0, .ref (93), .ref (94), .ref (95), .ref (96), .ref (97), .ref (98), .int 0, .ref (99), .null, .int 0, .null, .null, .long 0, .null, .null, .null, .null, .int 0, .int 0, .int 0, .int 0, .int 0, .int 0, .int 0, .int 0, .null]) := (f20 _ (by omega)).trans o19
  refine w_putF [.int 0, .ref (91), .int 0, .int 0, .int 0, .int 1, .ref (92), .int 0, .int 0, .int 0, .int 0, .int 0, .ref (93), .ref (94), .ref (95), .ref (96), .ref (97), .ref (98), .int 0, .ref (99), .ref (100), .int 0, .null, .null, .long 0, .null, .null, .null, .null, .int 0, .int 0, .int 0, .int 0, .int 0, .int 0, .int 0, .int 0, .null] cM_init_82 fM_41 rfl (fun r z => by cases z; rfl) (by omega) (by omega) c20 (Nat.le_of_ble_eq_true rfl) (fun E => rfl) (fun E => rfl) rfl (fun h21 e21 o21 f21 => ?_)
  refine x_aload_0 cM_init_85 ?_
  refine x_bipush 6 (by decide) cM_init_86 ?_
  refine w_newI (101) cM_init_88 (by omega) (by decide) (N := 6) (by decide) (Nat.le_of_ble_eq_true rfl) rfl rfl (Nat.le_of_ble_eq_true rfl) (Nat.le_of_ble_eq_true rfl) (fun h22 e22 o22 f22 => ?_)
  have c22 : h22.2 90 = .inr (9, [.int 0, .ref (91), .int 0, .int 0, .int 0, .int 1, .ref (92), .int 0, .int 0, .int 0, .int 0, .int 0, .ref (93), .ref (94), .ref (95), .ref (96), .ref (97), .ref (98), .int 0, .ref (99), .ref (100), .int 0, .null, .null, .long 0, .null, .null, .null, .null, .int 0, .int 0, .int 0, .int 0, .int 0, .int 0, .int 0, .int 0, .null]) := (f22 _ (by omega)).trans o21
  refine w_putF [.int 0, .ref (91), .int 0, .int 0, .int 0, .int 1, .ref (92), .int 0, .int 0, .int 0, .int 0, .int 0, .ref (93), .ref (94), .ref (95), .ref (96), .ref (97), .ref (98), .int 0, .ref (99), .ref (100), .int 0, .ref (101), .null, .long 0, .null, .null, .null, .null, .int 0, .int 0, .int 0, .int 0, .int 0, .int 0, .int 0, .int 0, .null] cM_init_90 fM_45 rfl (fun r z => by cases z; rfl) (by omega) (by omega) c22 (Nat.le_of_ble_eq_true rfl) (fun E => rfl) (fun E => rfl) rfl (fun h23 e23 o23 f23 => ?_)
  refine x_aload_0 cM_init_93 ?_
  refine x_bipush 6 (by decide) cM_init_94 ?_
  refine w_newI (102) cM_init_96 (by omega) (by decide) (N := 6) (by decide) (Nat.le_of_ble_eq_true rfl) rfl rfl (Nat.le_of_ble_eq_true rfl) (Nat.le_of_ble_eq_true rfl) (fun h24 e24 o24 f24 => ?_)
  have c24 : h24.2 90 = .inr (9, [.int 0, .ref (91), .int 0, .int 0, .int 0, .int 1, .ref (92), .int 0, .int 0, .int 0, .int 0, .int 0, .ref (93), .ref (94), .ref (95), .ref (96), .ref (97), .ref (98), .int 0, .ref (99), .ref (100), .int 0, .ref (101), .null, .long 0, .null, .null, .null, .null, .int 0, .int 0, .int 0, .int 0, .int 0, .int 0, .int 0, .int 0, .null]) := (f24 _ (by omega)).trans o23
  refine w_putF [.int 0, .ref (91), .int 0, .int 0, .int 0, .int 1, .ref (92), .int 0, .int 0, .int 0, .int 0, .int 0, .ref (93), .ref (94), .ref (95), .ref (96), .ref (97), .ref (98), .int 0, .ref (99), .ref (100), .int 0, .ref (101), .ref (102), .long 0, .null, .null, .null, .null, .int 0, .int 0, .int 0, .int 0, .int 0, .int 0, .int 0, .int 0, .null] cM_init_98 fM_48 rfl (fun r z => by cases z; rfl) (by omega) (by omega) c24 (Nat.le_of_ble_eq_true rfl) (fun E => rfl) (fun E => rfl) rfl (fun h25 e25 o25 f25 => ?_)
  refine x_aload_0 cM_init_101 ?_
  refine x_iconst 5 (by decide) cM_init_102 ?_
  refine w_newI (103) cM_init_103 (by omega) (by decide) (N := 5) (by decide) (Nat.le_of_ble_eq_true rfl) rfl rfl (Nat.le_of_ble_eq_true rfl) (Nat.le_of_ble_eq_true rfl) (fun h26 e26 o26 f26 => ?_)
  have c26 : h26.2 90 = .inr (9, [.int 0, .ref (91), .int 0, .int 0, .int 0, .int 1, .ref (92), .int 0, .int 0, .int 0, .int 0, .int 0, .ref (93), .ref (94), .ref (95), .ref (96), .ref (97), .ref (98), .int 0, .ref (99), .ref (100), .int 0, .ref (101), .ref (102), .long 0, .null, .null, .null, .null, .int 0, .int 0, .int 0, .int 0, .int 0, .int 0, .int 0, .int 0, .null]) := (f26 _ (by omega)).trans o25
  refine w_putF [.int 0, .ref (91), .int 0, .int 0, .int 0, .int 1, .ref (92), .int 0, .int 0, .int 0, .int 0, .int 0, .ref (93), .ref (94), .ref (95), .ref (96), .ref (97), .ref (98), .int 0, .ref (99), .ref (100), .int 0, .ref (101), .ref (102), .long 0, .ref (103), .null, .null, .null, .int 0, .int 0, .int 0, .int 0, .int 0, .int 0, .int 0, .int 0, .null] cM_init_105 fM_51 rfl (fun r z => by cases z; rfl) (by omega) (by omega) c26 (Nat.le_of_ble_eq_true rfl) (fun E => rfl) (fun E => rfl) rfl (fun h27 e27 o27 f27 => ?_)
  refine x_aload_0 cM_init_108 ?_
  refine x_iconst 5 (by decide) cM_init_109 ?_
  refine w_newI (104) cM_init_110 (by omega) (by decide) (N := 5) (by decide) (Nat.le_of_ble_eq_true rfl) rfl rfl (Nat.le_of_ble_eq_true rfl) (Nat.le_of_ble_eq_true rfl) (fun h28 e28 o28 f28 => ?_)
  have c28 : h28.2 90 = .inr (9, [.int 0, .ref (91), .int 0, .int 0, .int 0, .int 1, .ref (92), .int 0, .int 0, .int 0, .int 0, .int 0, .ref (93), .ref (94), .ref (95), .ref (96), .ref (97), .ref (98), .int 0, .ref (99), .ref (100), .int 0, .ref (101), .ref (102), .long 0, .ref (103), .null, .null, .null, .int 0, .int 0, .int 0, .int 0, .int 0, .int 0, .int 0, .int 0, .null]) := (f28 _ (by omega)).trans o27
  refine w_putF [.int 0, .ref (91), .int 0, .int 0, .int 0, .int 1, .ref (92), .int 0, .int 0, .int 0, .int 0, .int 0, .ref (93), .ref (94), .ref (95), .ref (96), .ref (97), .ref (98), .int 0, .ref (99), .ref (100), .int 0, .ref (101), .ref (102), .long 0, .ref (103), .ref (104), .null, .null, .int 0, .int 0, .int 0, .int 0, .int 0, .int 0, .int 0, .int 0, .null] cM_init_112 fM_54 rfl (fun r z => by cases z; rfl) (by omega) (by omega) c28 (Nat.le_of_ble_eq_true rfl) (fun E => rfl) (fun E => rfl) rfl (fun h29 e29 o29 f29 => ?_)
  refine x_aload_0 cM_init_115 ?_
  refine x_iconst 5 (by decide) cM_init_116 ?_
  refine w_newI (105) cM_init_117 (by omega) (by decide) (N := 5) (by decide) (Nat.le_of_ble_eq_true rfl) rfl rfl (Nat.le_of_ble_eq_true rfl) (Nat.le_of_ble_eq_true rfl) (fun h30 e30 o30 f30 => ?_)
  have c30 : h30.2 90 = .inr (9, [.int 0, .ref (91), .int 0, .int 0, .int 0, .int 1, .ref (92), .int 0, .int 0, .int 0, .int 0, .int 0, .ref (93), .ref (94), .ref (95), .ref (96), .ref (97), .ref (98), .int 0, .ref (99), .ref (100), .int 0, .ref (101), .ref (102), .long 0, .ref (103), .ref (104), .null, .null, .int 0, .int 0, .int 0, .int 0, .int 0, .int 0, .int 0, .int 0, .null]) := (f30 _ (by omega)).trans o29
  refine w_putF [.int 0, .ref (91), .int 0, .int 0, .int 0, .int 1, .ref (92), .int 0, .int 0, .int 0, .int 0, .int 0, .ref (93), .ref (94), .ref (95), .ref (96), .ref (97), .ref (98), .int 0, .ref (99), .ref (100), .int 0, .ref (101), .ref (102), .long 0, .ref (103), .ref (104), .ref (105), .null, .int 0, .int 0, .int 0, .int 0, .int 0, .int 0, .int 0, .int 0, .null] cM_init_119 fM_57 rfl (fun r z => by cases z; rfl) (by omega) (by omega) c30 (Nat.le_of_ble_eq_true rfl) (fun E => rfl) (fun E => rfl) rfl (fun h31 e31 o31 f31 => ?_)
  refine x_aload_0 cM_init_122 ?_
  refine x_iconst 5 (by decide) cM_init_123 ?_
  refine w_newI (106) cM_init_124 (by omega) (by decide) (N := 5) (by decide) (Nat.le_of_ble_eq_true rfl) rfl rfl (Nat.le_of_ble_eq_true rfl) (Nat.le_of_ble_eq_true rfl) (fun h32 e32 o32 f32 => ?_)
  have c32 : h32.2 90 = .inr (9, [.int 0, .ref (91), .int 0, .int 0, .int 0, .int 1, .ref (92), .int 0, .int 0, .int 0, .int 0, .int 0, .ref (93), .ref (94), .ref (95), .ref (96), .ref (97), .ref (98), .int 0, .ref (99), .ref (100), .int 0, .ref (101), .ref (102), .long 0, .ref (103), .ref (104), .ref (105), .null, .int 0, .int 0, .int 0, .int 0, .int 0, .int 0, .int 0, .int 0, .null]) := (f32 _ (by omega)).trans o31
  refine w_putF [.int 0, .ref (91), .int 0, .int 0, .int 0, .int 1, .ref (92), .int 0, .int 0, .int 0, .int 0, .int 0, .ref (93), .ref (94), .ref (95), .ref (96), .ref (97), .ref (98), .int 0, .ref (99), .ref (100), .int 0, .ref (101), .ref (102), .long 0, .ref (103), .ref (104), .ref (105), .ref (106), .int 0, .int 0, .int 0, .int 0, .int 0, .int 0, .int 0, .int 0, .null] cM_init_126 fM_60 rfl (fun r z => by cases z; rfl) (by omega) (by omega) c32 (Nat.le_of_ble_eq_true rfl) (fun E => rfl) (fun E => rfl) rfl (fun h33 e33 o33 f33 => ?_)
  refine x_aload_0 cM_init_129 ?_
  refine x_bipush 32 (by decide) cM_init_130 ?_
  refine w_newI (107) cM_init_132 (by omega) (by decide) (N := 32) (by decide) (Nat.le_of_ble_eq_true rfl) rfl rfl (Nat.le_of_ble_eq_true rfl) (Nat.le_of_ble_eq_true rfl) (fun h34 e34 o34 f34 => ?_)
  have c34 : h34.2 90 = .inr (9, [.int 0, .ref (91), .int 0, .int 0, .int 0, .int 1, .ref (92), .int 0, .int 0, .int 0, .int 0, .int 0, .ref (93), .ref (94), .ref (95), .ref (96), .ref (97), .ref (98), .int 0, .ref (99), .ref (100), .int 0, .ref (101), .ref (102), .long 0, .ref (103), .ref (104), .ref (105), .ref (106), .int 0, .int 0, .int 0, .int 0, .int 0, .int 0, .int 0, .int 0, .null]) := (f34 _ (by omega)).trans o33
  refine w_putF [.int 0, .ref (91), .int 0, .int 0, .int 0, .int 1, .ref (92), .int 0, .int 0, .int 0, .int 0, .int 0, .ref (93), .ref (94), .ref (95), .ref (96), .ref (97), .ref (98), .int 0, .ref (99), .ref (100), .int 0, .ref (101), .ref (102), .long 0, .ref (103), .ref (104), .ref (105), .ref (106), .int 0, .int 0, .int 0, .int 0, .int 0, .int 0, .int 0, .int 0, .ref (107)] cM_init_134 fM_63 rfl (fun r z => by cases z; rfl) (by omega) (by omega) c34 (Nat.le_of_ble_eq_true rfl) (fun E => rfl) (fun E => rfl) rfl (fun h35 e35 o35 f35 => ?_)
  refine x_return cM_init_137 rfl (Nat.le_of_ble_eq_true rfl) (Nat.le_of_ble_eq_true rfl) ?_
  refine hq h35 (by omega) ?_ (fun b hb => by rw [f35 b (by omega), f34 b (by omega), f33 b (by omega), f32 b (by omega), f31 b (by omega), f30 b (by omega), f29 b (by omega), f28 b (by omega), f27 b (by omega), f26 b (by omega), f25 b (by omega), f24 b (by omega), f23 b (by omega), f22 b (by omega), f21 b (by omega), f20 b (by omega), f19 b (by omega), f18 b (by omega), f17 b (by omega), f16 b (by omega), f15 b (by omega), f14 b (by omega), f13 b (by omega), f12 b (by omega), f11 b (by omega), f10 b (by omega), f9 b (by omega), f8 b (by omega), f7 b (by omega), f6 b (by omega), f5 b (by omega), f4 b (by omega), f3 b (by omega), f2 b (by omega), f1 b (by omega)])
  have q90 : ceq (h35.2 90) (mkc I0 J0 P0 90) := Or.inl (o35.trans rfl)
  have q91 : ceq (h35.2 91) (mkc I0 J0 P0 91) := Or.inl ((show h35.2 91 = cAi 32 by rw [f35 91 (by omega), f34 91 (by omega), f33 91 (by omega), f32 91 (by omega), f31 91 (by omega), f30 91 (by omega), f29 91 (by omega), f28 91 (by omega), f27 91 (by omega), f26 91 (by omega), f25 91 (by omega), f24 91 (by omega), f23 91 (by omega), f22 91 (by omega), f21 91 (by omega), f20 91 (by omega), f19 91 (by omega), f18 91 (by omega), f17 91 (by omega), f16 91 (by omega), f15 91 (by omega), f14 91 (by omega), f13 91 (by omega), f12 91 (by omega), f11 91 (by omega), f10 91 (by omega), f9 91 (by omega), f8 91 (by omega), f7 91 (by omega), f6 91 (by omega), f5 91 (by omega), f4 91 (by omega), f3 91 (by omega), f2 91 (by omega)]; exact o1).trans rfl)
  have q92 : ceq (h35.2 92) (mkc I0 J0 P0 92) := Or.inl ((show h35.2 92 = cAi 5 by rw [f35 92 (by omega), f34 92 (by omega), f33 92 (by omega), f32 92 (by omega), f31 92 (by omega), f30 92 (by omega), f29 92 (by omega), f28 92 (by omega), f27 92 (by omega), f26 92 (by omega), f25 92 (by omega), f24 92 (by omega), f23 92 (by omega), f22 92 (by omega), f21 92 (by omega), f20 92 (by omega), f19 92 (by omega), f18 92 (by omega), f17 92 (by omega), f16 92 (by omega), f15 92 (by omega), f14 92 (by omega), f13 92 (by omega), f12 92 (by omega), f11 92 (by omega), f10 92 (by omega), f9 92 (by omega), f8 92 (by omega), f7 92 (by omega), f6 92 (by omega), f5 92 (by omega)]; exact o4).trans rfl)
  have q93 : ceq (h35.2 93) (mkc I0 J0 P0 93) := Or.inl ((show h35.2 93 = cAi 5 by rw [f35 93 (by omega), f34 93 (by omega), f33 93 (by omega), f32 93 (by omega), f31 93 (by omega), f30 93 (by omega), f29 93 (by omega), f28 93 (by omega), f27 93 (by omega), f26 93 (by omega), f25 93 (by omega), f24 93 (by omega), f23 93 (by omega), f22 93 (by omega), f21 93 (by omega), f20 93 (by omega), f19 93 (by omega), f18 93 (by omega), f17 93 (by omega), f16 93 (by omega), f15 93 (by omega), f14 93 (by omega), f13 93 (by omega), f12 93 (by omega), f11 93 (by omega), f10 93 (by omega), f9 93 (by omega), f8 93 (by omega), f7 93 (by omega)]; exact o6).trans rfl)
  have q94 : ceq (h35.2 94) (mkc I0 J0 P0 94) := Or.inl ((show h35.2 94 = cAi 5 by rw [f35 94 (by omega), f34 94 (by omega), f33 94 (by omega), f32 94 (by omega), f31 94 (by omega), f30 94 (by omega), f29 94 (by omega), f28 94 (by omega), f27 94 (by omega), f26 94 (by omega), f25 94 (by omega), f24 94 (by omega), f23 94 (by omega), f22 94 (by omega), f21 94 (by omega), f20 94 (by omega), f19 94 (by omega), f18 94 (by omega), f17 94 (by omega), f16 94 (by omega), f15 94 (by omega), f14 94 (by omega), f13 94 (by omega), f12 94 (by omega), f11 94 (by omega), f10 94 (by omega), f9 94 (by omega)]; exact o8).trans rfl)
  have q95 : ceq (h35.2 95) (mkc I0 J0 P0 95) := Or.inl ((show h35.2 95 = cAi 5 by rw [f35 95 (by omega), f34 95 (by omega), f33 95 (by omega), f32 95 (by omega), f31 95 (by omega), f30 95 (by omega), f29 95 (by omega), f28 95 (by omega), f27 95 (by omega), f26 95 (by omega), f25 95 (by omega), f24 95 (by omega), f23 95 (by omega), f22 95 (by omega), f21 95 (by omega), f20 95 (by omega), f19 95 (by omega), f18 95 (by omega), f17 95 (by omega), f16 95 (by omega), f15 95 (by omega), f14 95 (by omega), f13 95 (by omega), f12 95 (by omega), f11 95 (by omega)]; exact o10).trans rfl)
  have q96 : ceq (h35.2 96) (mkc I0 J0 P0 96) := Or.inl ((show h35.2 96 = cAi 13 by rw [f35 96 (by omega), f34 96 (by omega), f33 96 (by omega), f32 96 (by omega), f31 96 (by omega), f30 96 (by omega), f29 96 (by omega), f28 96 (by omega), f27 96 (by omega), f26 96 (by omega), f25 96 (by omega), f24 96 (by omega), f23 96 (by omega), f22 96 (by omega), f21 96 (by omega), f20 96 (by omega), f19 96 (by omega), f18 96 (by omega), f17 96 (by omega), f16 96 (by omega), f15 96 (by omega), f14 96 (by omega), f13 96 (by omega)]; exact o12).trans rfl)
  have q97 : ceq (h35.2 97) (mkc I0 J0 P0 97) := Or.inl ((show h35.2 97 = cAi 13 by rw [f35 97 (by omega), f34 97 (by omega), f33 97 (by omega), f32 97 (by omega), f31 97 (by omega), f30 97 (by omega), f29 97 (by omega), f28 97 (by omega), f27 97 (by omega), f26 97 (by omega), f25 97 (by omega), f24 97 (by omega), f23 97 (by omega), f22 97 (by omega), f21 97 (by omega), f20 97 (by omega), f19 97 (by omega), f18 97 (by omega), f17 97 (by omega), f16 97 (by omega), f15 97 (by omega)]; exact o14).trans rfl)
  have q98 : ceq (h35.2 98) (mkc I0 J0 P0 98) := Or.inl ((show h35.2 98 = cAi 182 by rw [f35 98 (by omega), f34 98 (by omega), f33 98 (by omega), f32 98 (by omega), f31 98 (by omega), f30 98 (by omega), f29 98 (by omega), f28 98 (by omega), f27 98 (by omega), f26 98 (by omega), f25 98 (by omega), f24 98 (by omega), f23 98 (by omega), f22 98 (by omega), f21 98 (by omega), f20 98 (by omega), f19 98 (by omega), f18 98 (by omega), f17 98 (by omega)]; exact o16).trans rfl)
  have q99 : ceq (h35.2 99) (mkc I0 J0 P0 99) := Or.inl ((show h35.2 99 = cAi 26 by rw [f35 99 (by omega), f34 99 (by omega), f33 99 (by omega), f32 99 (by omega), f31 99 (by omega), f30 99 (by omega), f29 99 (by omega), f28 99 (by omega), f27 99 (by omega), f26 99 (by omega), f25 99 (by omega), f24 99 (by omega), f23 99 (by omega), f22 99 (by omega), f21 99 (by omega), f20 99 (by omega), f19 99 (by omega)]; exact o18).trans rfl)
  have q100 : ceq (h35.2 100) (mkc I0 J0 P0 100) := Or.inl ((show h35.2 100 = cAz 2 by rw [f35 100 (by omega), f34 100 (by omega), f33 100 (by omega), f32 100 (by omega), f31 100 (by omega), f30 100 (by omega), f29 100 (by omega), f28 100 (by omega), f27 100 (by omega), f26 100 (by omega), f25 100 (by omega), f24 100 (by omega), f23 100 (by omega), f22 100 (by omega), f21 100 (by omega)]; exact o20).trans rfl)
  have q101 : ceq (h35.2 101) (mkc I0 J0 P0 101) := Or.inl ((show h35.2 101 = cAi 6 by rw [f35 101 (by omega), f34 101 (by omega), f33 101 (by omega), f32 101 (by omega), f31 101 (by omega), f30 101 (by omega), f29 101 (by omega), f28 101 (by omega), f27 101 (by omega), f26 101 (by omega), f25 101 (by omega), f24 101 (by omega), f23 101 (by omega)]; exact o22).trans rfl)
  have q102 : ceq (h35.2 102) (mkc I0 J0 P0 102) := Or.inl ((show h35.2 102 = cAi 6 by rw [f35 102 (by omega), f34 102 (by omega), f33 102 (by omega), f32 102 (by omega), f31 102 (by omega), f30 102 (by omega), f29 102 (by omega), f28 102 (by omega), f27 102 (by omega), f26 102 (by omega), f25 102 (by omega)]; exact o24).trans rfl)
  have q103 : ceq (h35.2 103) (mkc I0 J0 P0 103) := Or.inl ((show h35.2 103 = cAi 5 by rw [f35 103 (by omega), f34 103 (by omega), f33 103 (by omega), f32 103 (by omega), f31 103 (by omega), f30 103 (by omega), f29 103 (by omega), f28 103 (by omega), f27 103 (by omega)]; exact o26).trans rfl)
  have q104 : ceq (h35.2 104) (mkc I0 J0 P0 104) := Or.inl ((show h35.2 104 = cAi 5 by rw [f35 104 (by omega), f34 104 (by omega), f33 104 (by omega), f32 104 (by omega), f31 104 (by omega), f30 104 (by omega), f29 104 (by omega)]; exact o28).trans rfl)
  have q105 : ceq (h35.2 105) (mkc I0 J0 P0 105) := Or.inl ((show h35.2 105 = cAi 5 by rw [f35 105 (by omega), f34 105 (by omega), f33 105 (by omega), f32 105 (by omega), f31 105 (by omega)]; exact o30).trans rfl)
  have q106 : ceq (h35.2 106) (mkc I0 J0 P0 106) := Or.inl ((show h35.2 106 = cAi 5 by rw [f35 106 (by omega), f34 106 (by omega), f33 106 (by omega)]; exact o32).trans rfl)
  have q107 : ceq (h35.2 107) (mkc I0 J0 P0 107) := Or.inl ((show h35.2 107 = cAi 32 by rw [f35 107 (by omega)]; exact o34).trans rfl)
  intro b b1 b2
  rcases (show b = 90 ∨ b = 91 ∨ b = 92 ∨ b = 93 ∨ b = 94 ∨ b = 95 ∨ b = 96 ∨ b = 97 ∨ b = 98 ∨ b = 99 ∨ b = 100 ∨ b = 101 ∨ b = 102 ∨ b = 103 ∨ b = 104 ∨ b = 105 ∨ b = 106 ∨ b = 107 by omega) with rfl | rfl | rfl | rfl | rfl | rfl | rfl | rfl | rfl | rfl | rfl | rfl | rfl | rfl | rfl | rfl | rfl | rfl
  · exact q90
  · exact q91
  · exact q92
  · exact q93
  · exact q94
  · exact q95
  · exact q96
  · exact q97
  · exact q98
  · exact q99
  · exact q100
  · exact q101
  · exact q102
  · exact q103
  · exact q104
  · exact q105
  · exact q106
  · exact q107
