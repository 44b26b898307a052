theorem rows0 : RowsOk P0 := ⟨fun j hj => ⟨j, hj, rfl⟩, fun i j _ _ e => by
  have e : 10 + 4 * i = 10 + 4 * j := e
  omega⟩
theorem inv0 : Inv I0 J0 P0 := by
  refine Inv.of ⟨0, by decide, rfl, rfl, fun j hj => absurd hj (Nat.not_lt_zero j), fun j hj => absurd hj (Nat.not_lt_zero j)⟩ ⟨0, by decide, rfl, rfl, rfl, rfl, rfl, rfl, fun k hk => absurd hk (Nat.not_lt_zero k), ?_, ?_, fun k hk => absurd hk (Nat.not_lt_zero k)⟩ ⟨0, by decide, rfl, rfl, fun j hj => absurd hj (Nat.not_lt_zero j)⟩ ⟨rows0, fun s _ => rfl⟩ (fun s hs => ⟨rfl, fun z => absurd rfl z⟩) ⟨0, by decide, rfl, rfl, fun r hr => absurd hr (Nat.not_lt_zero r)⟩ rfl
  · exact sm_0 (by decide)
  · exact sm_0 (by decide)
theorem ceq.sy {c c' : MC} (h : ceq c c') : ceq c' c := by
  rcases h with rfl | ⟨n, f, f', rfl, rfl, hj⟩
  · exact Or.inl rfl
  · exact Or.inr ⟨n, f', f, rfl, rfl, fun j q => (hj j q).symm⟩
theorem law_X {L : Nat} {xs : Nat → Int32} (hL : L ≤ 3072) : xj yLaw (GM L xs) 0 [some (.ref 0), none, none, none] [] (0, fun _ => cAi 0) 0 0 := by
  refine w_new 1 cLaw_0 wLaw_7 rfl rfl rfl (Nat.le_of_ble_eq_true rfl) (Nat.le_of_ble_eq_true rfl) (fun h1 e1 o1 f1 => ?_)
  refine x_dup rfl cLaw_3 ?_
  refine w_init (ls0 := [some _]) cLaw_4 kLaw_9 okK_init rfl ⟨(Nat.le_of_ble_eq_true rfl), (Nat.le_of_ble_eq_true rfl)⟩ (Nat.le_of_ble_eq_true rfl) rfl (Nat.le_of_ble_eq_true rfl) (by decide) rfl rfl (Nat.le_of_ble_eq_true rfl) (Nat.le_of_ble_eq_true rfl) ?_
  refine i_K e1 o1 (fun h2 e2 q2 => ?_)
  dsimp only [pushR]
  refine x_astore_1 cLaw_7 rfl (Nat.le_of_ble_eq_true rfl) ?_
  refine w_new 90 cLaw_8 wLaw_10 (by omega) rfl rfl (Nat.le_of_ble_eq_true rfl) (Nat.le_of_ble_eq_true rfl) (fun h3 e3 o3 f3 => ?_)
  refine x_dup rfl cLaw_11 ?_
  refine w_init (ls0 := [some _]) cLaw_12 kLaw_12 okM_init rfl ⟨(Nat.le_of_ble_eq_true rfl), (Nat.le_of_ble_eq_true rfl)⟩ (Nat.le_of_ble_eq_true rfl) rfl (Nat.le_of_ble_eq_true rfl) (by decide) rfl rfl (Nat.le_of_ble_eq_true rfl) (Nat.le_of_ble_eq_true rfl) ?_
  refine i_M e3 o3 (fun h4 e4 q4 f4 => ?_)
  dsimp only [pushR]
  refine x_astore_2 cLaw_15 rfl (Nat.le_of_ble_eq_true rfl) ?_
  refine x_iconst (nI (6 * 0)) (by decide) cLaw_16 ?_
  refine x_istore_3 cLaw_17 rfl (Nat.le_of_ble_eq_true rfl) ?_
  refine x_cong (h' := hp I0 J0 P0) e4 (fun b b1 b2 => ceq.sy ?_) ?_
  · rcases Nat.lt_or_ge b 90 with z | z
    · rw [f4 b z, f3 b z]
      exact q2 b b1 (by omega)
    · exact q4 b z (by omega)
  · exact law_loop hL L 0 (by omega) (by omega) I0 J0 P0 inv0
