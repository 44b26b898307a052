/-- the law's own end, with 1 on the stack, nothing written that was there before, its room as the claim has it -/
theorem lw_ret {p : Program} {l : Launch} {e : Env} {s : State} {m : MethodId} {below : List Frame} {meth : Method} {c : Code} {b : Nat} (hx : p.tables.exec = Jvm.exec) (hb : c.code = code) (hr : meth.sig.returnType = ret) (hlocks : meth.locks = false) {pc : Nat} {H : Heap} {ls : Array Slot} (hdg : decode code pc = .ok (.ireturn, 1)) : W p l e room_1 s m #[Value.ref b] below meth c H [] 600000 7302250 (lw_Z below #[Value.ref b] s) (F0 m pc ls [.int 1]) := by
  intro T hT X
  obtain ⟨fs, hret, hrun, hended, hW, hframe⟩ := X.leave (v := some (.int 1)) (hlocks := hlocks) (fun h => by rw [hr] at h; cases h)
  have hmeth' : T.vm.method? m = some meth := X.method'
  refine ⟨T.setFrames fs, ?_, .returned (some (.int 1)), hrun, hended, rfl, ⟨_, rfl⟩, hW, hframe⟩
  jvm_step X.here [X.here.top, hx, hb, hdg, hmeth', hr, ret, narrow_b1]
  (try refine ⟨rfl, ?_⟩); (try refine ⟨rfl, ?_⟩)
  first | (intro acts; rw [hret _ acts rfl rfl rfl]) | rw [hret _ _ rfl rfl rfl]
  exact Steps.refl _
theorem x_lawEnd {L : Nat} {xs : Nat → Int32} {ls : List (Option Value)} {h : HS} {k n : Nat} (hk : k ≤ 600000) (hn : n ≤ 7302250) : xj yLaw (GM L xs) 1020 ls [] h k n := by
  refine x_iconst 1 (by decide) cLaw_1020 ?_
  intro E p l e s m args below meth c H locs la C hH hS hl
  obtain ⟨hx, hb, hr, hml, hown, hts, hlk, hK, hbs, hnm, hNo, hex⟩ := id C
  obtain ⟨⟨rfl, e2, e3, e4⟩, e5⟩ := hex
  refine va_forget (fun q hq => ?_) ?_
  · have h1 : E.1 < q.base := hS.2.2 q hq
    omega
  refine W.widen hk hn ?_
  exact lw_ret hx hb hr hlk cLaw_1021.1
/-- one call of the law, whatever it is -/
theorem law_case {L : Nat} {xs : Nat → Int32} {I : IT} {J : JT} {P : PT} {t : Nat} (hL : L ≤ 3072) (ht : 6 * t + 6 ≤ L) (h : Inv I J P) (K : ∀ I' J' P', Inv I' J' P' → xj yLaw (GM L xs) 1014 [some (.ref 0), some (.ref 1), some (.ref 90), some (.int (nI (6 * t)))] [] (hp I' J' P') 155 1199) : xj yLaw (GM L xs) 27 [some (.ref 0), some (.ref 1), some (.ref 90), some (.int (nI (6 * t)))] [] (hp I J P) 155 1199 := by
  refine x_aload_0 cLaw_27 ?_
  refine x_iload_3 cLaw_28 ?_
  refine y_sld cLaw_29 (nI_in (by omega) (by omega)) ?_
  rw [nI_clamp (by omega)]
  refine x_bipush 31 (by decide) cLaw_30 ?_
  refine x_iand cLaw_32 ?_
  rcases pk_ix (xs (6 * t) &&& 31) (n := 29) (by decide) with q | q | ⟨j, hj, ej⟩
  · refine x_tblOut (nx := 0) (tg := 1014) cLaw_33 (Or.inl ?_) (by decide) (K _ _ _ h)
    rw [Int32.lt_iff_toInt_lt] at q
    exact q
  · refine x_tblOut (nx := 0) (tg := 1014) cLaw_33 (Or.inr ?_) (by decide) (K _ _ _ h)
    rw [Int32.le_iff_toInt_le, nI_toInt (by decide)] at q
    omega
  · rw [ej]
    have h1 : ¬ (nI j).toInt < 0 := by rw [nI_toInt (by omega)]; omega
    have h2 : ¬ (28 : Int) < (nI j).toInt := by rw [nI_toInt (by omega)]; omega
    have ix : ((nI j).toInt - 0).toNat = j := by rw [nI_toInt (by omega)]; omega
    rcases (show j = 0 ∨ j = 1 ∨ j = 2 ∨ j = 3 ∨ j = 4 ∨ j = 5 ∨ j = 6 ∨ j = 7 ∨ j = 8 ∨ j = 9 ∨ j = 10 ∨ j = 11 ∨ j = 12 ∨ j = 13 ∨ j = 14 ∨ j = 15 ∨ j = 16 ∨ j = 17 ∨ j = 18 ∨ j = 19 ∨ j = 20 ∨ j = 21 ∨ j = 22 ∨ j = 23 ∨ j = 24 ∨ j = 25 ∨ j = 26 ∨ j = 27 ∨ j = 28 by omega) with rfl | rfl | rfl | rfl | rfl | rfl | rfl | rfl | rfl | rfl | rfl | rfl | rfl | rfl | rfl | rfl | rfl | rfl | rfl | rfl | rfl | rfl | rfl | rfl | rfl | rfl | rfl | rfl | rfl
    · exact x_tblIn (nx := 0) (tg := 164) (off := 131) cLaw_33 h1 h2 (by rw [ix]; rfl) (by decide) (lc_write hL ht h K)
    · exact x_tblIn (nx := 0) (tg := 187) (off := 154) cLaw_33 h1 h2 (by rw [ix]; rfl) (by decide) (lc_wipe hL ht h K)
    · exact x_tblIn (nx := 0) (tg := 200) (off := 167) cLaw_33 h1 h2 (by rw [ix]; rfl) (by decide) (lc_fault hL ht h K)
    · exact x_tblIn (nx := 0) (tg := 213) (off := 180) cLaw_33 h1 h2 (by rw [ix]; rfl) (by decide) (lc_fly hL ht h K)
    · exact x_tblIn (nx := 0) (tg := 226) (off := 193) cLaw_33 h1 h2 (by rw [ix]; rfl) (by decide) (lc_about hL ht h K)
    · exact x_tblIn (nx := 0) (tg := 249) (off := 216) cLaw_33 h1 h2 (by rw [ix]; rfl) (by decide) (lc_kite hL ht h K)
    · exact x_tblIn (nx := 0) (tg := 282) (off := 249) cLaw_33 h1 h2 (by rw [ix]; rfl) (by decide) (lc_letOut hL ht h K)
    · exact x_tblIn (nx := 0) (tg := 315) (off := 282) cLaw_33 h1 h2 (by rw [ix]; rfl) (by decide) (lc_set hL ht h K)
    · exact x_tblIn (nx := 0) (tg := 348) (off := 315) cLaw_33 h1 h2 (by rw [ix]; rfl) (by decide) (lc_cut hL ht h K)
    · exact x_tblIn (nx := 0) (tg := 371) (off := 338) cLaw_33 h1 h2 (by rw [ix]; rfl) (by decide) (lc_turn hL ht h K)
    · exact x_tblIn (nx := 0) (tg := 404) (off := 371) cLaw_33 h1 h2 (by rw [ix]; rfl) (by decide) (lc_undo hL ht h K)
    · exact x_tblIn (nx := 0) (tg := 417) (off := 384) cLaw_33 h1 h2 (by rw [ix]; rfl) (by decide) (lc_sees hL ht h K)
    · exact x_tblIn (nx := 0) (tg := 440) (off := 407) cLaw_33 h1 h2 (by rw [ix]; rfl) (by decide) (lc_cheapest hL ht h K)
    · exact x_tblIn (nx := 0) (tg := 473) (off := 440) cLaw_33 h1 h2 (by rw [ix]; rfl) (by decide) (lc_fewest hL ht h K)
    · exact x_tblIn (nx := 0) (tg := 506) (off := 473) cLaw_33 h1 h2 (by rw [ix]; rfl) (by decide) (lc_whereToCut hL ht h K)
    · exact x_tblIn (nx := 0) (tg := 519) (off := 486) cLaw_33 h1 h2 (by rw [ix]; rfl) (by decide) (lc_drops hL ht h K)
    · exact x_tblIn (nx := 0) (tg := 542) (off := 509) cLaw_33 h1 h2 (by rw [ix]; rfl) (by decide) (lc_share hL ht h K)
    · exact x_tblIn (nx := 0) (tg := 591) (off := 558) cLaw_33 h1 h2 (by rw [ix]; rfl) (by decide) (lc_arrives hL ht h K)
    · exact x_tblIn (nx := 0) (tg := 624) (off := 591) cLaw_33 h1 h2 (by rw [ix]; rfl) (by decide) (lc_sent hL ht h K)
    · exact x_tblIn (nx := 0) (tg := 657) (off := 624) cLaw_33 h1 h2 (by rw [ix]; rfl) (by decide) (lc_taken hL ht h K)
    · exact x_tblIn (nx := 0) (tg := 700) (off := 667) cLaw_33 h1 h2 (by rw [ix]; rfl) (by decide) (lc_seeAt hL ht h K)
    · exact x_tblIn (nx := 0) (tg := 733) (off := 700) cLaw_33 h1 h2 (by rw [ix]; rfl) (by decide) (lc_unsee hL ht h K)
    · exact x_tblIn (nx := 0) (tg := 746) (off := 713) cLaw_33 h1 h2 (by rw [ix]; rfl) (by decide) (lc_winds hL ht h K)
    · exact x_tblIn (nx := 0) (tg := 769) (off := 736) cLaw_33 h1 h2 (by rw [ix]; rfl) (by decide) (lc_rests hL ht h K)
    · exact x_tblIn (nx := 0) (tg := 832) (off := 799) cLaw_33 h1 h2 (by rw [ix]; rfl) (by decide) (lc_gusts hL ht h K)
    · exact x_tblIn (nx := 0) (tg := 891) (off := 858) cLaw_33 h1 h2 (by rw [ix]; rfl) (by decide) (lc_seed hL ht h K)
    · exact x_tblIn (nx := 0) (tg := 945) (off := 912) cLaw_33 h1 h2 (by rw [ix]; rfl) (by decide) (lc_afternoons hL ht h K)
    · exact x_tblIn (nx := 0) (tg := 968) (off := 935) cLaw_33 h1 h2 (by rw [ix]; rfl) (by decide) (lc_keep hL ht h K)
    · exact x_tblIn (nx := 0) (tg := 991) (off := 958) cLaw_33 h1 h2 (by rw [ix]; rfl) (by decide) (lc_again hL ht h K)
theorem law_loop {L : Nat} {xs : Nat → Int32} (hL : L ≤ 3072) : ∀ n t, L < 6 * (t + n) + 6 → 6 * t ≤ L → ∀ (I : IT) (J : JT) (P : PT), Inv I J P → xj yLaw (GM L xs) 18 [some (.ref 0), some (.ref 1), some (.ref 90), some (.int (nI (6 * t)))] [] (hp I J P) 155 1199 := by
  have e6 : (6 : Int32).toInt = 6 := by decide
  have eL : (Int32.ofNat L - 6).toInt = (L : Int) - 6 := by
    rw [Int32.toInt_sub, e6, show (Int32.ofNat L).toInt = (L : Int) from nI_toInt (by omega)]
    rw [Int.bmod_def]
    omega
  have go : ∀ t, 6 * t ≤ L → ∀ (I : IT) (J : JT) (P : PT), (¬ 6 * t + 6 ≤ L → xj yLaw (GM L xs) 1020 [some (.ref 0), some (.ref 1), some (.ref 90), some (.int (nI (6 * t)))] [] (hp I J P) 155 1199) → (6 * t + 6 ≤ L → xj yLaw (GM L xs) 27 [some (.ref 0), some (.ref 1), some (.ref 90), some (.int (nI (6 * t)))] [] (hp I J P) 155 1199) → xj yLaw (GM L xs) 18 [some (.ref 0), some (.ref 1), some (.ref 90), some (.int (nI (6 * t)))] [] (hp I J P) 155 1199 := by
    intro t ht I J P k1 k2
    refine x_iload_3 cLaw_18 ?_
    refine x_aload_0 cLaw_19 ?_
    refine y_slen cLaw_20 ?_
    refine x_bipush 6 (by decide) cLaw_21 ?_
    refine x_isub cLaw_23 ?_
    refine x_icmp_gt cLaw_24 (fun q => k1 ?_) (fun q => k2 ?_)
    · rw [Int32.lt_iff_toInt_lt, eL, nI_toInt (by omega)] at q
      omega
    · rw [Int32.lt_iff_toInt_lt, eL, nI_toInt (by omega)] at q
      omega
  intro n
  induction n with
  | zero =>
    intro t hn ht I J P h
    exact go t ht I J P (fun _ => x_lawEnd (Nat.le_of_ble_eq_true rfl) (Nat.le_of_ble_eq_true rfl)) (fun q => absurd q (by omega))
  | succ n ih =>
    intro t hn ht I J P h
    refine go t ht I J P (fun _ => x_lawEnd (Nat.le_of_ble_eq_true rfl) (Nat.le_of_ble_eq_true rfl)) (fun q => ?_)
    refine law_case hL q h (fun I1 J1 P1 h1 => ?_)
    refine x_iinc_3 (nI (6 * (t + 1))) cLaw_1014 rfl ?_ (Nat.le_of_ble_eq_true rfl) ?_
    · exact nI_add (6 * t) 6
    refine x_goto cLaw_1017 ?_
    exact ih (t + 1) (by omega) (by omega) I1 J1 P1 h1
