theorem lc_write {L : Nat} {xs : Nat → Int32} {I : IT} {J : JT} {P : PT} {t : Nat} (hL : L ≤ 3072) (ht : 6 * t + 6 ≤ L) (h : Inv I J P) (K : ∀ I' J' P', Inv I' J' P' → xj yLaw (GM L xs) 1014 [some (.ref 0), some (.ref 1), some (.ref 90), some (.int (nI (6 * t)))] [] (hp I' J' P') 155 1199) : xj yLaw (GM L xs) 164 [some (.ref 0), some (.ref 1), some (.ref 90), some (.int (nI (6 * t)))] [] (hp I J P) 155 1199 := by
  obtain ⟨n, hn2, hn, hnM, -, hB⟩ := h.t
  refine x_aload_1 cLaw_164 ?_
  refine x_scr (jn := 1) cLaw_165 cLaw_166 cLaw_167 cLaw_168 cLaw_169 rfl (by decide) ht hL ?_
  refine x_v1 (ls0 := [some _, some _]) cLaw_170 kLaw_13 okK_write ⟨(Nat.le_of_ble_eq_true rfl), (Nat.le_of_ble_eq_true rfl)⟩ (Nat.le_of_ble_eq_true rfl) rfl (Nat.le_of_ble_eq_true rfl) rfl ⟨_, rfl, rfl⟩ rfl rfl (Nat.le_of_ble_eq_true rfl) (Nat.le_of_ble_eq_true rfl) ?_
  refine k_write hn hn2 (fun r I1 hR => ?_)
  dsimp only [pushR]
  have z : ∀ y, 89 < y → I1 y = I y := fun y hy => hi_write hn2 hR hy
  refine x_aload_2 cLaw_173 ?_
  refine x_scr (jn := 1) cLaw_174 cLaw_175 cLaw_176 cLaw_177 cLaw_178 rfl (by decide) ht hL ?_
  refine x_v1 (ls0 := [some _, some _]) cLaw_179 kLaw_17 okM_write ⟨(Nat.le_of_ble_eq_true rfl), (Nat.le_of_ble_eq_true rfl)⟩ (Nat.le_of_ble_eq_true rfl) rfl (Nat.le_of_ble_eq_true rfl) rfl ⟨_, rfl, rfl⟩ rfl rfl (Nat.le_of_ble_eq_true rfl) (Nat.le_of_ble_eq_true rfl) ?_
  refine m_write (by rw [z 90 (by decide)]; exact hnM) hn2 (fun r2 I2 hM => ?_)
  dsimp only [pushR]
  have key := inv_write h hn hn2 hR hM
  exact x_icmp_eq cLaw_182 (fun _ => K _ _ _ key.2) (fun q => absurd key.1 q)
theorem lc_wipe {L : Nat} {xs : Nat → Int32} {I : IT} {J : JT} {P : PT} {t : Nat} (hL : L ≤ 3072) (ht : 6 * t + 6 ≤ L) (h : Inv I J P) (K : ∀ I' J' P', Inv I' J' P' → xj yLaw (GM L xs) 1014 [some (.ref 0), some (.ref 1), some (.ref 90), some (.int (nI (6 * t)))] [] (hp I' J' P') 155 1199) : xj yLaw (GM L xs) 187 [some (.ref 0), some (.ref 1), some (.ref 90), some (.int (nI (6 * t)))] [] (hp I J P) 155 1199 := by
  refine x_aload_1 cLaw_187 ?_
  refine x_v0 (ls0 := [some _, none]) cLaw_188 kLaw_18 okK_wipe ⟨(Nat.le_of_ble_eq_true rfl), (Nat.le_of_ble_eq_true rfl)⟩ (Nat.le_of_ble_eq_true rfl) rfl (Nat.le_of_ble_eq_true rfl) rfl ⟨_, rfl, rfl⟩ rfl rfl (Nat.le_of_ble_eq_true rfl) (Nat.le_of_ble_eq_true rfl) ?_
  refine k_wipe (fun r I1 hR => ?_)
  dsimp only [pushR]
  refine x_aload_2 cLaw_191 ?_
  refine x_v0 (ls0 := [some _, none]) cLaw_192 kLaw_22 okM_wipe ⟨(Nat.le_of_ble_eq_true rfl), (Nat.le_of_ble_eq_true rfl)⟩ (Nat.le_of_ble_eq_true rfl) rfl (Nat.le_of_ble_eq_true rfl) rfl ⟨_, rfl, rfl⟩ rfl rfl (Nat.le_of_ble_eq_true rfl) (Nat.le_of_ble_eq_true rfl) ?_
  refine m_wipe (fun r2 I2 hM => ?_)
  dsimp only [pushR]
  have key := inv_wipe h hR hM
  exact x_icmp_eq cLaw_195 (fun _ => K _ _ _ key.2) (fun q => absurd key.1 q)
theorem lc_fault {L : Nat} {xs : Nat → Int32} {I : IT} {J : JT} {P : PT} {t : Nat} (hL : L ≤ 3072) (ht : 6 * t + 6 ≤ L) (h : Inv I J P) (K : ∀ I' J' P', Inv I' J' P' → xj yLaw (GM L xs) 1014 [some (.ref 0), some (.ref 1), some (.ref 90), some (.int (nI (6 * t)))] [] (hp I' J' P') 155 1199) : xj yLaw (GM L xs) 200 [some (.ref 0), some (.ref 1), some (.ref 90), some (.int (nI (6 * t)))] [] (hp I J P) 155 1199 := by
  obtain ⟨n, hn2, hn, hnM, -, hB⟩ := h.t
  refine x_aload_1 cLaw_200 ?_
  refine x_v0 (ls0 := [some _]) cLaw_201 kLaw_23 okK_fault ⟨(Nat.le_of_ble_eq_true rfl), (Nat.le_of_ble_eq_true rfl)⟩ (Nat.le_of_ble_eq_true rfl) rfl (Nat.le_of_ble_eq_true rfl) rfl ⟨_, rfl, rfl⟩ rfl rfl (Nat.le_of_ble_eq_true rfl) (Nat.le_of_ble_eq_true rfl) ?_
  refine k_fault hn hn2 (fun r I1 hR => ?_)
  dsimp only [pushR]
  obtain ⟨a, rfl⟩ := hR
  refine x_aload_2 cLaw_204 ?_
  refine x_v0 (ls0 := [some _]) cLaw_205 kLaw_26 okM_fault ⟨(Nat.le_of_ble_eq_true rfl), (Nat.le_of_ble_eq_true rfl)⟩ (Nat.le_of_ble_eq_true rfl) rfl (Nat.le_of_ble_eq_true rfl) rfl ⟨_, rfl, rfl⟩ rfl rfl (Nat.le_of_ble_eq_true rfl) (Nat.le_of_ble_eq_true rfl) ?_
  refine m_fault hnM hn2 hB (fun r2 I2 hM => ?_)
  dsimp only [pushR]
  have key := inv_fault h hn hn2 ⟨a, rfl⟩ hM
  exact x_icmp_eq cLaw_208 (fun _ => K _ _ _ key.2) (fun q => absurd key.1 q)
theorem lc_fly {L : Nat} {xs : Nat → Int32} {I : IT} {J : JT} {P : PT} {t : Nat} (hL : L ≤ 3072) (ht : 6 * t + 6 ≤ L) (h : Inv I J P) (K : ∀ I' J' P', Inv I' J' P' → xj yLaw (GM L xs) 1014 [some (.ref 0), some (.ref 1), some (.ref 90), some (.int (nI (6 * t)))] [] (hp I' J' P') 155 1199) : xj yLaw (GM L xs) 213 [some (.ref 0), some (.ref 1), some (.ref 90), some (.int (nI (6 * t)))] [] (hp I J P) 155 1199 := by
  obtain ⟨n, hn2, hn, hnM, -, hB⟩ := h.t
  refine x_aload_1 cLaw_213 ?_
  refine x_v0 (ls0 := [some _]) cLaw_214 kLaw_27 okK_fly ⟨(Nat.le_of_ble_eq_true rfl), (Nat.le_of_ble_eq_true rfl)⟩ (Nat.le_of_ble_eq_true rfl) rfl (Nat.le_of_ble_eq_true rfl) rfl ⟨_, rfl, rfl⟩ rfl rfl (Nat.le_of_ble_eq_true rfl) (Nat.le_of_ble_eq_true rfl) ?_
  refine k_fly hn hn2 (fun r I1 hR => ?_)
  dsimp only [pushR]
  have z : ∀ y, 89 < y → I1 y = I y := fun y hy => hi_fly hR hy
  refine x_aload_2 cLaw_217 ?_
  refine x_v0 (ls0 := [some _, none]) cLaw_218 kLaw_30 okM_fly ⟨(Nat.le_of_ble_eq_true rfl), (Nat.le_of_ble_eq_true rfl)⟩ (Nat.le_of_ble_eq_true rfl) rfl (Nat.le_of_ble_eq_true rfl) rfl ⟨_, rfl, rfl⟩ rfl rfl (Nat.le_of_ble_eq_true rfl) (Nat.le_of_ble_eq_true rfl) ?_
  refine m_fly (by rw [z 90 (by decide)]; exact hnM) hn2 (by rw [z 91 (by decide)]; exact hB) (fun r2 I2 hM => ?_)
  dsimp only [pushR]
  have key := inv_fly h hn hn2 hR hM
  exact x_icmp_eq cLaw_221 (fun _ => K _ _ _ key.2) (fun q => absurd key.1 q)
theorem lc_about {L : Nat} {xs : Nat → Int32} {I : IT} {J : JT} {P : PT} {t : Nat} (hL : L ≤ 3072) (ht : 6 * t + 6 ≤ L) (h : Inv I J P) (K : ∀ I' J' P', Inv I' J' P' → xj yLaw (GM L xs) 1014 [some (.ref 0), some (.ref 1), some (.ref 90), some (.int (nI (6 * t)))] [] (hp I' J' P') 155 1199) : xj yLaw (GM L xs) 226 [some (.ref 0), some (.ref 1), some (.ref 90), some (.int (nI (6 * t)))] [] (hp I J P) 155 1199 := by
  obtain ⟨c, hc5, hc, hcM, he, hr⟩ := h.now
  obtain ⟨n, hn2, hn, hnM, -⟩ := h.p
  obtain ⟨sn, hs6, hsn, hsM, hsr⟩ := h.s
  obtain ⟨tl, tl2, htl, htM, -, -⟩ := h.t
  refine x_aload_1 cLaw_226 ?_
  refine x_scr (jn := 1) cLaw_227 cLaw_228 cLaw_229 cLaw_230 cLaw_231 rfl (by decide) ht hL ?_
  refine x_v1 (ls0 := [some _, some _]) cLaw_232 kLaw_31 okK_about ⟨(Nat.le_of_ble_eq_true rfl), (Nat.le_of_ble_eq_true rfl)⟩ (Nat.le_of_ble_eq_true rfl) rfl (Nat.le_of_ble_eq_true rfl) rfl ⟨_, rfl, rfl⟩ rfl rfl (Nat.le_of_ble_eq_true rfl) (Nat.le_of_ble_eq_true rfl) ?_
  refine k_about hc hc5 hn hsn htl (fun r I1 hR => ?_)
  dsimp only [pushR]
  obtain ⟨a, s⟩ := hR
  obtain ⟨h1, hc1, he1, hr1⟩ := h.nowC s hcM he hr
  refine x_aload_2 cLaw_235 ?_
  refine x_scr (jn := 1) cLaw_236 cLaw_237 cLaw_238 cLaw_239 cLaw_240 rfl (by decide) ht hL ?_
  refine x_v1 (ls0 := [some _, some _]) cLaw_241 kLaw_34 okM_about ⟨(Nat.le_of_ble_eq_true rfl), (Nat.le_of_ble_eq_true rfl)⟩ (Nat.le_of_ble_eq_true rfl) rfl (Nat.le_of_ble_eq_true rfl) rfl ⟨_, rfl, rfl⟩ rfl rfl (Nat.le_of_ble_eq_true rfl) (Nat.le_of_ble_eq_true rfl) ?_
  refine m_about hc1 hc5 hr1.lb.rg (by rw [s.hi 90 (by decide)]; exact hnM) (by rw [s.hi 90 (by decide)]; exact hsM) (by rw [s.hi 90 (by decide)]; exact htM) (fun r2 I2 hM => ?_)
  dsimp only [pushR]
  obtain ⟨b, s2⟩ := hM
  have key := And.intro (ag_about he1 a b) (h1.m s2)
  exact x_icmp_eq cLaw_244 (fun _ => K _ _ _ key.2) (fun q => absurd key.1 q)
theorem lc_kite {L : Nat} {xs : Nat → Int32} {I : IT} {J : JT} {P : PT} {t : Nat} (hL : L ≤ 3072) (ht : 6 * t + 6 ≤ L) (h : Inv I J P) (K : ∀ I' J' P', Inv I' J' P' → xj yLaw (GM L xs) 1014 [some (.ref 0), some (.ref 1), some (.ref 90), some (.int (nI (6 * t)))] [] (hp I' J' P') 155 1199) : xj yLaw (GM L xs) 249 [some (.ref 0), some (.ref 1), some (.ref 90), some (.int (nI (6 * t)))] [] (hp I J P) 155 1199 := by
  obtain ⟨c, hc5, hc, hcM, he, hr⟩ := h.now
  refine x_aload_1 cLaw_249 ?_
  refine x_scr (jn := 1) cLaw_250 cLaw_251 cLaw_252 cLaw_253 cLaw_254 rfl (by decide) ht hL ?_
  refine x_scr (jn := 2) cLaw_255 cLaw_256 cLaw_257 cLaw_258 cLaw_259 rfl (by decide) ht hL ?_
  refine x_v2 (ls0 := [some _, some _, some _]) cLaw_260 kLaw_35 okK_kite ⟨(Nat.le_of_ble_eq_true rfl), (Nat.le_of_ble_eq_true rfl)⟩ (Nat.le_of_ble_eq_true rfl) rfl (Nat.le_of_ble_eq_true rfl) rfl ⟨_, rfl, rfl⟩ rfl rfl (Nat.le_of_ble_eq_true rfl) (Nat.le_of_ble_eq_true rfl) ?_
  refine k_kite hc hc5 (fun r I1 hR => ?_)
  dsimp only [pushR]
  obtain ⟨a, s⟩ := hR
  obtain ⟨h1, hc1, he1, hr1⟩ := h.nowC s hcM he hr
  refine x_aload_2 cLaw_263 ?_
  refine x_scr (jn := 1) cLaw_264 cLaw_265 cLaw_266 cLaw_267 cLaw_268 rfl (by decide) ht hL ?_
  refine x_scr (jn := 2) cLaw_269 cLaw_270 cLaw_271 cLaw_272 cLaw_273 rfl (by decide) ht hL ?_
  refine x_v2 (ls0 := [some _, some _, some _]) cLaw_274 kLaw_39 okM_kite ⟨(Nat.le_of_ble_eq_true rfl), (Nat.le_of_ble_eq_true rfl)⟩ (Nat.le_of_ble_eq_true rfl) rfl (Nat.le_of_ble_eq_true rfl) rfl ⟨_, rfl, rfl⟩ rfl rfl (Nat.le_of_ble_eq_true rfl) (Nat.le_of_ble_eq_true rfl) ?_
  refine m_kite hc1 hc5 hr1.lb.rg (fun r2 I2 hM => ?_)
  dsimp only [pushR]
  obtain ⟨b, s2⟩ := hM
  have key := And.intro (ag_kite he1 a b) (h1.m s2)
  exact x_icmp_eq cLaw_277 (fun _ => K _ _ _ key.2) (fun q => absurd key.1 q)
theorem lc_letOut {L : Nat} {xs : Nat → Int32} {I : IT} {J : JT} {P : PT} {t : Nat} (hL : L ≤ 3072) (ht : 6 * t + 6 ≤ L) (h : Inv I J P) (K : ∀ I' J' P', Inv I' J' P' → xj yLaw (GM L xs) 1014 [some (.ref 0), some (.ref 1), some (.ref 90), some (.int (nI (6 * t)))] [] (hp I' J' P') 155 1199) : xj yLaw (GM L xs) 282 [some (.ref 0), some (.ref 1), some (.ref 90), some (.int (nI (6 * t)))] [] (hp I J P) 155 1199 := by
  obtain ⟨c, hc5, hc, hcM, he, hr⟩ := h.now
  obtain ⟨n, hn2, hn, hnM, -⟩ := h.p
  refine x_aload_1 cLaw_282 ?_
  refine x_scr (jn := 1) cLaw_283 cLaw_284 cLaw_285 cLaw_286 cLaw_287 rfl (by decide) ht hL ?_
  refine x_scr (jn := 2) cLaw_288 cLaw_289 cLaw_290 cLaw_291 cLaw_292 rfl (by decide) ht hL ?_
  refine x_v2 (ls0 := [some _, some _, some _, none]) cLaw_293 kLaw_40 okK_letOut ⟨(Nat.le_of_ble_eq_true rfl), (Nat.le_of_ble_eq_true rfl)⟩ (Nat.le_of_ble_eq_true rfl) rfl (Nat.le_of_ble_eq_true rfl) rfl ⟨_, rfl, rfl⟩ rfl rfl (Nat.le_of_ble_eq_true rfl) (Nat.le_of_ble_eq_true rfl) ?_
  refine k_letOut hc hc5 h.r.1 hn hn2 (fun r I1 P1 hR => ?_)
  dsimp only [pushR]
  have z : ∀ y, 89 < y → I1 y = I y := fun y hy => hi_letOut h.r.1 hR hy
  refine x_aload_2 cLaw_296 ?_
  refine x_scr (jn := 1) cLaw_297 cLaw_298 cLaw_299 cLaw_300 cLaw_301 rfl (by decide) ht hL ?_
  refine x_scr (jn := 2) cLaw_302 cLaw_303 cLaw_304 cLaw_305 cLaw_306 rfl (by decide) ht hL ?_
  refine x_v2 (ls0 := [some _, some _, some _]) cLaw_307 kLaw_43 okM_letOut ⟨(Nat.le_of_ble_eq_true rfl), (Nat.le_of_ble_eq_true rfl)⟩ (Nat.le_of_ble_eq_true rfl) rfl (Nat.le_of_ble_eq_true rfl) rfl ⟨_, rfl, rfl⟩ rfl rfl (Nat.le_of_ble_eq_true rfl) (Nat.le_of_ble_eq_true rfl) ?_
  refine m_letOut (by rw [z 96 (by decide)]; exact hcM) hc5 (by rw [z 90 (by decide)]; exact hnM) hn2 (fun r2 I2 hM => ?_)
  dsimp only [pushR]
  have key := inv_letOut h hc hc5 hn hn2 hR hM
  exact x_icmp_eq cLaw_310 (fun _ => K _ _ _ key.2) (fun q => absurd key.1 q)
theorem lc_set {L : Nat} {xs : Nat → Int32} {I : IT} {J : JT} {P : PT} {t : Nat} (hL : L ≤ 3072) (ht : 6 * t + 6 ≤ L) (h : Inv I J P) (K : ∀ I' J' P', Inv I' J' P' → xj yLaw (GM L xs) 1014 [some (.ref 0), some (.ref 1), some (.ref 90), some (.int (nI (6 * t)))] [] (hp I' J' P') 155 1199) : xj yLaw (GM L xs) 315 [some (.ref 0), some (.ref 1), some (.ref 90), some (.int (nI (6 * t)))] [] (hp I J P) 155 1199 := by
  obtain ⟨c, hc5, hc, hcM, he, hr⟩ := h.now
  obtain ⟨n, hn2, hn, hnM, -⟩ := h.p
  refine x_aload_1 cLaw_315 ?_
  refine x_scr (jn := 1) cLaw_316 cLaw_317 cLaw_318 cLaw_319 cLaw_320 rfl (by decide) ht hL ?_
  refine x_scr (jn := 2) cLaw_321 cLaw_322 cLaw_323 cLaw_324 cLaw_325 rfl (by decide) ht hL ?_
  refine x_v2 (ls0 := [some _, some _, some _, none]) cLaw_326 kLaw_44 okK_set ⟨(Nat.le_of_ble_eq_true rfl), (Nat.le_of_ble_eq_true rfl)⟩ (Nat.le_of_ble_eq_true rfl) rfl (Nat.le_of_ble_eq_true rfl) rfl ⟨_, rfl, rfl⟩ rfl rfl (Nat.le_of_ble_eq_true rfl) (Nat.le_of_ble_eq_true rfl) ?_
  refine k_set hc hc5 h.r.1 hn hn2 (fun r I1 P1 hR => ?_)
  dsimp only [pushR]
  have z : ∀ y, 89 < y → I1 y = I y := fun y hy => hi_set h.r.1 hR hy
  refine x_aload_2 cLaw_329 ?_
  refine x_scr (jn := 1) cLaw_330 cLaw_331 cLaw_332 cLaw_333 cLaw_334 rfl (by decide) ht hL ?_
  refine x_scr (jn := 2) cLaw_335 cLaw_336 cLaw_337 cLaw_338 cLaw_339 rfl (by decide) ht hL ?_
  refine x_v2 (ls0 := [some _, some _, some _, none]) cLaw_340 kLaw_47 okM_set ⟨(Nat.le_of_ble_eq_true rfl), (Nat.le_of_ble_eq_true rfl)⟩ (Nat.le_of_ble_eq_true rfl) rfl (Nat.le_of_ble_eq_true rfl) rfl ⟨_, rfl, rfl⟩ rfl rfl (Nat.le_of_ble_eq_true rfl) (Nat.le_of_ble_eq_true rfl) ?_
  refine m_set (by rw [z 96 (by decide)]; exact hcM) hc5 (by rw [z 90 (by decide)]; exact hnM) hn2 (fun r2 I2 hM => ?_)
  dsimp only [pushR]
  have key := inv_set h hc hc5 hn hn2 hR hM
  exact x_icmp_eq cLaw_343 (fun _ => K _ _ _ key.2) (fun q => absurd key.1 q)
theorem lc_cut {L : Nat} {xs : Nat → Int32} {I : IT} {J : JT} {P : PT} {t : Nat} (hL : L ≤ 3072) (ht : 6 * t + 6 ≤ L) (h : Inv I J P) (K : ∀ I' J' P', Inv I' J' P' → xj yLaw (GM L xs) 1014 [some (.ref 0), some (.ref 1), some (.ref 90), some (.int (nI (6 * t)))] [] (hp I' J' P') 155 1199) : xj yLaw (GM L xs) 348 [some (.ref 0), some (.ref 1), some (.ref 90), some (.int (nI (6 * t)))] [] (hp I J P) 155 1199 := by
  obtain ⟨c, hc5, hc, hcM, he, hr⟩ := h.now
  obtain ⟨n, hn2, hn, hnM, -⟩ := h.p
  refine x_aload_1 cLaw_348 ?_
  refine x_scr (jn := 1) cLaw_349 cLaw_350 cLaw_351 cLaw_352 cLaw_353 rfl (by decide) ht hL ?_
  refine x_v1 (ls0 := [some _, some _]) cLaw_354 kLaw_48 okK_cut ⟨(Nat.le_of_ble_eq_true rfl), (Nat.le_of_ble_eq_true rfl)⟩ (Nat.le_of_ble_eq_true rfl) rfl (Nat.le_of_ble_eq_true rfl) rfl ⟨_, rfl, rfl⟩ rfl rfl (Nat.le_of_ble_eq_true rfl) (Nat.le_of_ble_eq_true rfl) ?_
  refine k_cut hc hc5 h.r.1 hn hn2 (fun r I1 P1 hR => ?_)
  dsimp only [pushR]
  have z : ∀ y, 89 < y → I1 y = I y := fun y hy => hi_cut h.r.1 hR hy
  refine x_aload_2 cLaw_357 ?_
  refine x_scr (jn := 1) cLaw_358 cLaw_359 cLaw_360 cLaw_361 cLaw_362 rfl (by decide) ht hL ?_
  refine x_v1 (ls0 := [some _, some _]) cLaw_363 kLaw_51 okM_cut ⟨(Nat.le_of_ble_eq_true rfl), (Nat.le_of_ble_eq_true rfl)⟩ (Nat.le_of_ble_eq_true rfl) rfl (Nat.le_of_ble_eq_true rfl) rfl ⟨_, rfl, rfl⟩ rfl rfl (Nat.le_of_ble_eq_true rfl) (Nat.le_of_ble_eq_true rfl) ?_
  refine m_cut (by rw [z 96 (by decide)]; exact hcM) hc5 (by rw [z 90 (by decide)]; exact hnM) hn2 (fun r2 I2 hM => ?_)
  dsimp only [pushR]
  have key := inv_cut h hc hc5 hn hn2 hR hM
  exact x_icmp_eq cLaw_366 (fun _ => K _ _ _ key.2) (fun q => absurd key.1 q)
theorem lc_turn {L : Nat} {xs : Nat → Int32} {I : IT} {J : JT} {P : PT} {t : Nat} (hL : L ≤ 3072) (ht : 6 * t + 6 ≤ L) (h : Inv I J P) (K : ∀ I' J' P', Inv I' J' P' → xj yLaw (GM L xs) 1014 [some (.ref 0), some (.ref 1), some (.ref 90), some (.int (nI (6 * t)))] [] (hp I' J' P') 155 1199) : xj yLaw (GM L xs) 371 [some (.ref 0), some (.ref 1), some (.ref 90), some (.int (nI (6 * t)))] [] (hp I J P) 155 1199 := by
  obtain ⟨c, hc5, hc, hcM, he, hr⟩ := h.now
  obtain ⟨n, hn2, hn, hnM, -⟩ := h.p
  refine x_aload_1 cLaw_371 ?_
  refine x_scr (jn := 1) cLaw_372 cLaw_373 cLaw_374 cLaw_375 cLaw_376 rfl (by decide) ht hL ?_
  refine x_scr (jn := 2) cLaw_377 cLaw_378 cLaw_379 cLaw_380 cLaw_381 rfl (by decide) ht hL ?_
  refine x_v2 (ls0 := [some _, some _, some _, none]) cLaw_382 kLaw_52 okK_turn ⟨(Nat.le_of_ble_eq_true rfl), (Nat.le_of_ble_eq_true rfl)⟩ (Nat.le_of_ble_eq_true rfl) rfl (Nat.le_of_ble_eq_true rfl) rfl ⟨_, rfl, rfl⟩ rfl rfl (Nat.le_of_ble_eq_true rfl) (Nat.le_of_ble_eq_true rfl) ?_
  refine k_turn hc hc5 h.r.1 hn hn2 (fun r I1 P1 hR => ?_)
  dsimp only [pushR]
  have z : ∀ y, 89 < y → I1 y = I y := fun y hy => hi_turn h.r.1 hR hy
  refine x_aload_2 cLaw_385 ?_
  refine x_scr (jn := 1) cLaw_386 cLaw_387 cLaw_388 cLaw_389 cLaw_390 rfl (by decide) ht hL ?_
  refine x_scr (jn := 2) cLaw_391 cLaw_392 cLaw_393 cLaw_394 cLaw_395 rfl (by decide) ht hL ?_
  refine x_v2 (ls0 := [some _, some _, some _, none]) cLaw_396 kLaw_55 okM_turn ⟨(Nat.le_of_ble_eq_true rfl), (Nat.le_of_ble_eq_true rfl)⟩ (Nat.le_of_ble_eq_true rfl) rfl (Nat.le_of_ble_eq_true rfl) rfl ⟨_, rfl, rfl⟩ rfl rfl (Nat.le_of_ble_eq_true rfl) (Nat.le_of_ble_eq_true rfl) ?_
  refine m_turn (by rw [z 90 (by decide)]; exact hnM) hn2 (fun r2 I2 hM => ?_)
  dsimp only [pushR]
  have key := inv_turn h hc hc5 hn hn2 hR hM
  exact x_icmp_eq cLaw_399 (fun _ => K _ _ _ key.2) (fun q => absurd key.1 q)
theorem lc_undo {L : Nat} {xs : Nat → Int32} {I : IT} {J : JT} {P : PT} {t : Nat} (hL : L ≤ 3072) (ht : 6 * t + 6 ≤ L) (h : Inv I J P) (K : ∀ I' J' P', Inv I' J' P' → xj yLaw (GM L xs) 1014 [some (.ref 0), some (.ref 1), some (.ref 90), some (.int (nI (6 * t)))] [] (hp I' J' P') 155 1199) : xj yLaw (GM L xs) 404 [some (.ref 0), some (.ref 1), some (.ref 90), some (.int (nI (6 * t)))] [] (hp I J P) 155 1199 := by
  obtain ⟨n, hn2, hn, hnM, hrw⟩ := h.p
  refine x_aload_1 cLaw_404 ?_
  refine x_v0 (ls0 := [some _]) cLaw_405 kLaw_56 okK_undo ⟨(Nat.le_of_ble_eq_true rfl), (Nat.le_of_ble_eq_true rfl)⟩ (Nat.le_of_ble_eq_true rfl) rfl (Nat.le_of_ble_eq_true rfl) rfl ⟨_, rfl, rfl⟩ rfl rfl (Nat.le_of_ble_eq_true rfl) (Nat.le_of_ble_eq_true rfl) ?_
  refine k_undo h.r.1 hn hn2 (fun j hj => by obtain ⟨c, c1, c2, -⟩ := (hrw j hj).cnt; exact ⟨c, c1, c2⟩) (fun r I1 hR => ?_)
  dsimp only [pushR]
  have z : ∀ y, 89 < y → I1 y = I y := fun y hy => hi_undo hR hy
  refine x_aload_2 cLaw_408 ?_
  refine x_v0 (ls0 := [some _, none]) cLaw_409 kLaw_59 okM_undo ⟨(Nat.le_of_ble_eq_true rfl), (Nat.le_of_ble_eq_true rfl)⟩ (Nat.le_of_ble_eq_true rfl) rfl (Nat.le_of_ble_eq_true rfl) rfl ⟨_, rfl, rfl⟩ rfl rfl (Nat.le_of_ble_eq_true rfl) (Nat.le_of_ble_eq_true rfl) ?_
  refine m_undo (by rw [z 90 (by decide)]; exact hnM) hn2 (fun r2 I2 hM => ?_)
  dsimp only [pushR]
  have key := inv_undo h hn hn2 hR hM
  exact x_icmp_eq cLaw_412 (fun _ => K _ _ _ key.2) (fun q => absurd key.1 q)
theorem lc_sees {L : Nat} {xs : Nat → Int32} {I : IT} {J : JT} {P : PT} {t : Nat} (hL : L ≤ 3072) (ht : 6 * t + 6 ≤ L) (h : Inv I J P) (K : ∀ I' J' P', Inv I' J' P' → xj yLaw (GM L xs) 1014 [some (.ref 0), some (.ref 1), some (.ref 90), some (.int (nI (6 * t)))] [] (hp I' J' P') 155 1199) : xj yLaw (GM L xs) 417 [some (.ref 0), some (.ref 1), some (.ref 90), some (.int (nI (6 * t)))] [] (hp I J P) 155 1199 := by
  obtain ⟨c, hc5, hc, hcM, he, hr⟩ := h.now
  refine x_aload_1 cLaw_417 ?_
  refine x_scr (jn := 1) cLaw_418 cLaw_419 cLaw_420 cLaw_421 cLaw_422 rfl (by decide) ht hL ?_
  refine x_v1 (ls0 := [some _, some _]) cLaw_423 kLaw_60 okK_sees ⟨(Nat.le_of_ble_eq_true rfl), (Nat.le_of_ble_eq_true rfl)⟩ (Nat.le_of_ble_eq_true rfl) rfl (Nat.le_of_ble_eq_true rfl) rfl ⟨_, rfl, rfl⟩ rfl rfl (Nat.le_of_ble_eq_true rfl) (Nat.le_of_ble_eq_true rfl) ?_
  refine k_sees hc hc5 (fun r I1 hR => ?_)
  dsimp only [pushR]
  obtain ⟨a, s⟩ := hR
  obtain ⟨h1, hc1, he1, hr1⟩ := h.nowC s hcM he hr
  refine x_aload_2 cLaw_426 ?_
  refine x_scr (jn := 1) cLaw_427 cLaw_428 cLaw_429 cLaw_430 cLaw_431 rfl (by decide) ht hL ?_
  refine x_v1 (ls0 := [some _, some _]) cLaw_432 kLaw_63 okM_sees ⟨(Nat.le_of_ble_eq_true rfl), (Nat.le_of_ble_eq_true rfl)⟩ (Nat.le_of_ble_eq_true rfl) rfl (Nat.le_of_ble_eq_true rfl) rfl ⟨_, rfl, rfl⟩ rfl rfl (Nat.le_of_ble_eq_true rfl) (Nat.le_of_ble_eq_true rfl) ?_
  refine m_sees hc1 hc5 hr1.lb.rg (fun z => hr1.lb.rv hc5 (sm_100 z)) (fun r2 I2 hM => ?_)
  dsimp only [pushR]
  obtain ⟨b, s2⟩ := hM
  have key := And.intro (ag_sees he1 a b) (h1.m s2)
  exact x_icmp_eq cLaw_435 (fun _ => K _ _ _ key.2) (fun q => absurd key.1 q)
theorem lc_cheapest {L : Nat} {xs : Nat → Int32} {I : IT} {J : JT} {P : PT} {t : Nat} (hL : L ≤ 3072) (ht : 6 * t + 6 ≤ L) (h : Inv I J P) (K : ∀ I' J' P', Inv I' J' P' → xj yLaw (GM L xs) 1014 [some (.ref 0), some (.ref 1), some (.ref 90), some (.int (nI (6 * t)))] [] (hp I' J' P') 155 1199) : xj yLaw (GM L xs) 440 [some (.ref 0), some (.ref 1), some (.ref 90), some (.int (nI (6 * t)))] [] (hp I J P) 155 1199 := by
  obtain ⟨c, hc5, hc, hcM, he, hr⟩ := h.now
  refine x_aload_1 cLaw_440 ?_
  refine x_scr (jn := 1) cLaw_441 cLaw_442 cLaw_443 cLaw_444 cLaw_445 rfl (by decide) ht hL ?_
  refine x_scr (jn := 2) cLaw_446 cLaw_447 cLaw_448 cLaw_449 cLaw_450 rfl (by decide) ht hL ?_
  refine x_v2 (ls0 := [some _, some _, some _]) cLaw_451 kLaw_64 okK_cheapest ⟨(Nat.le_of_ble_eq_true rfl), (Nat.le_of_ble_eq_true rfl)⟩ (Nat.le_of_ble_eq_true rfl) rfl (Nat.le_of_ble_eq_true rfl) rfl ⟨_, rfl, rfl⟩ rfl rfl (Nat.le_of_ble_eq_true rfl) (Nat.le_of_ble_eq_true rfl) ?_
  refine k_cheapest hc hc5 (fun r I1 hR => ?_)
  dsimp only [pushR]
  obtain ⟨a, s⟩ := hR
  obtain ⟨h1, hc1, he1, hr1⟩ := h.nowC s hcM he hr
  refine x_aload_2 cLaw_454 ?_
  refine x_scr (jn := 1) cLaw_455 cLaw_456 cLaw_457 cLaw_458 cLaw_459 rfl (by decide) ht hL ?_
  refine x_scr (jn := 2) cLaw_460 cLaw_461 cLaw_462 cLaw_463 cLaw_464 rfl (by decide) ht hL ?_
  refine x_v2 (ls0 := [some _, some _, some _]) cLaw_465 kLaw_67 okM_cheapest ⟨(Nat.le_of_ble_eq_true rfl), (Nat.le_of_ble_eq_true rfl)⟩ (Nat.le_of_ble_eq_true rfl) rfl (Nat.le_of_ble_eq_true rfl) rfl ⟨_, rfl, rfl⟩ rfl rfl (Nat.le_of_ble_eq_true rfl) (Nat.le_of_ble_eq_true rfl) ?_
  refine m_cheapest hc5 hc1 hr1.h30 (fun z t _ => ⟨(hr1.wy _).rg, (hr1.wy _).rv hc5 (sm_100 z)⟩) (fun r2 I2 hM => ?_)
  dsimp only [pushR]
  obtain ⟨b, s2⟩ := hM
  have key := And.intro (ag_cheapest he1 a b) (h1.m s2)
  exact x_icmp_eq cLaw_468 (fun _ => K _ _ _ key.2) (fun q => absurd key.1 q)
theorem lc_fewest {L : Nat} {xs : Nat → Int32} {I : IT} {J : JT} {P : PT} {t : Nat} (hL : L ≤ 3072) (ht : 6 * t + 6 ≤ L) (h : Inv I J P) (K : ∀ I' J' P', Inv I' J' P' → xj yLaw (GM L xs) 1014 [some (.ref 0), some (.ref 1), some (.ref 90), some (.int (nI (6 * t)))] [] (hp I' J' P') 155 1199) : xj yLaw (GM L xs) 473 [some (.ref 0), some (.ref 1), some (.ref 90), some (.int (nI (6 * t)))] [] (hp I J P) 155 1199 := by
  obtain ⟨c, hc5, hc, hcM, he, hr⟩ := h.now
  refine x_aload_1 cLaw_473 ?_
  refine x_scr (jn := 1) cLaw_474 cLaw_475 cLaw_476 cLaw_477 cLaw_478 rfl (by decide) ht hL ?_
  refine x_scr (jn := 2) cLaw_479 cLaw_480 cLaw_481 cLaw_482 cLaw_483 rfl (by decide) ht hL ?_
  refine x_v2 (ls0 := [some _, some _, some _]) cLaw_484 kLaw_68 okK_fewest ⟨(Nat.le_of_ble_eq_true rfl), (Nat.le_of_ble_eq_true rfl)⟩ (Nat.le_of_ble_eq_true rfl) rfl (Nat.le_of_ble_eq_true rfl) rfl ⟨_, rfl, rfl⟩ rfl rfl (Nat.le_of_ble_eq_true rfl) (Nat.le_of_ble_eq_true rfl) ?_
  refine k_fewest hc hc5 (fun r I1 hR => ?_)
  dsimp only [pushR]
  obtain ⟨a, s⟩ := hR
  obtain ⟨h1, hc1, he1, hr1⟩ := h.nowC s hcM he hr
  refine x_aload_2 cLaw_487 ?_
  refine x_scr (jn := 1) cLaw_488 cLaw_489 cLaw_490 cLaw_491 cLaw_492 rfl (by decide) ht hL ?_
  refine x_scr (jn := 2) cLaw_493 cLaw_494 cLaw_495 cLaw_496 cLaw_497 rfl (by decide) ht hL ?_
  refine x_v2 (ls0 := [some _, some _, some _]) cLaw_498 kLaw_71 okM_fewest ⟨(Nat.le_of_ble_eq_true rfl), (Nat.le_of_ble_eq_true rfl)⟩ (Nat.le_of_ble_eq_true rfl) rfl (Nat.le_of_ble_eq_true rfl) rfl ⟨_, rfl, rfl⟩ rfl rfl (Nat.le_of_ble_eq_true rfl) (Nat.le_of_ble_eq_true rfl) ?_
  refine m_fewest hc5 hc1 (fun z t _ => ⟨(hr1.wb (fun k _ => dig_lt (by decide))).rg, (hr1.wb (fun k _ => dig_lt (by decide))).rv hc5 (sm_100 z)⟩) (fun r2 I2 hM => ?_)
  dsimp only [pushR]
  obtain ⟨b, s2⟩ := hM
  have key := And.intro (ag_fewest he1 a b) (h1.m s2)
  exact x_icmp_eq cLaw_501 (fun _ => K _ _ _ key.2) (fun q => absurd key.1 q)
theorem lc_whereToCut {L : Nat} {xs : Nat → Int32} {I : IT} {J : JT} {P : PT} {t : Nat} (hL : L ≤ 3072) (ht : 6 * t + 6 ≤ L) (h : Inv I J P) (K : ∀ I' J' P', Inv I' J' P' → xj yLaw (GM L xs) 1014 [some (.ref 0), some (.ref 1), some (.ref 90), some (.int (nI (6 * t)))] [] (hp I' J' P') 155 1199) : xj yLaw (GM L xs) 506 [some (.ref 0), some (.ref 1), some (.ref 90), some (.int (nI (6 * t)))] [] (hp I J P) 155 1199 := by
  obtain ⟨c, hc5, hc, hcM, he, hr⟩ := h.now
  refine x_aload_1 cLaw_506 ?_
  refine x_v0 (ls0 := [some _, none, none]) cLaw_507 kLaw_72 okK_whereToCut ⟨(Nat.le_of_ble_eq_true rfl), (Nat.le_of_ble_eq_true rfl)⟩ (Nat.le_of_ble_eq_true rfl) rfl (Nat.le_of_ble_eq_true rfl) rfl ⟨_, rfl, rfl⟩ rfl rfl (Nat.le_of_ble_eq_true rfl) (Nat.le_of_ble_eq_true rfl) ?_
  refine k_whereToCut hc hc5 (fun r I1 hR => ?_)
  dsimp only [pushR]
  obtain ⟨a, s⟩ := hR
  obtain ⟨h1, hc1, he1, hr1⟩ := h.nowC s hcM he hr
  refine x_aload_2 cLaw_510 ?_
  refine x_v0 (ls0 := [some _, none, none]) cLaw_511 kLaw_75 okM_whereToCut ⟨(Nat.le_of_ble_eq_true rfl), (Nat.le_of_ble_eq_true rfl)⟩ (Nat.le_of_ble_eq_true rfl) rfl (Nat.le_of_ble_eq_true rfl) rfl ⟨_, rfl, rfl⟩ rfl rfl (Nat.le_of_ble_eq_true rfl) (Nat.le_of_ble_eq_true rfl) ?_
  refine m_whereToCut hc1 hc5 hr1.lb.rg (fun r2 I2 hM => ?_)
  dsimp only [pushR]
  obtain ⟨b, s2⟩ := hM
  have key := And.intro (ag_where he1 a b) (h1.m s2)
  exact x_icmp_eq cLaw_514 (fun _ => K _ _ _ key.2) (fun q => absurd key.1 q)
theorem lc_drops {L : Nat} {xs : Nat → Int32} {I : IT} {J : JT} {P : PT} {t : Nat} (hL : L ≤ 3072) (ht : 6 * t + 6 ≤ L) (h : Inv I J P) (K : ∀ I' J' P', Inv I' J' P' → xj yLaw (GM L xs) 1014 [some (.ref 0), some (.ref 1), some (.ref 90), some (.int (nI (6 * t)))] [] (hp I' J' P') 155 1199) : xj yLaw (GM L xs) 519 [some (.ref 0), some (.ref 1), some (.ref 90), some (.int (nI (6 * t)))] [] (hp I J P) 155 1199 := by
  obtain ⟨c, hc5, hc, hcM, he, hr⟩ := h.now
  refine x_aload_1 cLaw_519 ?_
  refine x_scr (jn := 1) cLaw_520 cLaw_521 cLaw_522 cLaw_523 cLaw_524 rfl (by decide) ht hL ?_
  refine x_v1 (ls0 := [some _, some _]) cLaw_525 kLaw_76 okK_drops ⟨(Nat.le_of_ble_eq_true rfl), (Nat.le_of_ble_eq_true rfl)⟩ (Nat.le_of_ble_eq_true rfl) rfl (Nat.le_of_ble_eq_true rfl) rfl ⟨_, rfl, rfl⟩ rfl rfl (Nat.le_of_ble_eq_true rfl) (Nat.le_of_ble_eq_true rfl) ?_
  refine k_drops hc hc5 (fun r I1 hR => ?_)
  dsimp only [pushR]
  obtain ⟨a, rfl⟩ := hR
  obtain ⟨h1, hc1, he1, hr1⟩ := h.nowC (SameC.rf) hcM he hr
  refine x_aload_2 cLaw_528 ?_
  refine x_scr (jn := 1) cLaw_529 cLaw_530 cLaw_531 cLaw_532 cLaw_533 rfl (by decide) ht hL ?_
  refine x_v1 (ls0 := [some _, some _]) cLaw_534 kLaw_79 okM_drops ⟨(Nat.le_of_ble_eq_true rfl), (Nat.le_of_ble_eq_true rfl)⟩ (Nat.le_of_ble_eq_true rfl) rfl (Nat.le_of_ble_eq_true rfl) rfl ⟨_, rfl, rfl⟩ rfl rfl (Nat.le_of_ble_eq_true rfl) (Nat.le_of_ble_eq_true rfl) ?_
  refine m_drops hc1 hc5 (fun r2 I2 hM => ?_)
  dsimp only [pushR]
  obtain ⟨b, s2⟩ := hM
  have key := And.intro (ag_drops he1 a b) (h1.m s2)
  exact x_icmp_eq cLaw_537 (fun _ => K _ _ _ key.2) (fun q => absurd key.1 q)
theorem lc_share {L : Nat} {xs : Nat → Int32} {I : IT} {J : JT} {P : PT} {t : Nat} (hL : L ≤ 3072) (ht : 6 * t + 6 ≤ L) (h : Inv I J P) (K : ∀ I' J' P', Inv I' J' P' → xj yLaw (GM L xs) 1014 [some (.ref 0), some (.ref 1), some (.ref 90), some (.int (nI (6 * t)))] [] (hp I' J' P') 155 1199) : xj yLaw (GM L xs) 542 [some (.ref 0), some (.ref 1), some (.ref 90), some (.int (nI (6 * t)))] [] (hp I J P) 155 1199 := by
  obtain ⟨c, hc5, hc, hcM, he, hr⟩ := h.now
  refine x_aload_1 cLaw_542 ?_
  refine x_scr (jn := 1) cLaw_543 cLaw_544 cLaw_545 cLaw_546 cLaw_547 rfl (by decide) ht hL ?_
  refine x_scr (jn := 2) cLaw_548 cLaw_549 cLaw_550 cLaw_551 cLaw_552 rfl (by decide) ht hL ?_
  refine x_if_eq cLaw_553 (fun z => ?_) (fun z => ?_)
  · refine x_iconst 0 (by decide) cLaw_560 ?_
    refine x_v2 (ls0 := [some _, some _, some _, none, none, none, none, none, none]) cLaw_561 kLaw_80 okK_share ⟨(Nat.le_of_ble_eq_true rfl), (Nat.le_of_ble_eq_true rfl)⟩ (Nat.le_of_ble_eq_true rfl) rfl (Nat.le_of_ble_eq_true rfl) rfl ⟨_, rfl, rfl⟩ rfl rfl (Nat.le_of_ble_eq_true rfl) (Nat.le_of_ble_eq_true rfl) ?_
    refine k_share hc hc5 ((he.lr hr).hab hc5) (fun r I1 a s => ?_)
    dsimp only [pushR]
    obtain ⟨h1, hc1, he1, hr1⟩ := h.nowC s hcM he hr
    refine x_aload_2 cLaw_564 ?_
    refine x_scr (jn := 1) cLaw_565 cLaw_566 cLaw_567 cLaw_568 cLaw_569 rfl (by decide) ht hL ?_
    refine x_scr (jn := 2) cLaw_570 cLaw_571 cLaw_572 cLaw_573 cLaw_574 rfl (by decide) ht hL ?_
    refine x_if_eq cLaw_575 (fun _ => ?_) (fun q => absurd z q)
    refine x_iconst 0 (by decide) cLaw_582 ?_
    refine x_v2 (ls0 := [some _, some _, some _, none, none, none, none]) cLaw_583 kLaw_84 okM_share ⟨(Nat.le_of_ble_eq_true rfl), (Nat.le_of_ble_eq_true rfl)⟩ (Nat.le_of_ble_eq_true rfl) rfl (Nat.le_of_ble_eq_true rfl) rfl ⟨_, rfl, rfl⟩ rfl rfl (Nat.le_of_ble_eq_true rfl) (Nat.le_of_ble_eq_true rfl) ?_
    refine m_share hc1 hc5 (hr1.hw hc5) (hr1.hab hc5) (fun r2 I2 hM => ?_)
    dsimp only [pushR]
    obtain ⟨b, s2⟩ := hM
    have key := And.intro (ag_share he1 ((he.lr hr).hab hc5) a b) (h1.m s2)
    exact x_icmp_eq cLaw_586 (fun _ => K _ _ _ key.2) (fun q => absurd key.1 q)
  · refine x_iconst 1 (by decide) cLaw_556 ?_
    refine x_goto cLaw_557 ?_
    refine x_v2 (ls0 := [some _, some _, some _, none, none, none, none, none, none]) cLaw_561 kLaw_80 okK_share ⟨(Nat.le_of_ble_eq_true rfl), (Nat.le_of_ble_eq_true rfl)⟩ (Nat.le_of_ble_eq_true rfl) rfl (Nat.le_of_ble_eq_true rfl) rfl ⟨_, rfl, rfl⟩ rfl rfl (Nat.le_of_ble_eq_true rfl) (Nat.le_of_ble_eq_true rfl) ?_
    refine k_share hc hc5 ((he.lr hr).hab hc5) (fun r I1 a s => ?_)
    dsimp only [pushR]
    obtain ⟨h1, hc1, he1, hr1⟩ := h.nowC s hcM he hr
    refine x_aload_2 cLaw_564 ?_
    refine x_scr (jn := 1) cLaw_565 cLaw_566 cLaw_567 cLaw_568 cLaw_569 rfl (by decide) ht hL ?_
    refine x_scr (jn := 2) cLaw_570 cLaw_571 cLaw_572 cLaw_573 cLaw_574 rfl (by decide) ht hL ?_
    refine x_if_eq cLaw_575 (fun q => absurd q z) (fun _ => ?_)
    refine x_iconst 1 (by decide) cLaw_578 ?_
    refine x_goto cLaw_579 ?_
    refine x_v2 (ls0 := [some _, some _, some _, none, none, none, none]) cLaw_583 kLaw_84 okM_share ⟨(Nat.le_of_ble_eq_true rfl), (Nat.le_of_ble_eq_true rfl)⟩ (Nat.le_of_ble_eq_true rfl) rfl (Nat.le_of_ble_eq_true rfl) rfl ⟨_, rfl, rfl⟩ rfl rfl (Nat.le_of_ble_eq_true rfl) (Nat.le_of_ble_eq_true rfl) ?_
    refine m_share hc1 hc5 (hr1.hw hc5) (hr1.hab hc5) (fun r2 I2 hM => ?_)
    dsimp only [pushR]
    obtain ⟨b, s2⟩ := hM
    have key := And.intro (ag_share he1 ((he.lr hr).hab hc5) a b) (h1.m s2)
    exact x_icmp_eq cLaw_586 (fun _ => K _ _ _ key.2) (fun q => absurd key.1 q)
theorem lc_arrives {L : Nat} {xs : Nat → Int32} {I : IT} {J : JT} {P : PT} {t : Nat} (hL : L ≤ 3072) (ht : 6 * t + 6 ≤ L) (h : Inv I J P) (K : ∀ I' J' P', Inv I' J' P' → xj yLaw (GM L xs) 1014 [some (.ref 0), some (.ref 1), some (.ref 90), some (.int (nI (6 * t)))] [] (hp I' J' P') 155 1199) : xj yLaw (GM L xs) 591 [some (.ref 0), some (.ref 1), some (.ref 90), some (.int (nI (6 * t)))] [] (hp I J P) 155 1199 := by
  obtain ⟨c, hc5, hc, hcM, he, hr⟩ := h.now
  refine x_aload_1 cLaw_591 ?_
  refine x_scr (jn := 1) cLaw_592 cLaw_593 cLaw_594 cLaw_595 cLaw_596 rfl (by decide) ht hL ?_
  refine x_scr (jn := 2) cLaw_597 cLaw_598 cLaw_599 cLaw_600 cLaw_601 rfl (by decide) ht hL ?_
  refine x_v2 (ls0 := [some _, some _, some _]) cLaw_602 kLaw_85 okK_arrives ⟨(Nat.le_of_ble_eq_true rfl), (Nat.le_of_ble_eq_true rfl)⟩ (Nat.le_of_ble_eq_true rfl) rfl (Nat.le_of_ble_eq_true rfl) rfl ⟨_, rfl, rfl⟩ rfl rfl (Nat.le_of_ble_eq_true rfl) (Nat.le_of_ble_eq_true rfl) ?_
  refine k_arrives hc hc5 (fun r I1 hR => ?_)
  dsimp only [pushR]
  obtain ⟨a, rfl⟩ := hR
  obtain ⟨h1, hc1, he1, hr1⟩ := h.nowC (SameC.rf) hcM he hr
  refine x_aload_2 cLaw_605 ?_
  refine x_scr (jn := 1) cLaw_606 cLaw_607 cLaw_608 cLaw_609 cLaw_610 rfl (by decide) ht hL ?_
  refine x_scr (jn := 2) cLaw_611 cLaw_612 cLaw_613 cLaw_614 cLaw_615 rfl (by decide) ht hL ?_
  refine x_v2 (ls0 := [some _, some _, some _]) cLaw_616 kLaw_88 okM_arrives ⟨(Nat.le_of_ble_eq_true rfl), (Nat.le_of_ble_eq_true rfl)⟩ (Nat.le_of_ble_eq_true rfl) rfl (Nat.le_of_ble_eq_true rfl) rfl ⟨_, rfl, rfl⟩ rfl rfl (Nat.le_of_ble_eq_true rfl) (Nat.le_of_ble_eq_true rfl) ?_
  refine m_arrives hc1 hc5 (hr1.bs hc5) (fun r2 I2 hM => ?_)
  dsimp only [pushR]
  obtain ⟨b, s2⟩ := hM
  have key := And.intro (ag_arrives he1 a b) (h1.m s2)
  exact x_icmp_eq cLaw_619 (fun _ => K _ _ _ key.2) (fun q => absurd key.1 q)
theorem lc_sent {L : Nat} {xs : Nat → Int32} {I : IT} {J : JT} {P : PT} {t : Nat} (hL : L ≤ 3072) (ht : 6 * t + 6 ≤ L) (h : Inv I J P) (K : ∀ I' J' P', Inv I' J' P' → xj yLaw (GM L xs) 1014 [some (.ref 0), some (.ref 1), some (.ref 90), some (.int (nI (6 * t)))] [] (hp I' J' P') 155 1199) : xj yLaw (GM L xs) 624 [some (.ref 0), some (.ref 1), some (.ref 90), some (.int (nI (6 * t)))] [] (hp I J P) 155 1199 := by
  obtain ⟨c, hc5, hc, hcM, he, hr⟩ := h.now
  refine x_aload_1 cLaw_624 ?_
  refine x_scr (jn := 1) cLaw_625 cLaw_626 cLaw_627 cLaw_628 cLaw_629 rfl (by decide) ht hL ?_
  refine x_scr (jn := 2) cLaw_630 cLaw_631 cLaw_632 cLaw_633 cLaw_634 rfl (by decide) ht hL ?_
  refine x_v2 (ls0 := [some _, some _, some _]) cLaw_635 kLaw_89 okK_sent ⟨(Nat.le_of_ble_eq_true rfl), (Nat.le_of_ble_eq_true rfl)⟩ (Nat.le_of_ble_eq_true rfl) rfl (Nat.le_of_ble_eq_true rfl) rfl ⟨_, rfl, rfl⟩ rfl rfl (Nat.le_of_ble_eq_true rfl) (Nat.le_of_ble_eq_true rfl) ?_
  refine k_sent hc hc5 (fun r I1 hR => ?_)
  dsimp only [pushR]
  obtain ⟨a, rfl⟩ := hR
  obtain ⟨h1, hc1, he1, hr1⟩ := h.nowC (SameC.rf) hcM he hr
  refine x_aload_2 cLaw_638 ?_
  refine x_scr (jn := 1) cLaw_639 cLaw_640 cLaw_641 cLaw_642 cLaw_643 rfl (by decide) ht hL ?_
  refine x_scr (jn := 2) cLaw_644 cLaw_645 cLaw_646 cLaw_647 cLaw_648 rfl (by decide) ht hL ?_
  refine x_v2 (ls0 := [some _, some _, some _]) cLaw_649 kLaw_92 okM_sent ⟨(Nat.le_of_ble_eq_true rfl), (Nat.le_of_ble_eq_true rfl)⟩ (Nat.le_of_ble_eq_true rfl) rfl (Nat.le_of_ble_eq_true rfl) rfl ⟨_, rfl, rfl⟩ rfl rfl (Nat.le_of_ble_eq_true rfl) (Nat.le_of_ble_eq_true rfl) ?_
  refine m_sent hc1 hc5 (hr1.bs hc5) (fun r2 I2 hM => ?_)
  dsimp only [pushR]
  obtain ⟨b, s2⟩ := hM
  have key := And.intro (ag_sent he1 a b) (h1.m s2)
  exact x_icmp_eq cLaw_652 (fun _ => K _ _ _ key.2) (fun q => absurd key.1 q)
theorem lc_taken {L : Nat} {xs : Nat → Int32} {I : IT} {J : JT} {P : PT} {t : Nat} (hL : L ≤ 3072) (ht : 6 * t + 6 ≤ L) (h : Inv I J P) (K : ∀ I' J' P', Inv I' J' P' → xj yLaw (GM L xs) 1014 [some (.ref 0), some (.ref 1), some (.ref 90), some (.int (nI (6 * t)))] [] (hp I' J' P') 155 1199) : xj yLaw (GM L xs) 657 [some (.ref 0), some (.ref 1), some (.ref 90), some (.int (nI (6 * t)))] [] (hp I J P) 155 1199 := by
  obtain ⟨c, hc5, hc, hcM, he, hr⟩ := h.now
  refine x_aload_1 cLaw_657 ?_
  refine x_scr (jn := 1) cLaw_658 cLaw_659 cLaw_660 cLaw_661 cLaw_662 rfl (by decide) ht hL ?_
  refine x_scr (jn := 2) cLaw_663 cLaw_664 cLaw_665 cLaw_666 cLaw_667 rfl (by decide) ht hL ?_
  refine x_scr (jn := 3) cLaw_668 cLaw_669 cLaw_670 cLaw_671 cLaw_672 rfl (by decide) ht hL ?_
  refine x_v3 (ls0 := [some _, some _, some _, some _]) cLaw_673 kLaw_93 okK_taken ⟨(Nat.le_of_ble_eq_true rfl), (Nat.le_of_ble_eq_true rfl)⟩ (Nat.le_of_ble_eq_true rfl) rfl (Nat.le_of_ble_eq_true rfl) rfl ⟨_, rfl, rfl⟩ rfl rfl (Nat.le_of_ble_eq_true rfl) (Nat.le_of_ble_eq_true rfl) ?_
  refine k_taken hc hc5 (fun r I1 hR => ?_)
  dsimp only [pushR]
  obtain ⟨a, rfl⟩ := hR
  obtain ⟨h1, hc1, he1, hr1⟩ := h.nowC (SameC.rf) hcM he hr
  refine x_aload_2 cLaw_676 ?_
  refine x_scr (jn := 1) cLaw_677 cLaw_678 cLaw_679 cLaw_680 cLaw_681 rfl (by decide) ht hL ?_
  refine x_scr (jn := 2) cLaw_682 cLaw_683 cLaw_684 cLaw_685 cLaw_686 rfl (by decide) ht hL ?_
  refine x_scr (jn := 3) cLaw_687 cLaw_688 cLaw_689 cLaw_690 cLaw_691 rfl (by decide) ht hL ?_
  refine x_v3 (ls0 := [some _, some _, some _, some _, none, none, none, none]) cLaw_692 kLaw_97 okM_taken ⟨(Nat.le_of_ble_eq_true rfl), (Nat.le_of_ble_eq_true rfl)⟩ (Nat.le_of_ble_eq_true rfl) rfl (Nat.le_of_ble_eq_true rfl) rfl ⟨_, rfl, rfl⟩ rfl rfl (Nat.le_of_ble_eq_true rfl) (Nat.le_of_ble_eq_true rfl) ?_
  refine m_taken hc1 hc5 (fun r2 I2 hM => ?_)
  dsimp only [pushR]
  obtain ⟨b, s2⟩ := hM
  have key := And.intro (ag_taken a b) (h1.m s2)
  exact x_icmp_eq cLaw_695 (fun _ => K _ _ _ key.2) (fun q => absurd key.1 q)
theorem lc_seeAt {L : Nat} {xs : Nat → Int32} {I : IT} {J : JT} {P : PT} {t : Nat} (hL : L ≤ 3072) (ht : 6 * t + 6 ≤ L) (h : Inv I J P) (K : ∀ I' J' P', Inv I' J' P' → xj yLaw (GM L xs) 1014 [some (.ref 0), some (.ref 1), some (.ref 90), some (.int (nI (6 * t)))] [] (hp I' J' P') 155 1199) : xj yLaw (GM L xs) 700 [some (.ref 0), some (.ref 1), some (.ref 90), some (.int (nI (6 * t)))] [] (hp I J P) 155 1199 := by
  obtain ⟨c, hc5, hc, hcM, he, hr⟩ := h.now
  obtain ⟨sn, hs6, hsn, hsM, hsr⟩ := h.s
  refine x_aload_1 cLaw_700 ?_
  refine x_scr (jn := 1) cLaw_701 cLaw_702 cLaw_703 cLaw_704 cLaw_705 rfl (by decide) ht hL ?_
  refine x_scr (jn := 2) cLaw_706 cLaw_707 cLaw_708 cLaw_709 cLaw_710 rfl (by decide) ht hL ?_
  refine x_v2 (ls0 := [some _, some _, some _]) cLaw_711 kLaw_98 okK_seeAt ⟨(Nat.le_of_ble_eq_true rfl), (Nat.le_of_ble_eq_true rfl)⟩ (Nat.le_of_ble_eq_true rfl) rfl (Nat.le_of_ble_eq_true rfl) rfl ⟨_, rfl, rfl⟩ rfl rfl (Nat.le_of_ble_eq_true rfl) (Nat.le_of_ble_eq_true rfl) ?_
  refine k_seeAt hc hc5 hsn hs6 (fun r I1 hR => ?_)
  dsimp only [pushR]
  have z : ∀ y, 89 < y → I1 y = I y := fun y hy => hi_seeAt hs6 hR hy
  refine x_aload_2 cLaw_714 ?_
  refine x_scr (jn := 1) cLaw_715 cLaw_716 cLaw_717 cLaw_718 cLaw_719 rfl (by decide) ht hL ?_
  refine x_scr (jn := 2) cLaw_720 cLaw_721 cLaw_722 cLaw_723 cLaw_724 rfl (by decide) ht hL ?_
  refine x_v2 (ls0 := [some _, some _, some _]) cLaw_725 kLaw_101 okM_seeAt ⟨(Nat.le_of_ble_eq_true rfl), (Nat.le_of_ble_eq_true rfl)⟩ (Nat.le_of_ble_eq_true rfl) rfl (Nat.le_of_ble_eq_true rfl) rfl ⟨_, rfl, rfl⟩ rfl rfl (Nat.le_of_ble_eq_true rfl) (Nat.le_of_ble_eq_true rfl) ?_
  refine m_seeAt (by rw [z 96 (by decide)]; exact hcM) hc5 (by rw [z 90 (by decide)]; exact hsM) hs6 (fun r2 I2 hM => ?_)
  dsimp only [pushR]
  have key := inv_seeAt h hc5 hsn hs6 hR hM
  exact x_icmp_eq cLaw_728 (fun _ => K _ _ _ key.2) (fun q => absurd key.1 q)
theorem lc_unsee {L : Nat} {xs : Nat → Int32} {I : IT} {J : JT} {P : PT} {t : Nat} (hL : L ≤ 3072) (ht : 6 * t + 6 ≤ L) (h : Inv I J P) (K : ∀ I' J' P', Inv I' J' P' → xj yLaw (GM L xs) 1014 [some (.ref 0), some (.ref 1), some (.ref 90), some (.int (nI (6 * t)))] [] (hp I' J' P') 155 1199) : xj yLaw (GM L xs) 733 [some (.ref 0), some (.ref 1), some (.ref 90), some (.int (nI (6 * t)))] [] (hp I J P) 155 1199 := by
  refine x_aload_1 cLaw_733 ?_
  refine x_v0 (ls0 := [some _, none]) cLaw_734 kLaw_102 okK_unsee ⟨(Nat.le_of_ble_eq_true rfl), (Nat.le_of_ble_eq_true rfl)⟩ (Nat.le_of_ble_eq_true rfl) rfl (Nat.le_of_ble_eq_true rfl) rfl ⟨_, rfl, rfl⟩ rfl rfl (Nat.le_of_ble_eq_true rfl) (Nat.le_of_ble_eq_true rfl) ?_
  refine k_unsee (fun r I1 hR => ?_)
  dsimp only [pushR]
  refine x_aload_2 cLaw_737 ?_
  refine x_v0 (ls0 := [some _, none]) cLaw_738 kLaw_105 okM_unsee ⟨(Nat.le_of_ble_eq_true rfl), (Nat.le_of_ble_eq_true rfl)⟩ (Nat.le_of_ble_eq_true rfl) rfl (Nat.le_of_ble_eq_true rfl) rfl ⟨_, rfl, rfl⟩ rfl rfl (Nat.le_of_ble_eq_true rfl) (Nat.le_of_ble_eq_true rfl) ?_
  refine m_unsee (fun r2 I2 hM => ?_)
  dsimp only [pushR]
  have key := inv_unsee h hR hM
  exact x_icmp_eq cLaw_741 (fun _ => K _ _ _ key.2) (fun q => absurd key.1 q)
theorem lc_winds {L : Nat} {xs : Nat → Int32} {I : IT} {J : JT} {P : PT} {t : Nat} (hL : L ≤ 3072) (ht : 6 * t + 6 ≤ L) (h : Inv I J P) (K : ∀ I' J' P', Inv I' J' P' → xj yLaw (GM L xs) 1014 [some (.ref 0), some (.ref 1), some (.ref 90), some (.int (nI (6 * t)))] [] (hp I' J' P') 155 1199) : xj yLaw (GM L xs) 746 [some (.ref 0), some (.ref 1), some (.ref 90), some (.int (nI (6 * t)))] [] (hp I J P) 155 1199 := by
  obtain ⟨c, hc5, hc, hcM, he, hr⟩ := h.now
  obtain ⟨sn, hs6, hsn, hsM, hsr⟩ := h.s
  have hkM : ∀ r, r < sn → I 101 r = nI ((I 101 r).toNatClampNeg) ∧ (I 101 r).toNatClampNeg < 5 := fun r hr0 => by
    obtain ⟨-, -, q, q5, eq⟩ := hsr r hr0
    rw [eq, nI_clamp (by omega)]
    exact ⟨rfl, q5⟩
  refine x_aload_1 cLaw_746 ?_
  refine x_scr (jn := 1) cLaw_747 cLaw_748 cLaw_749 cLaw_750 cLaw_751 rfl (by decide) ht hL ?_
  refine x_v1 (ls0 := [some _, some _, none]) cLaw_752 kLaw_106 okK_winds ⟨(Nat.le_of_ble_eq_true rfl), (Nat.le_of_ble_eq_true rfl)⟩ (Nat.le_of_ble_eq_true rfl) rfl (Nat.le_of_ble_eq_true rfl) rfl ⟨_, rfl, rfl⟩ rfl rfl (Nat.le_of_ble_eq_true rfl) (Nat.le_of_ble_eq_true rfl) ?_
  refine k_winds hc hc5 hsn hs6 (kp := fun r => (I 101 r).toNatClampNeg) (fun r hr0 => by rw [(hsr r hr0).1]; exact hkM r hr0) (fun r I1 a s => ?_)
  dsimp only [pushR]
  obtain ⟨h1, hc1, he1, hr1⟩ := h.nowC s hcM he hr
  refine x_aload_2 cLaw_755 ?_
  refine x_scr (jn := 1) cLaw_756 cLaw_757 cLaw_758 cLaw_759 cLaw_760 rfl (by decide) ht hL ?_
  refine x_v1 (ls0 := [some _, some _]) cLaw_761 kLaw_109 okM_winds ⟨(Nat.le_of_ble_eq_true rfl), (Nat.le_of_ble_eq_true rfl)⟩ (Nat.le_of_ble_eq_true rfl) rfl (Nat.le_of_ble_eq_true rfl) rfl ⟨_, rfl, rfl⟩ rfl rfl (Nat.le_of_ble_eq_true rfl) (Nat.le_of_ble_eq_true rfl) ?_
  refine m_winds hc1 hc5 (by rw [s.hi 90 (by decide)]; exact hsM) hs6 (kp := fun r => (I 101 r).toNatClampNeg) (fun r hr0 => by rw [s.hi 101 (by decide)]; exact hkM r hr0) (fun t ht => (hr1.wd (by omega) (Nat.mod_lt _ (by decide))).rg) (fun r2 I2 hM => ?_)
  dsimp only [pushR]
  obtain ⟨b, s2⟩ := hM
  have key := And.intro (ag_winds he1 (fun r hr0 => by rw [s.hi 102 (by decide)]; exact (hsr r hr0).2.1) a b) (h1.m s2)
  exact x_icmp_eq cLaw_764 (fun _ => K _ _ _ key.2) (fun q => absurd key.1 q)
theorem lc_rests {L : Nat} {xs : Nat → Int32} {I : IT} {J : JT} {P : PT} {t : Nat} (hL : L ≤ 3072) (ht : 6 * t + 6 ≤ L) (h : Inv I J P) (K : ∀ I' J' P', Inv I' J' P' → xj yLaw (GM L xs) 1014 [some (.ref 0), some (.ref 1), some (.ref 90), some (.int (nI (6 * t)))] [] (hp I' J' P') 155 1199) : xj yLaw (GM L xs) 769 [some (.ref 0), some (.ref 1), some (.ref 90), some (.int (nI (6 * t)))] [] (hp I J P) 155 1199 := by
  obtain ⟨c, hc5, hc, hcM, he, hr⟩ := h.now
  refine x_aload_1 cLaw_769 ?_
  refine x_scr (jn := 1) cLaw_770 cLaw_771 cLaw_772 cLaw_773 cLaw_774 rfl (by decide) ht hL ?_
  refine x_scr (jn := 2) cLaw_775 cLaw_776 cLaw_777 cLaw_778 cLaw_779 rfl (by decide) ht hL ?_
  refine x_scr (jn := 3) cLaw_780 cLaw_781 cLaw_782 cLaw_783 cLaw_784 rfl (by decide) ht hL ?_
  refine x_scr (jn := 4) cLaw_785 cLaw_786 cLaw_787 cLaw_788 cLaw_789 rfl (by decide) ht hL ?_
  refine x_scr (jn := 5) cLaw_790 cLaw_791 cLaw_792 cLaw_793 cLaw_794 rfl (by decide) ht hL ?_
  refine x_v5 (ls0 := [some _, some _, some _, some _, some _, some _, none]) cLaw_795 kLaw_110 okK_rests ⟨(Nat.le_of_ble_eq_true rfl), (Nat.le_of_ble_eq_true rfl)⟩ (Nat.le_of_ble_eq_true rfl) rfl (Nat.le_of_ble_eq_true rfl) rfl ⟨_, rfl, rfl⟩ rfl rfl (Nat.le_of_ble_eq_true rfl) (Nat.le_of_ble_eq_true rfl) ?_
  refine k_rests hc hc5 (fun r I1 a s => ?_)
  dsimp only [pushR]
  obtain ⟨h1, hc1, he1, hr1⟩ := h.nowC s hcM he hr
  refine x_aload_2 cLaw_798 ?_
  refine x_scr (jn := 1) cLaw_799 cLaw_800 cLaw_801 cLaw_802 cLaw_803 rfl (by decide) ht hL ?_
  refine x_scr (jn := 2) cLaw_804 cLaw_805 cLaw_806 cLaw_807 cLaw_808 rfl (by decide) ht hL ?_
  refine x_scr (jn := 3) cLaw_809 cLaw_810 cLaw_811 cLaw_812 cLaw_813 rfl (by decide) ht hL ?_
  refine x_scr (jn := 4) cLaw_814 cLaw_815 cLaw_816 cLaw_817 cLaw_818 rfl (by decide) ht hL ?_
  refine x_scr (jn := 5) cLaw_819 cLaw_820 cLaw_821 cLaw_822 cLaw_823 rfl (by decide) ht hL ?_
  refine x_v5 (ls0 := [some _, some _, some _, some _, some _, some _]) cLaw_824 kLaw_114 okM_rests ⟨(Nat.le_of_ble_eq_true rfl), (Nat.le_of_ble_eq_true rfl)⟩ (Nat.le_of_ble_eq_true rfl) rfl (Nat.le_of_ble_eq_true rfl) rfl ⟨_, rfl, rfl⟩ rfl rfl (Nat.le_of_ble_eq_true rfl) (Nat.le_of_ble_eq_true rfl) ?_
  refine m_rests hc1 hc5 (fun i j a b _ _ _ ha hb => (hr1.b0 ha hb).rg) (fun i j a b hi hj _ zp zq ha hb => ⟨(hr1.b0 ha hb).ds hc5 hi (sm_20 zp), (hr1.b0 ha hb).ds hc5 hj (sm_20 zq)⟩) (fun r2 I2 hM => ?_)
  dsimp only [pushR]
  obtain ⟨b, s2⟩ := hM
  have key := And.intro (ag_rests he1 a b) (h1.m s2)
  exact x_icmp_eq cLaw_827 (fun _ => K _ _ _ key.2) (fun q => absurd key.1 q)
theorem lc_gusts {L : Nat} {xs : Nat → Int32} {I : IT} {J : JT} {P : PT} {t : Nat} (hL : L ≤ 3072) (ht : 6 * t + 6 ≤ L) (h : Inv I J P) (K : ∀ I' J' P', Inv I' J' P' → xj yLaw (GM L xs) 1014 [some (.ref 0), some (.ref 1), some (.ref 90), some (.int (nI (6 * t)))] [] (hp I' J' P') 155 1199) : xj yLaw (GM L xs) 832 [some (.ref 0), some (.ref 1), some (.ref 90), some (.int (nI (6 * t)))] [] (hp I J P) 155 1199 := by
  obtain ⟨c, hc5, hc, hcM, he, hr⟩ := h.now
  refine x_aload_1 cLaw_832 ?_
  refine x_scr (jn := 1) cLaw_833 cLaw_834 cLaw_835 cLaw_836 cLaw_837 rfl (by decide) ht hL ?_
  refine x_scr (jn := 2) cLaw_838 cLaw_839 cLaw_840 cLaw_841 cLaw_842 rfl (by decide) ht hL ?_
  refine x_scr (jn := 3) cLaw_843 cLaw_844 cLaw_845 cLaw_846 cLaw_847 rfl (by decide) ht hL ?_
  refine x_if_eq cLaw_848 (fun z => ?_) (fun z => ?_)
  · refine x_iconst 0 (by decide) cLaw_855 ?_
    refine x_v3 (ls0 := [some _, some _, some _, some _, none]) cLaw_856 kLaw_115 okK_gusts ⟨(Nat.le_of_ble_eq_true rfl), (Nat.le_of_ble_eq_true rfl)⟩ (Nat.le_of_ble_eq_true rfl) rfl (Nat.le_of_ble_eq_true rfl) rfl ⟨_, rfl, rfl⟩ rfl rfl (Nat.le_of_ble_eq_true rfl) (Nat.le_of_ble_eq_true rfl) ?_
    refine k_gusts hc hc5 (fun z1 z2 => gu_ab z1 z2) (fun r I1 hR => ?_)
    dsimp only [pushR]
    obtain ⟨a, s⟩ := hR
    obtain ⟨h1, hc1, he1, hr1⟩ := h.nowC s hcM he hr
    refine x_aload_2 cLaw_859 ?_
    refine x_scr (jn := 1) cLaw_860 cLaw_861 cLaw_862 cLaw_863 cLaw_864 rfl (by decide) ht hL ?_
    refine x_scr (jn := 2) cLaw_865 cLaw_866 cLaw_867 cLaw_868 cLaw_869 rfl (by decide) ht hL ?_
    refine x_scr (jn := 3) cLaw_870 cLaw_871 cLaw_872 cLaw_873 cLaw_874 rfl (by decide) ht hL ?_
    refine x_if_eq cLaw_875 (fun _ => ?_) (fun q => absurd z q)
    refine x_iconst 0 (by decide) cLaw_882 ?_
    refine x_v3 (ls0 := [some _, some _, some _, some _, none, none, none]) cLaw_883 kLaw_119 okM_gusts ⟨(Nat.le_of_ble_eq_true rfl), (Nat.le_of_ble_eq_true rfl)⟩ (Nat.le_of_ble_eq_true rfl) rfl (Nat.le_of_ble_eq_true rfl) rfl ⟨_, rfl, rfl⟩ rfl rfl (Nat.le_of_ble_eq_true rfl) (Nat.le_of_ble_eq_true rfl) ?_
    refine m_gusts hc1 hc5 (fun g hg => (hr1.gd hg).rg) (fun z1 z2 => gu_ab z1 z2) (fun r2 I2 hM => ?_)
    dsimp only [pushR]
    obtain ⟨b, s2⟩ := hM
    have key := And.intro (ag_gusts he1 a b) (h1.m s2)
    exact x_icmp_eq cLaw_886 (fun _ => K _ _ _ key.2) (fun q => absurd key.1 q)
  · refine x_iconst 1 (by decide) cLaw_851 ?_
    refine x_goto cLaw_852 ?_
    refine x_v3 (ls0 := [some _, some _, some _, some _, none]) cLaw_856 kLaw_115 okK_gusts ⟨(Nat.le_of_ble_eq_true rfl), (Nat.le_of_ble_eq_true rfl)⟩ (Nat.le_of_ble_eq_true rfl) rfl (Nat.le_of_ble_eq_true rfl) rfl ⟨_, rfl, rfl⟩ rfl rfl (Nat.le_of_ble_eq_true rfl) (Nat.le_of_ble_eq_true rfl) ?_
    refine k_gusts hc hc5 (fun z1 z2 => gu_ab z1 z2) (fun r I1 hR => ?_)
    dsimp only [pushR]
    obtain ⟨a, s⟩ := hR
    obtain ⟨h1, hc1, he1, hr1⟩ := h.nowC s hcM he hr
    refine x_aload_2 cLaw_859 ?_
    refine x_scr (jn := 1) cLaw_860 cLaw_861 cLaw_862 cLaw_863 cLaw_864 rfl (by decide) ht hL ?_
    refine x_scr (jn := 2) cLaw_865 cLaw_866 cLaw_867 cLaw_868 cLaw_869 rfl (by decide) ht hL ?_
    refine x_scr (jn := 3) cLaw_870 cLaw_871 cLaw_872 cLaw_873 cLaw_874 rfl (by decide) ht hL ?_
    refine x_if_eq cLaw_875 (fun q => absurd q z) (fun _ => ?_)
    refine x_iconst 1 (by decide) cLaw_878 ?_
    refine x_goto cLaw_879 ?_
    refine x_v3 (ls0 := [some _, some _, some _, some _, none, none, none]) cLaw_883 kLaw_119 okM_gusts ⟨(Nat.le_of_ble_eq_true rfl), (Nat.le_of_ble_eq_true rfl)⟩ (Nat.le_of_ble_eq_true rfl) rfl (Nat.le_of_ble_eq_true rfl) rfl ⟨_, rfl, rfl⟩ rfl rfl (Nat.le_of_ble_eq_true rfl) (Nat.le_of_ble_eq_true rfl) ?_
    refine m_gusts hc1 hc5 (fun g hg => (hr1.gd hg).rg) (fun z1 z2 => gu_ab z1 z2) (fun r2 I2 hM => ?_)
    dsimp only [pushR]
    obtain ⟨b, s2⟩ := hM
    have key := And.intro (ag_gusts he1 a b) (h1.m s2)
    exact x_icmp_eq cLaw_886 (fun _ => K _ _ _ key.2) (fun q => absurd key.1 q)
theorem lc_seed {L : Nat} {xs : Nat → Int32} {I : IT} {J : JT} {P : PT} {t : Nat} (hL : L ≤ 3072) (ht : 6 * t + 6 ≤ L) (h : Inv I J P) (K : ∀ I' J' P', Inv I' J' P' → xj yLaw (GM L xs) 1014 [some (.ref 0), some (.ref 1), some (.ref 90), some (.int (nI (6 * t)))] [] (hp I' J' P') 155 1199) : xj yLaw (GM L xs) 891 [some (.ref 0), some (.ref 1), some (.ref 90), some (.int (nI (6 * t)))] [] (hp I J P) 155 1199 := by
  refine x_aload_1 cLaw_891 ?_
  refine x_scr (jn := 1) cLaw_892 cLaw_893 cLaw_894 cLaw_895 cLaw_896 rfl (by decide) ht hL ?_
  refine x_i2l cLaw_897 ?_
  refine x_bipush 32 (by decide) cLaw_898 ?_
  refine x_lshl cLaw_900 ?_
  refine x_scr (jn := 2) cLaw_901 cLaw_902 cLaw_903 cLaw_904 cLaw_905 rfl (by decide) ht hL ?_
  refine x_i2l cLaw_906 ?_
  refine x_ldc2 cLaw_907 qLaw_120 ?_
  refine x_land cLaw_910 ?_
  refine x_lor cLaw_911 ?_
  refine x_v1 (ls0 := [some _, some _, none, none, none]) cLaw_912 kLaw_122 okK_seed ⟨(Nat.le_of_ble_eq_true rfl), (Nat.le_of_ble_eq_true rfl)⟩ (Nat.le_of_ble_eq_true rfl) rfl (Nat.le_of_ble_eq_true rfl) rfl ⟨_, rfl, rfl⟩ rfl rfl (Nat.le_of_ble_eq_true rfl) (Nat.le_of_ble_eq_true rfl) ?_
  refine k_seed ?_
  dsimp only [pushR]
  refine x_aload_2 cLaw_915 ?_
  refine x_scr (jn := 1) cLaw_916 cLaw_917 cLaw_918 cLaw_919 cLaw_920 rfl (by decide) ht hL ?_
  refine x_i2l cLaw_921 ?_
  refine x_bipush 32 (by decide) cLaw_922 ?_
  refine x_lshl cLaw_924 ?_
  refine x_scr (jn := 2) cLaw_925 cLaw_926 cLaw_927 cLaw_928 cLaw_929 rfl (by decide) ht hL ?_
  refine x_i2l cLaw_930 ?_
  refine x_ldc2 cLaw_931 qLaw_120 ?_
  refine x_land cLaw_934 ?_
  refine x_lor cLaw_935 ?_
  refine x_v1 (ls0 := [some _, some _, none, none, none]) cLaw_936 kLaw_126 okM_seed ⟨(Nat.le_of_ble_eq_true rfl), (Nat.le_of_ble_eq_true rfl)⟩ (Nat.le_of_ble_eq_true rfl) rfl (Nat.le_of_ble_eq_true rfl) rfl ⟨_, rfl, rfl⟩ rfl rfl (Nat.le_of_ble_eq_true rfl) (Nat.le_of_ble_eq_true rfl) ?_
  refine m_seed ?_
  dsimp only [pushR]
  have key := And.intro (show J 1 = uJ J 1 ((((xs (6 * t + 1))).toInt64 <<< ((32 : Int32).toInt64 &&& 63)) ||| (((xs (6 * t + 2))).toInt64 &&& 4294967295)) 90 from h.j.trans (by simp [uJ])) (inv_seed (v := ((((xs (6 * t + 1))).toInt64 <<< ((32 : Int32).toInt64 &&& 63)) ||| (((xs (6 * t + 2))).toInt64 &&& 4294967295))) h (SameM.th I))
  refine x_lcmp cLaw_939 ?_
  exact x_if_eq cLaw_940 (fun _ => K _ _ _ key.2) (fun q => absurd ((lg_cmp_eq _ _).mpr key.1) q)
theorem lc_afternoons {L : Nat} {xs : Nat → Int32} {I : IT} {J : JT} {P : PT} {t : Nat} (hL : L ≤ 3072) (ht : 6 * t + 6 ≤ L) (h : Inv I J P) (K : ∀ I' J' P', Inv I' J' P' → xj yLaw (GM L xs) 1014 [some (.ref 0), some (.ref 1), some (.ref 90), some (.int (nI (6 * t)))] [] (hp I' J' P') 155 1199) : xj yLaw (GM L xs) 945 [some (.ref 0), some (.ref 1), some (.ref 90), some (.int (nI (6 * t)))] [] (hp I J P) 155 1199 := by
  obtain ⟨c, hc5, hc, hcM, he, hr⟩ := h.now
  refine x_aload_1 cLaw_945 ?_
  refine x_scr (jn := 1) cLaw_946 cLaw_947 cLaw_948 cLaw_949 cLaw_950 rfl (by decide) ht hL ?_
  refine x_v1 (ls0 := [some _, some _, none, none, none]) cLaw_951 kLaw_127 okK_afternoons ⟨(Nat.le_of_ble_eq_true rfl), (Nat.le_of_ble_eq_true rfl)⟩ (Nat.le_of_ble_eq_true rfl) rfl (Nat.le_of_ble_eq_true rfl) rfl ⟨_, rfl, rfl⟩ rfl rfl (Nat.le_of_ble_eq_true rfl) (Nat.le_of_ble_eq_true rfl) ?_
  refine k_afternoons hc hc5 (fun r I1 J1 a s => ?_)
  dsimp only [pushR]
  obtain ⟨h1, hc1, he1, hr1⟩ := h.nowC s hcM he hr
  refine x_aload_2 cLaw_954 ?_
  refine x_scr (jn := 1) cLaw_955 cLaw_956 cLaw_957 cLaw_958 cLaw_959 rfl (by decide) ht hL ?_
  refine x_v1 (ls0 := [some _, some _, none, none, none]) cLaw_960 kLaw_130 okM_afternoons ⟨(Nat.le_of_ble_eq_true rfl), (Nat.le_of_ble_eq_true rfl)⟩ (Nat.le_of_ble_eq_true rfl) rfl (Nat.le_of_ble_eq_true rfl) rfl ⟨_, rfl, rfl⟩ rfl rfl (Nat.le_of_ble_eq_true rfl) (Nat.le_of_ble_eq_true rfl) ?_
  refine m_afternoons hc1 hc5 (fun s => (hr1.ad s).rg) (fun r2 I2 J2 b s2 => ?_)
  dsimp only [pushR]
  have key := inv_afternoons h he1 a s b s2
  exact x_icmp_eq cLaw_963 (fun _ => K _ _ _ key.2) (fun q => absurd key.1 q)
theorem lc_keep {L : Nat} {xs : Nat → Int32} {I : IT} {J : JT} {P : PT} {t : Nat} (hL : L ≤ 3072) (ht : 6 * t + 6 ≤ L) (h : Inv I J P) (K : ∀ I' J' P', Inv I' J' P' → xj yLaw (GM L xs) 1014 [some (.ref 0), some (.ref 1), some (.ref 90), some (.int (nI (6 * t)))] [] (hp I' J' P') 155 1199) : xj yLaw (GM L xs) 968 [some (.ref 0), some (.ref 1), some (.ref 90), some (.int (nI (6 * t)))] [] (hp I J P) 155 1199 := by
  obtain ⟨c, hc5, hc, hcM, he, hr⟩ := h.now
  refine x_aload_1 cLaw_968 ?_
  refine x_scr (jn := 1) cLaw_969 cLaw_970 cLaw_971 cLaw_972 cLaw_973 rfl (by decide) ht hL ?_
  refine x_v1 (ls0 := [some _, some _, none]) cLaw_974 kLaw_131 okK_keep ⟨(Nat.le_of_ble_eq_true rfl), (Nat.le_of_ble_eq_true rfl)⟩ (Nat.le_of_ble_eq_true rfl) rfl (Nat.le_of_ble_eq_true rfl) rfl ⟨_, rfl, rfl⟩ rfl rfl (Nat.le_of_ble_eq_true rfl) (Nat.le_of_ble_eq_true rfl) ?_
  refine k_keep hc hc5 h.r.2 (fun r I1 hR => ?_)
  dsimp only [pushR]
  have z : ∀ y, 89 < y → I1 y = I y := fun y hy => hi_keep hR hy
  refine x_aload_2 cLaw_977 ?_
  refine x_scr (jn := 1) cLaw_978 cLaw_979 cLaw_980 cLaw_981 cLaw_982 rfl (by decide) ht hL ?_
  refine x_v1 (ls0 := [some _, some _, none]) cLaw_983 kLaw_134 okM_keep ⟨(Nat.le_of_ble_eq_true rfl), (Nat.le_of_ble_eq_true rfl)⟩ (Nat.le_of_ble_eq_true rfl) rfl (Nat.le_of_ble_eq_true rfl) rfl ⟨_, rfl, rfl⟩ rfl rfl (Nat.le_of_ble_eq_true rfl) (Nat.le_of_ble_eq_true rfl) ?_
  refine m_keep (by rw [z 96 (by decide)]; exact hcM) (fun r2 I2 hM => ?_)
  dsimp only [pushR]
  have key := inv_keep h hc hc5 hR hM
  exact x_icmp_eq cLaw_986 (fun _ => K _ _ _ key.2) (fun q => absurd key.1 q)
theorem lc_again {L : Nat} {xs : Nat → Int32} {I : IT} {J : JT} {P : PT} {t : Nat} (hL : L ≤ 3072) (ht : 6 * t + 6 ≤ L) (h : Inv I J P) (K : ∀ I' J' P', Inv I' J' P' → xj yLaw (GM L xs) 1014 [some (.ref 0), some (.ref 1), some (.ref 90), some (.int (nI (6 * t)))] [] (hp I' J' P') 155 1199) : xj yLaw (GM L xs) 991 [some (.ref 0), some (.ref 1), some (.ref 90), some (.int (nI (6 * t)))] [] (hp I J P) 155 1199 := by
  refine x_aload_1 cLaw_991 ?_
  refine x_scr (jn := 1) cLaw_992 cLaw_993 cLaw_994 cLaw_995 cLaw_996 rfl (by decide) ht hL ?_
  refine x_v1 (ls0 := [some _, some _, none]) cLaw_997 kLaw_135 okK_again ⟨(Nat.le_of_ble_eq_true rfl), (Nat.le_of_ble_eq_true rfl)⟩ (Nat.le_of_ble_eq_true rfl) rfl (Nat.le_of_ble_eq_true rfl) rfl ⟨_, rfl, rfl⟩ rfl rfl (Nat.le_of_ble_eq_true rfl) (Nat.le_of_ble_eq_true rfl) ?_
  refine k_again h.r.2 (fun s hs z => by rw [(h.k s hs).1] at z; obtain ⟨c, c1, c2, -⟩ := ((h.k s hs).2 z).cnt; exact ⟨c, c1, c2⟩) (fun r I1 hR => ?_)
  dsimp only [pushR]
  have z : ∀ y, 89 < y → I1 y = I y := fun y hy => hi_again hR hy
  refine x_aload_2 cLaw_1000 ?_
  refine x_scr (jn := 1) cLaw_1001 cLaw_1002 cLaw_1003 cLaw_1004 cLaw_1005 rfl (by decide) ht hL ?_
  refine x_v1 (ls0 := [some _, some _, none]) cLaw_1006 kLaw_138 okM_again ⟨(Nat.le_of_ble_eq_true rfl), (Nat.le_of_ble_eq_true rfl)⟩ (Nat.le_of_ble_eq_true rfl) rfl (Nat.le_of_ble_eq_true rfl) rfl ⟨_, rfl, rfl⟩ rfl rfl (Nat.le_of_ble_eq_true rfl) (Nat.le_of_ble_eq_true rfl) ?_
  refine m_again (fun r2 I2 hM => ?_)
  dsimp only [pushR]
  have key := inv_again h hR hM
  exact x_icmp_eq cLaw_1009 (fun _ => K _ _ _ key.2) (fun q => absurd key.1 q)
