theorem s_begin_loop {Po : Option Value → HS → Prop} {I : IT} {J : JT} {P : PT} (hq : ∀ I', (∀ a, a ≠ 97 → I' a = I a) → (∀ j, j < 13 → I' 97 j = I 96 j) → Po none (hp I' J P)) : ∀ n k, k + n = 13 → ∀ I', (∀ a, a ≠ 97 → I' a = I a) → (∀ j, j < k → I' 97 j = I 96 j) → xj yM_begin (mG yM_begin Po) 2 [some (.ref 90), some (.int (nI k))] [] (hp I' J P) 0 0 := by
  intro n
  induction n with
  | zero =>
    intro k hk I' hf ha
    obtain rfl : k = 13 := by omega
    refine x_iload_1 cM_begin_2 ?_
    refine x_bipush 13 (by decide) cM_begin_3 ?_
    refine x_icmp_ge cM_begin_5 (fun q5 => ?_) (fun q5 => absurd q5 (fun z => z (by decide)))
    refine x_return cM_begin_26 rfl (Nat.zero_le _) (Nat.zero_le _) ?_
    exact hq I' hf ha
  | succ n ih =>
    intro k hk I' hf ha
    have hk13 : k < 13 := by omega
    refine x_iload_1 cM_begin_2 ?_
    refine x_bipush 13 (by decide) cM_begin_3 ?_
    refine x_icmp_ge cM_begin_5 (fun q5 => absurd q5 (nI_ge hk13 (by decide))) (fun q5 => ?_)
    refine x_aload_0 cM_begin_8 ?_
    refine x_gR (b := 97) cM_begin_9 fM_32 rfl rfl rfl ?_
    refine x_iload_1 cM_begin_12 ?_
    refine x_aload_0 cM_begin_13 ?_
    refine x_gR (b := 96) cM_begin_14 fM_29 rfl rfl rfl ?_
    refine x_iload_1 cM_begin_17 ?_
    refine x_al (k) cM_begin_18 rfl rfl (by omega) (by decide) ?_
    rw [hf 96 (by decide)]
    refine x_as (k) cM_begin_19 rfl rfl (by omega) (by decide) ?_
    refine x_iinc_1 (nI (k + 1)) cM_begin_20 rfl (nI_inc k) (Nat.le_of_ble_eq_true rfl) ?_
    refine x_goto cM_begin_23 ?_
    refine ih (k + 1) (by omega) _ (fun a h => by rw [u2_n h]; exact hf a h) (fun j hj => ?_)
    rcases Nat.lt_or_ge j k with z | z
    · rw [u2_sn (by omega)]; exact ha j z
    · obtain rfl : j = k := by omega
      rw [u2_ss]
theorem s_begin {Po : Option Value → HS → Prop} {I : IT} {J : JT} {P : PT} (hq : ∀ I', (∀ a, a ≠ 97 → I' a = I a) → (∀ j, j < 13 → I' 97 j = I 96 j) → Po none (hp I' J P)) : xj yM_begin (mG yM_begin Po) 0 [some (.ref 90), none] [] (hp I J P) 0 0 := by
  refine x_iconst 0 (by decide) cM_begin_0 ?_
  refine x_istore_1 cM_begin_1 rfl (Nat.le_of_ble_eq_true rfl) ?_
  exact s_begin_loop hq 13 0 (by decide) _ (fun _ _ => rfl) (fun j hj => absurd hj (Nat.not_lt_zero j))
theorem dig_lt {b c t k : Nat} (hb : 0 < b) : dig b c t k < b := Nat.mod_lt _ hb
theorem sum_n (f : Nat → Nat) (M : Nat) (hf : ∀ k, f k ≤ M) : ∀ n, ∃ m, m ≤ M * n ∧ sumI (fun k => nI (f k)) n = nI m
  | 0 => ⟨0, by omega, rfl⟩
  | n + 1 => by
    obtain ⟨m, h1, h2⟩ := sum_n f M hf n
    refine ⟨m + f n, by have := hf n; rw [Nat.mul_succ]; omega, ?_⟩
    simp only [sumI]
    rw [h2, nI_add]
theorem num_n (f : Nat → Nat) (hf : ∀ k, f k ≤ 9) : ∀ n, ∃ m, m < 10 ^ n ∧ numI (fun k => nI (f k)) n = nI m
  | 0 => ⟨0, by decide, rfl⟩
  | n + 1 => by
    obtain ⟨m, h1, h2⟩ := num_n f hf n
    refine ⟨10 * m + f n, by have := hf n; rw [Nat.pow_succ]; omega, ?_⟩
    simp only [numI]
    rw [h2, show (10 : Int32) * nI m = nI (10 * m) from pk_mul 10 m, nI_add]
theorem ch_n (b : Nat → Int32) (f : Nat → Int32) : ∀ n, ∃ m, m ≤ n ∧ chI b f n = nI m
  | 0 => ⟨0, by decide, rfl⟩
  | n + 1 => by
    obtain ⟨m, h1, h2⟩ := ch_n b f n
    simp only [chI]
    split
    · exact ⟨m, by omega, h2⟩
    · exact ⟨m + 1, by omega, by rw [h2, nI_1]⟩
theorem num_ok {b c t : Nat} (hb : b ≤ 9) (h0 : 0 < b) (hc5 : c ≤ 5) : ¬ numW b c t = -9 := by
  obtain ⟨m, h1, h2⟩ := num_n (dig b c t) (fun k => by have := dig_lt (c := c) (t := t) (k := k) h0; omega) c
  have : (10 : Nat) ^ c ≤ 100000 := Nat.le_trans (Nat.pow_le_pow_right (by decide) hc5) (by decide)
  intro z
  have z2 := congrArg Int32.toInt (h2.symm.trans z)
  rw [nI_toInt (by omega)] at z2
  have e : (-9 : Int32).toInt = -9 := by decide
  omega
theorem costY_ok {c t : Nat} (hc5 : c ≤ 5) : costY c t < 9999 ∧ ¬ costY c t = -9 := by
  obtain ⟨m, h1, h2⟩ := sum_n (dig 4 c t) 3 (fun k => by have := dig_lt (b := 4) (c := c) (t := t) (k := k) (by decide); omega) c
  unfold costY
  rw [h2]
  exact ⟨nI_lt (b := 9999) (by omega) (by decide), nI_n9 (by omega)⟩
theorem costB_ok {D : LD} {c t : Nat} (hc5 : c ≤ 5) : costB D c t < 9999 ∧ ¬ costB D c t = -9 := by
  obtain ⟨m, h1, h2⟩ := ch_n (dB D) (fun k => nI (dig 5 c t k)) c
  unfold costB
  rw [h2]
  exact ⟨nI_lt (b := 9999) (by omega) (by decide), nI_n9 (by omega)⟩
/-- the model's least cost and its number beside those of the class -/
def MS (cost best a b : Int32) : Prop := (a = -9 ∧ b = -9 ∧ best = -9 ∧ cost = 9999) ∨ (best = b ∧ cost = a ∧ ¬ a = -9 ∧ ¬ b = -9)
theorem MS.lt {cost best a b v : Int32} (h : MS cost best a b) (hv : v < 9999) : ¬ cost ≤ v ↔ (a = -9 ∨ v < a) := by
  rcases h with ⟨h1, h2, h3, h4⟩ | ⟨h1, h2, h3, h4⟩
  · rw [h4]; exact ⟨fun _ => Or.inl h1, fun _ => nle_of hv⟩
  · rw [h2]
    exact ⟨fun z => Or.inr (Int32.not_le.mp z), fun z => z.elim (fun w => absurd w h3) nle_of⟩
theorem sch_no {cost num : Nat → Int32} {ok : Nat → Prop} {t : Nat} {a b : Int32} (h : Sch cost num ok t a b) (n : ¬ ((a = -9 ∨ cost t < a) ∧ ok t)) : Sch cost num ok (t + 1) a b := ⟨a, b, h, fun z => absurd z n, fun _ => ⟨rfl, rfl⟩⟩
theorem sch_yes {cost num : Nat → Int32} {ok : Nat → Prop} {t : Nat} {a b : Int32} (h : Sch cost num ok t a b) (n : (a = -9 ∨ cost t < a) ∧ ok t) : Sch cost num ok (t + 1) (cost t) (num t) := ⟨a, b, h, fun _ => ⟨rfl, rfl⟩, fun z => absurd n z⟩
theorem Rg.leq {D E : LD} {c : Nat} (h : LEq D E c) (g : Rg E c) : Rg D c := fun k hk => by
  have e1 : fL D k = fL E k := by
    unfold fL
    rw [(h.fl (k + 1) (by omega)).1, h.2.1, h.2.2.1, h.2.2.2.1, (h.1 k hk).2.1]
  rw [e1, (h.fl k (by omega)).2.2.1]
  exact g k hk
theorem Rv.leq {D E : LD} {c : Nat} {x : Int32} (h : LEq D E c) (g : Rv E c x) : Rv D c x := by
  unfold Rv
  rw [(h.fl c (Nat.le_refl c)).2.1]
  exact g
theorem s_wayY_in {G : GT} {I : IT} {J : JT} {P : PT} {c t : Nat} {x : Int32} (hc5 : c ≤ 5) (ht : t < 4 ^ c) (hq : ∀ I2 v, (∀ a, a ≠ 97 → I2 a = I a) → (∀ j, j < 3 → I2 97 j = I 96 j) → (∀ i, i < c → I2 97 (3 + i) = I 96 (3 + i) + nI (dig 4 c t i)) → (∀ i, c ≤ i → i < 5 → I2 97 (3 + i) = I 96 (3 + i)) → (∀ i, i < 5 → I2 97 (8 + i) = I 96 (8 + i)) → ((v = 1 ∧ ∀ i, i < c → nI (dig 4 c t i) = 0 ∨ I 96 (3 + i) + nI (dig 4 c t i) ≤ 30) ∨ (v = 0 ∧ ¬ ∀ i, i < c → nI (dig 4 c t i) = 0 ∨ I 96 (3 + i) + nI (dig 4 c t i) ≤ 30)) → ∀ g, xj yM_findWay G 65 [some (.ref 90), some (.int x), some (.int 1), some (.int (nI c)), some (.int (nI 4)), some (.int (nI t)), some (.int (sumI (fun k => nI (dig 4 c t k)) c)), some (.int (numI (fun k => nI (dig 4 c t k)) c)), some (.int v), some (.int (nI c)), g] [] (hp I2 J P) 0 0) : ∀ n k, k + n = c → ∀ I2 v, (∀ a, a ≠ 97 → I2 a = I a) → (∀ j, j < 3 → I2 97 j = I 96 j) → (∀ i, i < k → I2 97 (3 + i) = I 96 (3 + i) + nI (dig 4 c t i)) → (∀ i, k ≤ i → i < 5 → I2 97 (3 + i) = I 96 (3 + i)) → (∀ i, i < 5 → I2 97 (8 + i) = I 96 (8 + i)) → ((v = 1 ∧ ∀ i, i < k → nI (dig 4 c t i) = 0 ∨ I 96 (3 + i) + nI (dig 4 c t i) ≤ 30) ∨ (v = 0 ∧ ¬ ∀ i, i < k → nI (dig 4 c t i) = 0 ∨ I 96 (3 + i) + nI (dig 4 c t i) ≤ 30)) → ∀ g, xj yM_findWay G 65 [some (.ref 90), some (.int x), some (.int 1), some (.int (nI c)), some (.int (nI 4)), some (.int (nI t)), some (.int (sumI (fun k => nI (dig 4 c t k)) k)), some (.int (numI (fun k => nI (dig 4 c t k)) k)), some (.int v), some (.int (nI k)), g] [] (hp I2 J P) 0 0 := by
  have hpow : 4 ^ c ≤ 1024 := Nat.le_trans (Nat.pow_le_pow_right (by decide) hc5) (by decide)
  intro n
  induction n with
  | zero =>
    intro k hk I2 v hf h0 h1 h2 h3 hv g
    obtain rfl : k = c := by omega
    exact hq I2 v hf h0 h1 h2 h3 hv g
  | succ n ih =>
    intro k hk I2 v hf h0 h1 h2 h3 hv g
    have hkc : k < c := by omega
    have hpp : 0 < 4 ^ (c - 1 - k) := Nat.pow_pos (by decide)
    have hpl : 4 ^ (c - 1 - k) ≤ 1024 := Nat.le_trans (Nat.pow_le_pow_right (by decide) (show c - 1 - k ≤ c by omega)) hpow
    have hdl : dig 4 c t k < 4 := dig_lt (by decide)
    have htd : t / 4 ^ (c - 1 - k) ≤ t := Nat.div_le_self _ _
    refine x_iload_9 cM_findWay_65 ?_
    refine x_iload_3 cM_findWay_67 ?_
    refine x_icmp_ge cM_findWay_68 (fun q68 => absurd q68 (nI_ge hkc (by omega))) (fun q68 => ?_)
    refine x_iload_5 cM_findWay_71 ?_
    refine x_iload_4 cM_findWay_73 ?_
    refine x_iload_3 cM_findWay_75 ?_
    refine x_iconst 1 (by decide) cM_findWay_76 ?_
    refine x_isub cM_findWay_77 ?_
    refine x_top (nI (c - 1)) (pk_sub (b := 1) (by omega)) ?_
    refine x_iload_9 cM_findWay_78 ?_
    refine x_isub cM_findWay_80 ?_
    refine x_top (nI (c - 1 - k)) (pk_sub (by omega)) ?_
    refine x_s2 (ls0 := [some _, some _, none, none]) cM_findWay_81 kM_165 okM_power ⟨(Nat.le_of_ble_eq_true rfl), (Nat.le_of_ble_eq_true rfl)⟩ (Nat.le_of_ble_eq_true rfl) rfl (Nat.le_of_ble_eq_true rfl) rfl rfl (Nat.zero_le _) (Nat.zero_le _) ?_
    refine s_power (m := c - 1 - k) (by omega) ?_
    dsimp only [pushR]
    refine x_top (nI (4 ^ (c - 1 - k))) (powI_n 4 _) ?_
    refine x_idiv (nI_ne0 hpp (by omega)) cM_findWay_84 ?_
    refine x_top (nI (t / 4 ^ (c - 1 - k))) (pk_div (by omega) hpp (by omega)) ?_
    refine x_iload_4 cM_findWay_85 ?_
    refine x_irem (by decide) cM_findWay_87 ?_
    refine x_top (nI (dig 4 c t k)) (pk_rem (d := 4) (by omega) (by decide) (by decide)) ?_
    refine x_istore_10 cM_findWay_88 rfl (Nat.le_of_ble_eq_true rfl) ?_
    refine x_bipush 10 (by decide) cM_findWay_90 ?_
    refine x_iload_7 cM_findWay_92 ?_
    refine x_imul cM_findWay_94 ?_
    refine x_iload_10 cM_findWay_95 ?_
    refine x_iadd cM_findWay_97 ?_
    refine x_istore_7 cM_findWay_98 rfl (Nat.le_of_ble_eq_true rfl) ?_
    refine x_iload_2 cM_findWay_100 ?_
    refine x_if_eq cM_findWay_101 (fun q101 => absurd q101 (by decide)) (fun q101 => ?_)
    refine x_aload_0 cM_findWay_104 ?_
    refine x_gR (b := 97) cM_findWay_105 fM_32 rfl rfl rfl ?_
    refine x_iconst 3 (by decide) cM_findWay_108 ?_
    refine x_iload_9 cM_findWay_109 ?_
    refine x_iadd cM_findWay_111 ?_
    refine x_dup2 rfl rfl cM_findWay_112 ?_
    refine x_al (3 + k) cM_findWay_113 rfl (nI_add 3 k) (by omega) (by decide) ?_
    refine x_iload_10 cM_findWay_114 ?_
    refine x_iadd cM_findWay_116 ?_
    refine x_as (3 + k) cM_findWay_117 rfl (nI_add 3 k) (by omega) (by decide) ?_
    refine x_iload_6 cM_findWay_118 ?_
    refine x_iload_10 cM_findWay_120 ?_
    refine x_iadd cM_findWay_122 ?_
    refine x_istore_6 cM_findWay_123 rfl (Nat.le_of_ble_eq_true rfl) ?_
    refine x_iload_8 cM_findWay_125 ?_
    refine x_if_eq cM_findWay_127 (fun q127 => ?_) (fun q127 => ?_)
    · refine x_iconst 0 (by decide) cM_findWay_153 ?_
      refine x_istore_8 cM_findWay_154 rfl (Nat.le_of_ble_eq_true rfl) ?_
      refine x_goto cM_findWay_156 ?_
      refine x_iinc_9 (nI (k + 1)) cM_findWay_200 rfl (nI_inc k) (Nat.le_of_ble_eq_true rfl) ?_
      refine x_goto cM_findWay_203 ?_
      refine ih (k + 1) (by omega) _ 0 (fun a h => by rw [u2_n h]; exact hf a h) (fun j hj => by rw [u2_sn (by omega)]; exact h0 j hj) (fun i hi => ?_) (fun i hi hi5 => by rw [u2_sn (by omega)]; exact h2 i (by omega) hi5) (fun i hi => by rw [u2_sn (by omega)]; exact h3 i hi) (Or.inr ⟨rfl, fun z => ?_⟩) _
      rcases Nat.lt_or_ge i k with z | z
      · rw [u2_sn (by omega)]; exact h1 i z
      · obtain rfl : i = k := by omega
        rw [u2_ss, h2 i (by omega) (by omega)]
      · rcases hv with ⟨v1, _⟩ | ⟨_, v2⟩
        · rw [v1] at q127; exact absurd q127 (by decide)
        · exact v2 (fun i hi => z i (by omega))
    · refine x_iload_10 cM_findWay_130 ?_
      refine x_if_eq cM_findWay_132 (fun q132 => ?_) (fun q132 => ?_)
      · refine x_iconst 1 (by decide) cM_findWay_149 ?_
        refine x_goto cM_findWay_150 ?_
        refine x_istore_8 cM_findWay_154 rfl (Nat.le_of_ble_eq_true rfl) ?_
        refine x_goto cM_findWay_156 ?_
        refine x_iinc_9 (nI (k + 1)) cM_findWay_200 rfl (nI_inc k) (Nat.le_of_ble_eq_true rfl) ?_
        refine x_goto cM_findWay_203 ?_
        refine ih (k + 1) (by omega) _ 1 (fun a h => by rw [u2_n h]; exact hf a h) (fun j hj => by rw [u2_sn (by omega)]; exact h0 j hj) (fun i hi => ?_) (fun i hi hi5 => by rw [u2_sn (by omega)]; exact h2 i (by omega) hi5) (fun i hi => by rw [u2_sn (by omega)]; exact h3 i hi) (Or.inl ⟨rfl, fun i hi => ?_⟩) _
        rcases Nat.lt_or_ge i k with z | z
        · rw [u2_sn (by omega)]; exact h1 i z
        · obtain rfl : i = k := by omega
          rw [u2_ss, h2 i (by omega) (by omega)]
        · rcases hv with ⟨_, v2⟩ | ⟨v1, _⟩
          · rcases Nat.lt_or_ge i k with z | z
            · exact v2 i z
            · obtain rfl : i = k := by omega
              exact Or.inl q132
          · exact absurd v1 q127
      · refine x_aload_0 cM_findWay_135 ?_
        refine x_gR (b := 97) cM_findWay_136 fM_32 rfl rfl rfl ?_
        refine x_iconst 3 (by decide) cM_findWay_139 ?_
        refine x_iload_9 cM_findWay_140 ?_
        refine x_iadd cM_findWay_142 ?_
        refine x_al (3 + k) cM_findWay_143 rfl (nI_add 3 k) (by omega) (by decide) ?_
        refine x_bipush 30 (by decide) cM_findWay_144 ?_
        refine x_icmp_gt cM_findWay_146 (fun q146 => ?_) (fun q146 => ?_)
        · refine x_iconst 0 (by decide) cM_findWay_153 ?_
          refine x_istore_8 cM_findWay_154 rfl (Nat.le_of_ble_eq_true rfl) ?_
          refine x_goto cM_findWay_156 ?_
          refine x_iinc_9 (nI (k + 1)) cM_findWay_200 rfl (nI_inc k) (Nat.le_of_ble_eq_true rfl) ?_
          refine x_goto cM_findWay_203 ?_
          refine ih (k + 1) (by omega) _ 0 (fun a h => by rw [u2_n h]; exact hf a h) (fun j hj => by rw [u2_sn (by omega)]; exact h0 j hj) (fun i hi => ?_) (fun i hi hi5 => by rw [u2_sn (by omega)]; exact h2 i (by omega) hi5) (fun i hi => by rw [u2_sn (by omega)]; exact h3 i hi) (Or.inr ⟨rfl, fun z => ?_⟩) _
          rcases Nat.lt_or_ge i k with z | z
          · rw [u2_sn (by omega)]; exact h1 i z
          · obtain rfl : i = k := by omega
            rw [u2_ss, h2 i (by omega) (by omega)]
          · rw [u2_ss, h2 k (by omega) (by omega)] at q146
            exact (z k (by omega)).elim q132 (fun w => absurd w (nle_of q146))
        · refine x_iconst 1 (by decide) cM_findWay_149 ?_
          refine x_goto cM_findWay_150 ?_
          refine x_istore_8 cM_findWay_154 rfl (Nat.le_of_ble_eq_true rfl) ?_
          refine x_goto cM_findWay_156 ?_
          refine x_iinc_9 (nI (k + 1)) cM_findWay_200 rfl (nI_inc k) (Nat.le_of_ble_eq_true rfl) ?_
          refine x_goto cM_findWay_203 ?_
          refine ih (k + 1) (by omega) _ 1 (fun a h => by rw [u2_n h]; exact hf a h) (fun j hj => by rw [u2_sn (by omega)]; exact h0 j hj) (fun i hi => ?_) (fun i hi hi5 => by rw [u2_sn (by omega)]; exact h2 i (by omega) hi5) (fun i hi => by rw [u2_sn (by omega)]; exact h3 i hi) (Or.inl ⟨rfl, fun i hi => ?_⟩) _
          rcases Nat.lt_or_ge i k with z | z
          · rw [u2_sn (by omega)]; exact h1 i z
          · obtain rfl : i = k := by omega
            rw [u2_ss, h2 i (by omega) (by omega)]
          · rw [u2_ss, h2 k (by omega) (by omega)] at q146
            rcases hv with ⟨_, v2⟩ | ⟨v1, _⟩
            · rcases Nat.lt_or_ge i k with z | z
              · exact v2 i z
              · obtain rfl : i = k := by omega
                exact Or.inr (lts_of q146)
            · exact absurd v1 q127
theorem s_wayB_in {G : GT} {I : IT} {J : JT} {P : PT} {c t : Nat} {x : Int32} (hc5 : c ≤ 5) (ht : t < 5 ^ c) (hq : ∀ I2 v, (∀ a, a ≠ 97 → I2 a = I a) → (∀ j, j < 3 → I2 97 j = I 96 j) → (∀ i, i < c → I2 97 (8 + i) = nI (dig 5 c t i) - 2) → (∀ i, c ≤ i → i < 5 → I2 97 (8 + i) = I 96 (8 + i)) → (∀ i, i < 5 → I2 97 (3 + i) = I 96 (3 + i)) → v = 1 → ∀ g, xj yM_findWay G 65 [some (.ref 90), some (.int x), some (.int 0), some (.int (nI c)), some (.int (nI 5)), some (.int (nI t)), some (.int (chI (fun k => I 96 (8 + k)) (fun k => nI (dig 5 c t k)) c)), some (.int (numI (fun k => nI (dig 5 c t k)) c)), some (.int v), some (.int (nI c)), g] [] (hp I2 J P) 0 0) : ∀ n k, k + n = c → ∀ I2 v, (∀ a, a ≠ 97 → I2 a = I a) → (∀ j, j < 3 → I2 97 j = I 96 j) → (∀ i, i < k → I2 97 (8 + i) = nI (dig 5 c t i) - 2) → (∀ i, k ≤ i → i < 5 → I2 97 (8 + i) = I 96 (8 + i)) → (∀ i, i < 5 → I2 97 (3 + i) = I 96 (3 + i)) → v = 1 → ∀ g, xj yM_findWay G 65 [some (.ref 90), some (.int x), some (.int 0), some (.int (nI c)), some (.int (nI 5)), some (.int (nI t)), some (.int (chI (fun k => I 96 (8 + k)) (fun k => nI (dig 5 c t k)) k)), some (.int (numI (fun k => nI (dig 5 c t k)) k)), some (.int v), some (.int (nI k)), g] [] (hp I2 J P) 0 0 := by
  have hpow : 5 ^ c ≤ 3125 := Nat.le_trans (Nat.pow_le_pow_right (by decide) hc5) (by decide)
  intro n
  induction n with
  | zero =>
    intro k hk I2 v hf h0 h1 h2 h3 hv g
    obtain rfl : k = c := by omega
    exact hq I2 v hf h0 h1 h2 h3 hv g
  | succ n ih =>
    intro k hk I2 v hf h0 h1 h2 h3 hv g
    have hkc : k < c := by omega
    have hpp : 0 < 5 ^ (c - 1 - k) := Nat.pow_pos (by decide)
    have hpl : 5 ^ (c - 1 - k) ≤ 3125 := Nat.le_trans (Nat.pow_le_pow_right (by decide) (show c - 1 - k ≤ c by omega)) hpow
    have hdl : dig 5 c t k < 5 := dig_lt (by decide)
    have htd : t / 5 ^ (c - 1 - k) ≤ t := Nat.div_le_self _ _
    refine x_iload_9 cM_findWay_65 ?_
    refine x_iload_3 cM_findWay_67 ?_
    refine x_icmp_ge cM_findWay_68 (fun q68 => absurd q68 (nI_ge hkc (by omega))) (fun q68 => ?_)
    refine x_iload_5 cM_findWay_71 ?_
    refine x_iload_4 cM_findWay_73 ?_
    refine x_iload_3 cM_findWay_75 ?_
    refine x_iconst 1 (by decide) cM_findWay_76 ?_
    refine x_isub cM_findWay_77 ?_
    refine x_top (nI (c - 1)) (pk_sub (b := 1) (by omega)) ?_
    refine x_iload_9 cM_findWay_78 ?_
    refine x_isub cM_findWay_80 ?_
    refine x_top (nI (c - 1 - k)) (pk_sub (by omega)) ?_
    refine x_s2 (ls0 := [some _, some _, none, none]) cM_findWay_81 kM_165 okM_power ⟨(Nat.le_of_ble_eq_true rfl), (Nat.le_of_ble_eq_true rfl)⟩ (Nat.le_of_ble_eq_true rfl) rfl (Nat.le_of_ble_eq_true rfl) rfl rfl (Nat.zero_le _) (Nat.zero_le _) ?_
    refine s_power (m := c - 1 - k) (by omega) ?_
    dsimp only [pushR]
    refine x_top (nI (5 ^ (c - 1 - k))) (powI_n 5 _) ?_
    refine x_idiv (nI_ne0 hpp (by omega)) cM_findWay_84 ?_
    refine x_top (nI (t / 5 ^ (c - 1 - k))) (pk_div (by omega) hpp (by omega)) ?_
    refine x_iload_4 cM_findWay_85 ?_
    refine x_irem (by decide) cM_findWay_87 ?_
    refine x_top (nI (dig 5 c t k)) (pk_rem (d := 5) (by omega) (by decide) (by decide)) ?_
    refine x_istore_10 cM_findWay_88 rfl (Nat.le_of_ble_eq_true rfl) ?_
    refine x_bipush 10 (by decide) cM_findWay_90 ?_
    refine x_iload_7 cM_findWay_92 ?_
    refine x_imul cM_findWay_94 ?_
    refine x_iload_10 cM_findWay_95 ?_
    refine x_iadd cM_findWay_97 ?_
    refine x_istore_7 cM_findWay_98 rfl (Nat.le_of_ble_eq_true rfl) ?_
    refine x_iload_2 cM_findWay_100 ?_
    refine x_if_eq cM_findWay_101 (fun q101 => ?_) (fun q101 => absurd q101 (fun z => z rfl))
    refine x_iload_6 cM_findWay_159 ?_
    refine x_aload_0 cM_findWay_161 ?_
    refine x_gR (b := 97) cM_findWay_162 fM_32 rfl rfl rfl ?_
    refine x_bipush 8 (by decide) cM_findWay_165 ?_
    refine x_iload_9 cM_findWay_167 ?_
    refine x_iadd cM_findWay_169 ?_
    refine x_al (8 + k) cM_findWay_170 rfl (nI_add 8 k) (by omega) (by decide) ?_
    rw [h2 k (by omega) (by omega)]
    refine x_iload_10 cM_findWay_171 ?_
    refine x_iconst 2 (by decide) cM_findWay_173 ?_
    refine x_isub cM_findWay_174 ?_
    refine x_icmp_ne cM_findWay_175 (fun q175 => ?_) (fun q175 => ?_)
    · refine x_iconst 1 (by decide) cM_findWay_182 ?_
      refine x_iadd cM_findWay_183 ?_
      refine x_top (chI (fun k => I 96 (8 + k)) (fun k => nI (dig 5 c t k)) (k + 1)) ?_ ?_
      · simp only [chI]
        first
          | rw [if_pos q175.symm]; exact Int32.add_zero _
          | rw [if_neg (fun z => q175 z.symm)]
      refine x_istore_6 cM_findWay_184 rfl (Nat.le_of_ble_eq_true rfl) ?_
      refine x_aload_0 cM_findWay_186 ?_
      refine x_gR (b := 97) cM_findWay_187 fM_32 rfl rfl rfl ?_
      refine x_bipush 8 (by decide) cM_findWay_190 ?_
      refine x_iload_9 cM_findWay_192 ?_
      refine x_iadd cM_findWay_194 ?_
      refine x_iload_10 cM_findWay_195 ?_
      refine x_iconst 2 (by decide) cM_findWay_197 ?_
      refine x_isub cM_findWay_198 ?_
      refine x_as (8 + k) cM_findWay_199 rfl (nI_add 8 k) (by omega) (by decide) ?_
      refine x_iinc_9 (nI (k + 1)) cM_findWay_200 rfl (nI_inc k) (Nat.le_of_ble_eq_true rfl) ?_
      refine x_goto cM_findWay_203 ?_
      refine ih (k + 1) (by omega) _ v (fun a h => by rw [u2_n h]; exact hf a h) (fun j hj => by rw [u2_sn (by omega)]; exact h0 j hj) (fun i hi => ?_) (fun i hi hi5 => by rw [u2_sn (by omega)]; exact h2 i (by omega) hi5) (fun i hi => by rw [u2_sn (by omega)]; exact h3 i hi) hv _
      rcases Nat.lt_or_ge i k with z | z
      · rw [u2_sn (by omega)]; exact h1 i z
      · obtain rfl : i = k := by omega
        rw [u2_ss]
    · refine x_iconst 0 (by decide) cM_findWay_178 ?_
      refine x_goto cM_findWay_179 ?_
      refine x_iadd cM_findWay_183 ?_
      refine x_top (chI (fun k => I 96 (8 + k)) (fun k => nI (dig 5 c t k)) (k + 1)) ?_ ?_
      · simp only [chI]
        first
          | rw [if_pos q175.symm]; exact Int32.add_zero _
          | rw [if_neg (fun z => q175 z.symm)]
      refine x_istore_6 cM_findWay_184 rfl (Nat.le_of_ble_eq_true rfl) ?_
      refine x_aload_0 cM_findWay_186 ?_
      refine x_gR (b := 97) cM_findWay_187 fM_32 rfl rfl rfl ?_
      refine x_bipush 8 (by decide) cM_findWay_190 ?_
      refine x_iload_9 cM_findWay_192 ?_
      refine x_iadd cM_findWay_194 ?_
      refine x_iload_10 cM_findWay_195 ?_
      refine x_iconst 2 (by decide) cM_findWay_197 ?_
      refine x_isub cM_findWay_198 ?_
      refine x_as (8 + k) cM_findWay_199 rfl (nI_add 8 k) (by omega) (by decide) ?_
      refine x_iinc_9 (nI (k + 1)) cM_findWay_200 rfl (nI_inc k) (Nat.le_of_ble_eq_true rfl) ?_
      refine x_goto cM_findWay_203 ?_
      refine ih (k + 1) (by omega) _ v (fun a h => by rw [u2_n h]; exact hf a h) (fun j hj => by rw [u2_sn (by omega)]; exact h0 j hj) (fun i hi => ?_) (fun i hi hi5 => by rw [u2_sn (by omega)]; exact h2 i (by omega) hi5) (fun i hi => by rw [u2_sn (by omega)]; exact h3 i hi) hv _
      rcases Nat.lt_or_ge i k with z | z
      · rw [u2_sn (by omega)]; exact h1 i z
      · obtain rfl : i = k := by omega
        rw [u2_ss]
theorem s_wayY_loop {Po : Option Value → HS → Prop} {I : IT} {J : JT} {P : PT} {c : Nat} {x : Int32} (hcp : 0 < c) (hc5 : c ≤ 5) (hc : I 96 0 = nI c) (h30 : ∀ k, k < c → I 96 (3 + k) ≤ 30) (hG : ∀ t, t < 4 ^ c → Rg (wyD (mdD I 96 92) (dig 4 c t)) c ∧ Rv (wyD (mdD I 96 92) (dig 4 c t)) c x) (hq : ∀ I2 p q, SameM I I2 → Sch (costY c) (numW 4 c) (okY (mdD I 96 92) c x) (4 ^ c) p q → MS (I2 90 31) (I2 90 30) p q → Po none (hp I2 J P)) : ∀ n t, t + n = 4 ^ c → ∀ I1, SameM I I1 → (∃ p q, Sch (costY c) (numW 4 c) (okY (mdD I 96 92) c x) t p q ∧ MS (I1 90 31) (I1 90 30) p q) → ∀ {g6 g7 g8 g9 g10}, xj yM_findWay (mG yM_findWay Po) 34 [some (.ref 90), some (.int x), some (.int 1), some (.int (nI c)), some (.int (nI 4)), some (.int (nI t)), g6, g7, g8, g9, g10] [] (hp I1 J P) 0 0 := by
  have hpow : 4 ^ c ≤ 1024 := Nat.le_trans (Nat.pow_le_pow_right (by decide) hc5) (by decide)
  intro n
  induction n with
  | zero =>
    intro t ht I1 hS ⟨p, q, hs, hm⟩ g6 g7 g8 g9 g10
    obtain rfl : t = 4 ^ c := by omega
    refine x_iload_5 cM_findWay_34 ?_
    refine x_iload_4 cM_findWay_36 ?_
    refine x_iload_3 cM_findWay_38 ?_
    refine x_s2 (ls0 := [some _, some _, none, none]) cM_findWay_39 kM_165 okM_power ⟨(Nat.le_of_ble_eq_true rfl), (Nat.le_of_ble_eq_true rfl)⟩ (Nat.le_of_ble_eq_true rfl) rfl (Nat.le_of_ble_eq_true rfl) rfl rfl (Nat.zero_le _) (Nat.zero_le _) ?_
    refine s_power (m := c) (by omega) ?_
    dsimp only [pushR]
    refine x_top (nI (4 ^ c)) (powI_n 4 c) ?_
    refine x_icmp_ge cM_findWay_42 (fun q42 => ?_) (fun q42 => absurd q42 (fun z => z (Int32.le_refl _)))
    refine x_return cM_findWay_262 rfl (Nat.zero_le _) (Nat.zero_le _) ?_
    exact hq I1 p q hS hs hm
  | succ n ih =>
    intro t ht I1 hS ⟨p, q, hs, hm⟩ g6 g7 g8 g9 g10
    have htc : t < 4 ^ c := by omega
    have e96 : I1 96 = I 96 := hS.1 96 (by omega)
    have e92 : I1 92 = I 92 := hS.1 92 (by omega)
    refine x_iload_5 cM_findWay_34 ?_
    refine x_iload_4 cM_findWay_36 ?_
    refine x_iload_3 cM_findWay_38 ?_
    refine x_s2 (ls0 := [some _, some _, none, none]) cM_findWay_39 kM_165 okM_power ⟨(Nat.le_of_ble_eq_true rfl), (Nat.le_of_ble_eq_true rfl)⟩ (Nat.le_of_ble_eq_true rfl) rfl (Nat.le_of_ble_eq_true rfl) rfl rfl (Nat.zero_le _) (Nat.zero_le _) ?_
    refine s_power (m := c) (by omega) ?_
    dsimp only [pushR]
    refine x_top (nI (4 ^ c)) (powI_n 4 c) ?_
    refine x_icmp_ge cM_findWay_42 (fun q42 => absurd q42 (nI_ge htc (by omega))) (fun q42 => ?_)
    refine x_iload_3 cM_findWay_45 ?_
    refine x_if_le cM_findWay_46 (fun q46 => absurd q46 (nI_nle hcp (by omega))) (fun q46 => ?_)
    refine x_aload_0 cM_findWay_49 ?_
    refine x_v0 (ls0 := [some _, none]) cM_findWay_50 kM_168 okM_begin ⟨(Nat.le_of_ble_eq_true rfl), (Nat.le_of_ble_eq_true rfl)⟩ (Nat.le_of_ble_eq_true rfl) rfl (Nat.le_of_ble_eq_true rfl) rfl ⟨_, rfl, rfl⟩ rfl rfl (Nat.zero_le _) (Nat.zero_le _) ?_
    refine s_begin (fun IB b1 b2 => ?_)
    dsimp only [pushR]
    refine x_iconst 0 (by decide) cM_findWay_53 ?_
    refine x_istore_6 cM_findWay_54 rfl (Nat.le_of_ble_eq_true rfl) ?_
    refine x_iconst 0 (by decide) cM_findWay_56 ?_
    refine x_istore_7 cM_findWay_57 rfl (Nat.le_of_ble_eq_true rfl) ?_
    refine x_iconst 1 (by decide) cM_findWay_59 ?_
    refine x_istore_8 cM_findWay_60 rfl (Nat.le_of_ble_eq_true rfl) ?_
    refine x_iconst 0 (by decide) cM_findWay_62 ?_
    refine x_istore_9 cM_findWay_63 rfl (Nat.le_of_ble_eq_true rfl) ?_
    refine s_wayY_in (I := I1) (t := t) hc5 htc (fun I2 v m1 m2 n1 n2 n3 hv g => ?_) c 0 (by omega) IB 1 b1 (fun j hj => b2 j (by omega)) (fun i hi => absurd hi (Nat.not_lt_zero i)) (fun i _ hi => b2 _ (by omega)) (fun i hi => b2 _ (by omega)) (Or.inl ⟨rfl, fun i hi => absurd hi (Nat.not_lt_zero i)⟩) _
    rw [e96] at m2 n1 n3 hv
    
    refine x_iload_9 cM_findWay_65 ?_
    refine x_iload_3 cM_findWay_67 ?_
    refine x_icmp_ge cM_findWay_68 (fun q68 => ?_) (fun q68 => absurd q68 (fun z => z (Int32.le_refl _)))
    refine x_aload_0 cM_findWay_206 ?_
    refine x_aload_0 cM_findWay_207 ?_
    refine x_gR (b := 97) cM_findWay_208 fM_32 rfl rfl rfl ?_
    refine x_aload_0 cM_findWay_211 ?_
    refine x_gR (b := 92) cM_findWay_212 fM_17 rfl rfl rfl ?_
    refine x_v2 (ls0 := [some _, some _, some _, none, none, none, none, none]) cM_findWay_215 kM_120 okM_lay ⟨(Nat.le_of_ble_eq_true rfl), (Nat.le_of_ble_eq_true rfl)⟩ (Nat.le_of_ble_eq_true rfl) rfl (Nat.le_of_ble_eq_true rfl) rfl ⟨_, rfl, rfl⟩ rfl rfl (Nat.zero_le _) (Nat.zero_le _) ?_
    have hLE : LEq (mdD I2 97 92) (wyD (mdD I 96 92) (dig 4 c t)) c := ⟨fun k hk => ⟨n1 k hk, n3 k (by omega), by show I2 92 k = I 92 k; rw [m1 92 (by decide), e92]⟩, by show I2 97 1 = I 96 1; exact m2 1 (by decide), by show I2 97 2 = I 96 2; exact m2 2 (by decide), by show I2 90 4 = I 90 4; rw [m1 90 (by decide)]; exact hS.2 4 (by omega), by show I2 90 5 = I 90 5; rw [m1 90 (by decide)]; exact hS.2 5 (by omega)⟩
    have c2 : I2 97 0 = nI c := by rw [m2 0 (by decide)]; exact hc
    refine s_lay (Or.inr rfl) (Or.inl rfl) hc5 c2 (Rg.leq hLE (hG t htc).1) (fun I3 hL => ?_)
    have hS3 : SameM I1 I3 := ⟨fun a ha => by rw [hL.1 a (by omega) (by omega) (by omega) (by omega), m1 a (by omega)], fun j hj => by rw [hL.2.1 j (by omega), m1 90 (by decide)]⟩
    have c3 : I3 97 0 = nI c := by rw [hL.1 97 (by decide) (by decide) (by decide) (by decide)]; exact c2
    have k31 : I3 90 31 = I1 90 31 := by rw [hL.2.1 31 (by decide), m1 90 (by decide)]
    have k30 : I3 90 30 = I1 90 30 := by rw [hL.2.1 30 (by decide), m1 90 (by decide)]
    dsimp only [pushR]
    refine x_iload_8 cM_findWay_218 ?_
    refine x_if_eq cM_findWay_220 (fun q220 => ?_) (fun q220 => ?_)
    · refine x_iinc_5 (nI (t + 1)) cM_findWay_256 rfl (nI_inc t) (Nat.le_of_ble_eq_true rfl) ?_
      refine x_goto cM_findWay_259 ?_
      refine ih (t + 1) (by omega) _ (hS.tr hS3) ⟨p, q, sch_no hs ?_, by rw [k31, k30]; exact hm⟩
      intro z
      rcases hv with ⟨v1, _⟩ | ⟨_, v2⟩
      · rw [v1] at q220; exact absurd q220 (by decide)
      · exact v2 (fun i hi => Or.inr (z.2.1 i hi))
    · refine x_iload_6 cM_findWay_223 ?_
      refine x_aload_0 cM_findWay_225 ?_
      refine x_gI cM_findWay_226 fM_162 rfl rfl ?_
      refine x_icmp_ge cM_findWay_229 (fun q229 => ?_) (fun q229 => ?_)
      · refine x_iinc_5 (nI (t + 1)) cM_findWay_256 rfl (nI_inc t) (Nat.le_of_ble_eq_true rfl) ?_
        refine x_goto cM_findWay_259 ?_
        refine ih (t + 1) (by omega) _ (hS.tr hS3) ⟨p, q, sch_no hs ?_, by rw [k31, k30]; exact hm⟩
        intro z
        rw [k31] at q229
        exact absurd q229 ((hm.lt (costY_ok hc5).1).mpr z.1)
      · refine x_aload_0 cM_findWay_232 ?_
        refine x_aload_0 cM_findWay_233 ?_
        refine x_gR (b := 97) cM_findWay_234 fM_32 rfl rfl rfl ?_
        refine x_iload_1 cM_findWay_237 ?_
        refine x_v2 (ls0 := [some _, some _, some _, none]) cM_findWay_238 kM_155 okM_doesSee ⟨(Nat.le_of_ble_eq_true rfl), (Nat.le_of_ble_eq_true rfl)⟩ (Nat.le_of_ble_eq_true rfl) rfl (Nat.le_of_ble_eq_true rfl) rfl ⟨_, rfl, rfl⟩ rfl rfl (Nat.zero_le _) (Nat.zero_le _) ?_
        refine s_doesSee (D := mdD I2 97 92) (Or.inr rfl) hc5 c3 hL.2.2.1 hL.last (Rv.leq hLE (hG t htc).2) (fun hV => ?_) (fun hV => ?_)
        · dsimp only [pushR]
          refine x_if_eq cM_findWay_241 (fun q => absurd q (by decide)) (fun _ => ?_)
          refine x_aload_0 cM_findWay_244 ?_
          refine x_iload_6 cM_findWay_245 ?_
          refine x_pI cM_findWay_247 fM_162 rfl rfl ?_
          refine x_aload_0 cM_findWay_250 ?_
          refine x_iload_7 cM_findWay_251 ?_
          refine x_pI cM_findWay_253 fM_159 rfl rfl ?_
          refine x_iinc_5 (nI (t + 1)) cM_findWay_256 rfl (nI_inc t) (Nat.le_of_ble_eq_true rfl) ?_
          refine x_goto cM_findWay_259 ?_
          have hyes := sch_yes hs ⟨(hm.lt (costY_ok hc5).1).mp (by rw [k31] at q229; exact q229), ⟨fun i hi => by
            rcases hv with ⟨_, v2⟩ | ⟨v1, _⟩
            · rcases v2 i hi with e | e
              · show I 96 (3 + i) + nI (dig 4 c t i) ≤ 30
                rw [e, Int32.add_zero]; exact h30 i hi
              · exact e
            · exact absurd v1 q220, (hLE.vd x).mp hV⟩⟩
          exact ih (t + 1) (by omega) _ (hS.tr (hS3.tr ⟨fun a ha => by rw [u2_n (by omega), u2_n (by omega)], fun j hj => by rw [u2_sn (by omega), u2_sn (by omega)]⟩)) ⟨_, _, hyes, Or.inr ⟨by rw [u2_ss]; rfl, by rw [u2_sn (by decide), u2_ss]; rfl, (costY_ok hc5).2, num_ok (by decide) (by decide) hc5⟩⟩
        · dsimp only [pushR]
          refine x_if_eq cM_findWay_241 (fun _ => ?_) (fun q => absurd rfl q)
          refine x_iinc_5 (nI (t + 1)) cM_findWay_256 rfl (nI_inc t) (Nat.le_of_ble_eq_true rfl) ?_
          refine x_goto cM_findWay_259 ?_
          refine ih (t + 1) (by omega) _ (hS.tr hS3) ⟨p, q, sch_no hs ?_, by rw [k31, k30]; exact hm⟩
          intro z
          exact hV ((hLE.vd x).mpr z.2.2)
theorem s_wayB_loop {Po : Option Value → HS → Prop} {I : IT} {J : JT} {P : PT} {c : Nat} {x : Int32} (hcp : 0 < c) (hc5 : c ≤ 5) (hc : I 96 0 = nI c)  (hG : ∀ t, t < 5 ^ c → Rg (wbD (mdD I 96 92) (dig 5 c t)) c ∧ Rv (wbD (mdD I 96 92) (dig 5 c t)) c x) (hq : ∀ I2 p q, SameM I I2 → Sch (costB (mdD I 96 92) c) (numW 5 c) (okB (mdD I 96 92) c x) (5 ^ c) p q → MS (I2 90 31) (I2 90 30) p q → Po none (hp I2 J P)) : ∀ n t, t + n = 5 ^ c → ∀ I1, SameM I I1 → (∃ p q, Sch (costB (mdD I 96 92) c) (numW 5 c) (okB (mdD I 96 92) c x) t p q ∧ MS (I1 90 31) (I1 90 30) p q) → ∀ {g6 g7 g8 g9 g10}, xj yM_findWay (mG yM_findWay Po) 34 [some (.ref 90), some (.int x), some (.int 0), some (.int (nI c)), some (.int (nI 5)), some (.int (nI t)), g6, g7, g8, g9, g10] [] (hp I1 J P) 0 0 := by
  have hpow : 5 ^ c ≤ 3125 := Nat.le_trans (Nat.pow_le_pow_right (by decide) hc5) (by decide)
  intro n
  induction n with
  | zero =>
    intro t ht I1 hS ⟨p, q, hs, hm⟩ g6 g7 g8 g9 g10
    obtain rfl : t = 5 ^ c := by omega
    refine x_iload_5 cM_findWay_34 ?_
    refine x_iload_4 cM_findWay_36 ?_
    refine x_iload_3 cM_findWay_38 ?_
    refine x_s2 (ls0 := [some _, some _, none, none]) cM_findWay_39 kM_165 okM_power ⟨(Nat.le_of_ble_eq_true rfl), (Nat.le_of_ble_eq_true rfl)⟩ (Nat.le_of_ble_eq_true rfl) rfl (Nat.le_of_ble_eq_true rfl) rfl rfl (Nat.zero_le _) (Nat.zero_le _) ?_
    refine s_power (m := c) (by omega) ?_
    dsimp only [pushR]
    refine x_top (nI (5 ^ c)) (powI_n 5 c) ?_
    refine x_icmp_ge cM_findWay_42 (fun q42 => ?_) (fun q42 => absurd q42 (fun z => z (Int32.le_refl _)))
    refine x_return cM_findWay_262 rfl (Nat.zero_le _) (Nat.zero_le _) ?_
    exact hq I1 p q hS hs hm
  | succ n ih =>
    intro t ht I1 hS ⟨p, q, hs, hm⟩ g6 g7 g8 g9 g10
    have htc : t < 5 ^ c := by omega
    have e96 : I1 96 = I 96 := hS.1 96 (by omega)
    have e92 : I1 92 = I 92 := hS.1 92 (by omega)
    refine x_iload_5 cM_findWay_34 ?_
    refine x_iload_4 cM_findWay_36 ?_
    refine x_iload_3 cM_findWay_38 ?_
    refine x_s2 (ls0 := [some _, some _, none, none]) cM_findWay_39 kM_165 okM_power ⟨(Nat.le_of_ble_eq_true rfl), (Nat.le_of_ble_eq_true rfl)⟩ (Nat.le_of_ble_eq_true rfl) rfl (Nat.le_of_ble_eq_true rfl) rfl rfl (Nat.zero_le _) (Nat.zero_le _) ?_
    refine s_power (m := c) (by omega) ?_
    dsimp only [pushR]
    refine x_top (nI (5 ^ c)) (powI_n 5 c) ?_
    refine x_icmp_ge cM_findWay_42 (fun q42 => absurd q42 (nI_ge htc (by omega))) (fun q42 => ?_)
    refine x_iload_3 cM_findWay_45 ?_
    refine x_if_le cM_findWay_46 (fun q46 => absurd q46 (nI_nle hcp (by omega))) (fun q46 => ?_)
    refine x_aload_0 cM_findWay_49 ?_
    refine x_v0 (ls0 := [some _, none]) cM_findWay_50 kM_168 okM_begin ⟨(Nat.le_of_ble_eq_true rfl), (Nat.le_of_ble_eq_true rfl)⟩ (Nat.le_of_ble_eq_true rfl) rfl (Nat.le_of_ble_eq_true rfl) rfl ⟨_, rfl, rfl⟩ rfl rfl (Nat.zero_le _) (Nat.zero_le _) ?_
    refine s_begin (fun IB b1 b2 => ?_)
    dsimp only [pushR]
    refine x_iconst 0 (by decide) cM_findWay_53 ?_
    refine x_istore_6 cM_findWay_54 rfl (Nat.le_of_ble_eq_true rfl) ?_
    refine x_iconst 0 (by decide) cM_findWay_56 ?_
    refine x_istore_7 cM_findWay_57 rfl (Nat.le_of_ble_eq_true rfl) ?_
    refine x_iconst 1 (by decide) cM_findWay_59 ?_
    refine x_istore_8 cM_findWay_60 rfl (Nat.le_of_ble_eq_true rfl) ?_
    refine x_iconst 0 (by decide) cM_findWay_62 ?_
    refine x_istore_9 cM_findWay_63 rfl (Nat.le_of_ble_eq_true rfl) ?_
    refine s_wayB_in (I := I1) (t := t) hc5 htc (fun I2 v m1 m2 n1 n2 n3 hv g => ?_) c 0 (by omega) IB 1 b1 (fun j hj => b2 j (by omega)) (fun i hi => absurd hi (Nat.not_lt_zero i)) (fun i _ hi => b2 _ (by omega)) (fun i hi => b2 _ (by omega)) rfl _
    rw [e96] at m2 n3
    rw [e96]
    subst hv
    refine x_iload_9 cM_findWay_65 ?_
    refine x_iload_3 cM_findWay_67 ?_
    refine x_icmp_ge cM_findWay_68 (fun q68 => ?_) (fun q68 => absurd q68 (fun z => z (Int32.le_refl _)))
    refine x_aload_0 cM_findWay_206 ?_
    refine x_aload_0 cM_findWay_207 ?_
    refine x_gR (b := 97) cM_findWay_208 fM_32 rfl rfl rfl ?_
    refine x_aload_0 cM_findWay_211 ?_
    refine x_gR (b := 92) cM_findWay_212 fM_17 rfl rfl rfl ?_
    refine x_v2 (ls0 := [some _, some _, some _, none, none, none, none, none]) cM_findWay_215 kM_120 okM_lay ⟨(Nat.le_of_ble_eq_true rfl), (Nat.le_of_ble_eq_true rfl)⟩ (Nat.le_of_ble_eq_true rfl) rfl (Nat.le_of_ble_eq_true rfl) rfl ⟨_, rfl, rfl⟩ rfl rfl (Nat.zero_le _) (Nat.zero_le _) ?_
    have hLE : LEq (mdD I2 97 92) (wbD (mdD I 96 92) (dig 5 c t)) c := ⟨fun k hk => ⟨n3 k (by omega), n1 k hk, by show I2 92 k = I 92 k; rw [m1 92 (by decide), e92]⟩, by show I2 97 1 = I 96 1; exact m2 1 (by decide), by show I2 97 2 = I 96 2; exact m2 2 (by decide), by show I2 90 4 = I 90 4; rw [m1 90 (by decide)]; exact hS.2 4 (by omega), by show I2 90 5 = I 90 5; rw [m1 90 (by decide)]; exact hS.2 5 (by omega)⟩
    have c2 : I2 97 0 = nI c := by rw [m2 0 (by decide)]; exact hc
    refine s_lay (Or.inr rfl) (Or.inl rfl) hc5 c2 (Rg.leq hLE (hG t htc).1) (fun I3 hL => ?_)
    have hS3 : SameM I1 I3 := ⟨fun a ha => by rw [hL.1 a (by omega) (by omega) (by omega) (by omega), m1 a (by omega)], fun j hj => by rw [hL.2.1 j (by omega), m1 90 (by decide)]⟩
    have c3 : I3 97 0 = nI c := by rw [hL.1 97 (by decide) (by decide) (by decide) (by decide)]; exact c2
    have k31 : I3 90 31 = I1 90 31 := by rw [hL.2.1 31 (by decide), m1 90 (by decide)]
    have k30 : I3 90 30 = I1 90 30 := by rw [hL.2.1 30 (by decide), m1 90 (by decide)]
    dsimp only [pushR]
    refine x_iload_8 cM_findWay_218 ?_
    refine x_if_eq cM_findWay_220 (fun q220 => absurd q220 (by decide)) (fun q220 => ?_)
    refine x_iload_6 cM_findWay_223 ?_
    refine x_aload_0 cM_findWay_225 ?_
    refine x_gI cM_findWay_226 fM_162 rfl rfl ?_
    refine x_icmp_ge cM_findWay_229 (fun q229 => ?_) (fun q229 => ?_)
    · refine x_iinc_5 (nI (t + 1)) cM_findWay_256 rfl (nI_inc t) (Nat.le_of_ble_eq_true rfl) ?_
      refine x_goto cM_findWay_259 ?_
      refine ih (t + 1) (by omega) _ (hS.tr hS3) ⟨p, q, sch_no hs ?_, by rw [k31, k30]; exact hm⟩
      intro z
      rw [k31] at q229
      exact absurd q229 ((hm.lt (costB_ok hc5).1).mpr z.1)
    · refine x_aload_0 cM_findWay_232 ?_
      refine x_aload_0 cM_findWay_233 ?_
      refine x_gR (b := 97) cM_findWay_234 fM_32 rfl rfl rfl ?_
      refine x_iload_1 cM_findWay_237 ?_
      refine x_v2 (ls0 := [some _, some _, some _, none]) cM_findWay_238 kM_155 okM_doesSee ⟨(Nat.le_of_ble_eq_true rfl), (Nat.le_of_ble_eq_true rfl)⟩ (Nat.le_of_ble_eq_true rfl) rfl (Nat.le_of_ble_eq_true rfl) rfl ⟨_, rfl, rfl⟩ rfl rfl (Nat.zero_le _) (Nat.zero_le _) ?_
      refine s_doesSee (D := mdD I2 97 92) (Or.inr rfl) hc5 c3 hL.2.2.1 hL.last (Rv.leq hLE (hG t htc).2) (fun hV => ?_) (fun hV => ?_)
      · dsimp only [pushR]
        refine x_if_eq cM_findWay_241 (fun q => absurd q (by decide)) (fun _ => ?_)
        refine x_aload_0 cM_findWay_244 ?_
        refine x_iload_6 cM_findWay_245 ?_
        refine x_pI cM_findWay_247 fM_162 rfl rfl ?_
        refine x_aload_0 cM_findWay_250 ?_
        refine x_iload_7 cM_findWay_251 ?_
        refine x_pI cM_findWay_253 fM_159 rfl rfl ?_
        refine x_iinc_5 (nI (t + 1)) cM_findWay_256 rfl (nI_inc t) (Nat.le_of_ble_eq_true rfl) ?_
        refine x_goto cM_findWay_259 ?_
        have hyes := sch_yes hs ⟨(hm.lt (costB_ok hc5).1).mp (by rw [k31] at q229; exact q229), ((hLE.vd x).mp hV)⟩
        exact ih (t + 1) (by omega) _ (hS.tr (hS3.tr ⟨fun a ha => by rw [u2_n (by omega), u2_n (by omega)], fun j hj => by rw [u2_sn (by omega), u2_sn (by omega)]⟩)) ⟨_, _, hyes, Or.inr ⟨by rw [u2_ss]; rfl, by rw [u2_sn (by decide), u2_ss]; rfl, (costB_ok hc5).2, num_ok (by decide) (by decide) hc5⟩⟩
      · dsimp only [pushR]
        refine x_if_eq cM_findWay_241 (fun _ => ?_) (fun q => absurd rfl q)
        refine x_iinc_5 (nI (t + 1)) cM_findWay_256 rfl (nI_inc t) (Nat.le_of_ble_eq_true rfl) ?_
        refine x_goto cM_findWay_259 ?_
        refine ih (t + 1) (by omega) _ (hS.tr hS3) ⟨p, q, sch_no hs ?_, by rw [k31, k30]; exact hm⟩
        intro z
        exact hV ((hLE.vd x).mpr z.2)
