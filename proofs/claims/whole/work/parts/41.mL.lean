theorem p10le {k N : Nat} (h : k ≤ N) (hN : N ≤ 6) : 10 ^ k ≤ 1000000 := Nat.le_trans (Nat.pow_le_pow_right (by decide) (show k ≤ 6 by omega)) (by decide)
/-- figures put together, the lowest first -/
def hr (e : Nat → Nat) : Nat → Nat → Nat
  | 0, _ => 0
  | n + 1, k => e k + 10 * hr e n (k + 1)
theorem sha_hr {W N : Nat} {mo : Int32} {e : Nat → Nat} (h : ∀ k, k < N → fmod (nI (W / 10 ^ k % 10) + mo) 4 = nI (e k)) : ∀ n, n ≤ N → ∀ m, n + m = N → shA W mo n + nI (10 ^ n * hr e m n) = nI (hr e N 0)
  | 0, _, m, hm => by
    obtain rfl : m = N := by omega
    show (0 : Int32) + nI (1 * hr e m 0) = _
    rw [Int32.zero_add, Nat.one_mul]
  | n + 1, hn, m, hm => by
    have := sha_hr h n (by omega) (m + 1) (by omega)
    rw [← this]
    simp only [shA, hr]
    rw [h n (by omega), pk_mul, Int32.add_assoc, nI_add, Nat.mul_add, Nat.pow_succ, Nat.mul_assoc]
theorem sha_all {W N : Nat} {mo : Int32} {e : Nat → Nat} (h : ∀ k, k < N → fmod (nI (W / 10 ^ k % 10) + mo) 4 = nI (e k)) : shA W mo N = nI (hr e N 0) := by
  have := sha_hr h N (Nat.le_refl N) 0 (by omega)
  rw [← this]
  show shA W mo N = shA W mo N + nI (10 ^ N * 0)
  rw [Nat.mul_zero]
  exact (Int32.add_zero _).symm
theorem fm_a : ∀ B, B < 21 → ∀ d, d < 4 → fmod (nI d + nI B) 4 = nI ((d + B % 4) % 4) := by decide +kernel
theorem fm_s : ∀ B, B < 21 → ∀ d, d < 4 → fmod (nI d + -nI B) 4 = nI ((d + (4 - B % 4)) % 4) := by decide +kernel
theorem fm_d : ∀ e, e < 4 → ∀ d, d < 4 → fmod (nI d - nI e) 4 = nI ((d + 4 - e) % 4) := by decide +kernel
theorem s_noWord_loop {Po : Option Value → HS → Prop} {h : HS} {N W : Nat} (hN : N ≤ 6) (hW : W < 2 ^ 31) (h0 : (∀ i, i < N → W / 10 ^ i % 10 < 4) → Po (some (.int 0)) h) (h1 : ¬ (∀ i, i < N → W / 10 ^ i % 10 < 4) → Po (some (.int 1)) h) : ∀ n k, k + n = N → ∀ v, ((v = 1 ∧ ∀ i, i < k → W / 10 ^ i % 10 < 4) ∨ (v = 0 ∧ ¬ ∀ i, i < k → W / 10 ^ i % 10 < 4)) → xj yM_noWord (mG yM_noWord Po) 36 [some (.int (nI N)), some (.int (nI W)), some (.int v), some (.int (nI k))] [] h 0 0 := by
  intro n
  induction n with
  | zero =>
    intro k hk v hv
    obtain rfl : k = N := by omega
    refine x_iload_3 cM_noWord_36 ?_
    refine x_iload_0 cM_noWord_37 ?_
    refine x_icmp_ge cM_noWord_38 (fun q38 => ?_) (fun q38 => absurd q38 (fun z => z (Int32.le_refl _)))
    refine x_iload_2 cM_noWord_72 ?_
    refine x_if_ne cM_noWord_73 (fun q73 => ?_) (fun q73 => ?_)
    · refine x_iconst 0 (by decide) cM_noWord_80 ?_
      refine x_ireturn cM_noWord_81 rfl rfl (Nat.zero_le _) (Nat.zero_le _) ?_
      exact h0 (hv.elim (fun z => z.2) (fun z => absurd z.1 q73))
    · refine x_iconst 1 (by decide) cM_noWord_76 ?_
      refine x_goto cM_noWord_77 ?_
      refine x_ireturn cM_noWord_81 rfl rfl (Nat.zero_le _) (Nat.zero_le _) ?_
      exact h1 (hv.elim (fun z => absurd (z.1.symm.trans (by simpa using q73)) (by decide)) (fun z => z.2))
  | succ n ih =>
    intro k hk v hv
    have hkN : k < N := by omega
    have hp0 : 0 < 10 ^ k := Nat.pow_pos (by decide)
    have hpl := p10le (k := k) (N := N) (by omega) hN
    have hdv : W / 10 ^ k ≤ W := Nat.div_le_self _ _
    refine x_iload_3 cM_noWord_36 ?_
    refine x_iload_0 cM_noWord_37 ?_
    refine x_icmp_ge cM_noWord_38 (fun q38 => absurd q38 (nI_ge hkN (by omega))) (fun q38 => ?_)
    refine x_iload_2 cM_noWord_41 ?_
    refine x_if_eq cM_noWord_42 (fun q42 => ?_) (fun q42 => ?_)
    · refine x_iconst 0 (by decide) cM_noWord_64 ?_
      refine x_istore_2 cM_noWord_65 rfl (Nat.le_of_ble_eq_true rfl) ?_
      refine x_iinc_3 (nI (k + 1)) cM_noWord_66 rfl (nI_inc k) (Nat.le_of_ble_eq_true rfl) ?_
      refine x_goto cM_noWord_69 ?_
      exact ih (k + 1) (by omega) 0 (Or.inr ⟨rfl, fun z => hv.elim (fun w => absurd (w.1.symm.trans (by simpa using q42)) (by decide)) (fun w => w.2 (fun i hi => z i (by omega)))⟩)
    · refine x_iload_1 cM_noWord_45 ?_
      refine x_bipush 10 (by decide) cM_noWord_46 ?_
      refine x_iload_3 cM_noWord_48 ?_
      refine x_s2 (ls0 := [some _, some _, none, none]) cM_noWord_49 kM_165 okM_power ⟨(Nat.le_of_ble_eq_true rfl), (Nat.le_of_ble_eq_true rfl)⟩ (Nat.le_of_ble_eq_true rfl) rfl (Nat.le_of_ble_eq_true rfl) rfl rfl (Nat.zero_le _) (Nat.zero_le _) ?_
      refine s_power (m := k) (by omega) ?_
      dsimp only [pushR]
      refine x_top (nI (10 ^ k)) (powI_n 10 k) ?_
      refine x_idiv (nI_ne0 hp0 (by omega)) cM_noWord_52 ?_
      refine x_top (nI (W / 10 ^ k)) (pk_div hW hp0 (by omega)) ?_
      refine x_bipush 10 (by decide) cM_noWord_53 ?_
      refine x_irem (by decide) cM_noWord_55 ?_
      refine x_top (nI (W / 10 ^ k % 10)) (pk_rem (d := 10) (by omega) (by decide) (by decide)) ?_
      refine x_iconst 4 (by decide) cM_noWord_56 ?_
      refine x_icmp_ge cM_noWord_57 (fun q57 => ?_) (fun q57 => ?_)
      · have hb : ¬ W / 10 ^ k % 10 < 4 := fun z => absurd q57 (nI_ge (b := 4) z (by decide))
        refine x_iconst 0 (by decide) cM_noWord_64 ?_
        refine x_istore_2 cM_noWord_65 rfl (Nat.le_of_ble_eq_true rfl) ?_
        refine x_iinc_3 (nI (k + 1)) cM_noWord_66 rfl (nI_inc k) (Nat.le_of_ble_eq_true rfl) ?_
        refine x_goto cM_noWord_69 ?_
        exact ih (k + 1) (by omega) 0 (Or.inr ⟨rfl, fun z => hb (z k (by omega))⟩)
      · have hb : W / 10 ^ k % 10 < 4 := by
          rcases Nat.lt_or_ge (W / 10 ^ k % 10) 4 with z | z
          · exact z
          · exact absurd (nI_le (a := 4) z (by omega)) q57
        refine x_iconst 1 (by decide) cM_noWord_60 ?_
        refine x_goto cM_noWord_61 ?_
        refine x_istore_2 cM_noWord_65 rfl (Nat.le_of_ble_eq_true rfl) ?_
        refine x_iinc_3 (nI (k + 1)) cM_noWord_66 rfl (nI_inc k) (Nat.le_of_ble_eq_true rfl) ?_
        refine x_goto cM_noWord_69 ?_
        exact ih (k + 1) (by omega) 1 (Or.inl ⟨rfl, fun i hi => by
          rcases Nat.lt_or_ge i k with z | z
          · exact hv.elim (fun w => w.2 i z) (fun w => absurd w.1 q42)
          · rw [show i = k by omega]; exact hb⟩)
theorem s_noWord {Po : Option Value → HS → Prop} {h : HS} {n w : Int32} (h1 : (∀ N W, ¬ IsW n w N W) → Po (some (.int 1)) h) (h0 : ∀ N W, IsW n w N W → Po (some (.int 0)) h) : xj yM_noWord (mG yM_noWord Po) 0 [some (.int n), some (.int w), none, none] [] h 0 0 := by
  refine x_iload_0 cM_noWord_0 ?_
  refine x_i2l cM_noWord_1 ?_
  refine x_lconst 1 (by decide) cM_noWord_2 ?_
  refine x_ldc2 cM_noWord_3 qM_198 ?_
  refine x_s3 (ls0 := [some _, none, some _, none, some _, none]) cM_noWord_6 kM_69 okM_in ⟨(Nat.le_of_ble_eq_true rfl), (Nat.le_of_ble_eq_true rfl)⟩ (Nat.le_of_ble_eq_true rfl) rfl (Nat.le_of_ble_eq_true rfl) rfl rfl (Nat.zero_le _) (Nat.zero_le _) ?_
  refine s_in (a := 1) (b := 6) (by decide) (by decide) (fun hn => ?_) (fun hn => ?_)
  · dsimp only [pushR]
    obtain ⟨N, hN, eN⟩ := nI_of2 (M := 6) (n := 6) (x := n) (by decide) (fun z => absurd (Int32.lt_of_lt_of_le z (show (0 : Int32) ≤ 1 by decide)) (Int32.not_lt.mpr hn.1)) hn.2
    subst eN
    have hN1 : 1 ≤ N := Nat.pos_of_ne_zero (fun z => absurd hn.1 (by rw [z]; decide))
    have hpl := p10le (Nat.le_refl N) hN
    have hp0 : 0 < 10 ^ N := Nat.pow_pos (by decide)
    refine x_if_eq cM_noWord_9 (fun q => absurd q (by decide)) (fun _ => ?_)
    refine x_iload_1 cM_noWord_12 ?_
    refine x_i2l cM_noWord_13 ?_
    refine x_lconst 0 (by decide) cM_noWord_14 ?_
    refine x_bipush 10 (by decide) cM_noWord_15 ?_
    refine x_iload_0 cM_noWord_17 ?_
    refine x_s2 (ls0 := [some _, some _, none, none]) cM_noWord_18 kM_165 okM_power ⟨(Nat.le_of_ble_eq_true rfl), (Nat.le_of_ble_eq_true rfl)⟩ (Nat.le_of_ble_eq_true rfl) rfl (Nat.le_of_ble_eq_true rfl) rfl rfl (Nat.zero_le _) (Nat.zero_le _) ?_
    refine s_power (m := N) (by omega) ?_
    dsimp only [pushR]
    refine x_top (nI (10 ^ N)) (powI_n 10 N) ?_
    refine x_iconst 1 (by decide) cM_noWord_21 ?_
    refine x_isub cM_noWord_22 ?_
    refine x_top (nI (10 ^ N - 1)) (pk_sub (b := 1) hp0) ?_
    refine x_i2l cM_noWord_23 ?_
    refine x_s3 (ls0 := [some _, none, some _, none, some _, none]) cM_noWord_24 kM_69 okM_in ⟨(Nat.le_of_ble_eq_true rfl), (Nat.le_of_ble_eq_true rfl)⟩ (Nat.le_of_ble_eq_true rfl) rfl (Nat.le_of_ble_eq_true rfl) rfl rfl (Nat.zero_le _) (Nat.zero_le _) ?_
    refine s_in (a := 0) (b := nI (10 ^ N - 1)) (by decide) rfl (fun hw => ?_) (fun hw => ?_)
    · dsimp only [pushR]
      obtain ⟨W, hW, eW⟩ := nI_of2 (M := nI (10 ^ N - 1)) (n := 10 ^ N - 1) (x := w) (nI_toInt (by omega)) (Int32.not_lt.mpr hw.1) hw.2
      subst eW
      refine x_if_ne cM_noWord_27 (fun _ => ?_) (fun q => absurd q (by decide))
      refine x_iconst 1 (by decide) cM_noWord_32 ?_
      refine x_istore_2 cM_noWord_33 rfl (Nat.le_of_ble_eq_true rfl) ?_
      refine x_iconst 0 (by decide) cM_noWord_34 ?_
      refine x_istore_3 cM_noWord_35 rfl (Nat.le_of_ble_eq_true rfl) ?_
      exact s_noWord_loop (N := N) (W := W) hN (by omega) (fun z => h0 N W ⟨rfl, rfl, ⟨hN1, hN⟩, by omega, z⟩) (fun z => h1 (fun N2 W2 hI => by
        obtain ⟨e1, e2, e3⟩ := hI
        have hl := e3.lt
        obtain rfl : N2 = N := (nI_eq (by have := e3.1.2; omega) (by omega)).mp e1.symm
        obtain rfl : W2 = W := (nI_eq (by omega) (by omega)).mp e2.symm
        exact z e3.2.2)) N 0 (by omega) 1 (Or.inl ⟨rfl, fun i hi => absurd hi (Nat.not_lt_zero i)⟩)
    · dsimp only [pushR]
      refine x_if_ne cM_noWord_27 (fun q => absurd rfl q) (fun _ => ?_)
      refine x_iconst 1 (by decide) cM_noWord_30 ?_
      refine x_ireturn cM_noWord_31 rfl rfl (Nat.zero_le _) (Nat.zero_le _) ?_
      exact h1 (fun N2 W2 hI => hw (by
        obtain ⟨e1, e2, e3⟩ := hI
        have hl := e3.lt
        obtain rfl : N2 = N := (nI_eq (by have := e3.1.2; omega) (by omega)).mp e1.symm
        subst e2
        have h3 := e3.2.1
        exact ⟨nI_pos' (by omega), nI_le (by omega) (by omega)⟩))
  · dsimp only [pushR]
    refine x_if_eq cM_noWord_9 (fun _ => ?_) (fun q => absurd rfl q)
    refine x_iconst 1 (by decide) cM_noWord_30 ?_
    refine x_ireturn cM_noWord_31 rfl rfl (Nat.zero_le _) (Nat.zero_le _) ?_
    exact h1 (fun N2 W2 hI => hn (by
      obtain ⟨e1, e2, e3⟩ := hI
      subst e1
      exact ⟨nI_le (a := 1) e3.1.1 (by have := e3.1.2; omega), nI_le (b := 6) e3.1.2 (by decide)⟩))
theorem s_moved {Po : Option Value → HS → Prop} {h : HS} {N W M : Nat} (hN : N ≤ 6) (hW : W < 2 ^ 31) (hM : M < 5) (hq : Po (some (.int (nI (hr (fun k => (W / 10 ^ k % 10 + M) % 4) N 0)))) h) : xj yM_moved (mG yM_moved Po) 0 [some (.int (nI N)), some (.int (nI W)), some (.int (nI M)), none, none] [] h 0 0 := by
  have L : ∀ k, k ≤ N → xj yM_moved (mG yM_moved Po) 7 [some (.int (nI N)), some (.int (nI W)), some (.int (nI M)), some (.int (nI (hr (fun k => (W / 10 ^ k % 10 + M) % 4) (N - k) k))), some (.int (nI k - 1))] [] h 0 0 := by
    intro k
    induction k with
    | zero =>
      intro hk
      refine x_iload_4 cM_moved_7 ?_
      refine x_if_lt cM_moved_9 (fun q9 => ?_) (fun q9 => absurd q9 (fun z => z (by decide)))
      refine x_iload_3 cM_moved_40 ?_
      refine x_ireturn cM_moved_41 rfl rfl (Nat.zero_le _) (Nat.zero_le _) ?_
      exact hq
    | succ k ih =>
      intro hk
      rw [show nI (k + 1) - 1 = nI k from nI_pred k]
      have hp0 : 0 < 10 ^ k := Nat.pow_pos (by decide)
      have hpl := p10le (k := k) (N := N) (by omega) hN
      have hdv : W / 10 ^ k ≤ W := Nat.div_le_self _ _
      refine x_iload_4 cM_moved_7 ?_
      refine x_if_lt cM_moved_9 (fun q9 => absurd q9 (nI_pos (by omega))) (fun q9 => ?_)
      refine x_bipush 10 (by decide) cM_moved_12 ?_
      refine x_iload_3 cM_moved_14 ?_
      refine x_imul cM_moved_15 ?_
      refine x_iload_1 cM_moved_16 ?_
      refine x_bipush 10 (by decide) cM_moved_17 ?_
      refine x_iload_4 cM_moved_19 ?_
      refine x_s2 (ls0 := [some _, some _, none, none]) cM_moved_21 kM_165 okM_power ⟨(Nat.le_of_ble_eq_true rfl), (Nat.le_of_ble_eq_true rfl)⟩ (Nat.le_of_ble_eq_true rfl) rfl (Nat.le_of_ble_eq_true rfl) rfl rfl (Nat.zero_le _) (Nat.zero_le _) ?_
      refine s_power (m := k) (by omega) ?_
      dsimp only [pushR]
      refine x_top (nI (10 ^ k)) (powI_n 10 k) ?_
      refine x_idiv (nI_ne0 hp0 (by omega)) cM_moved_24 ?_
      refine x_top (nI (W / 10 ^ k)) (pk_div hW hp0 (by omega)) ?_
      refine x_bipush 10 (by decide) cM_moved_25 ?_
      refine x_irem (by decide) cM_moved_27 ?_
      refine x_top (nI (W / 10 ^ k % 10)) (pk_rem (d := 10) (by omega) (by decide) (by decide)) ?_
      refine x_iload_2 cM_moved_28 ?_
      refine x_iadd cM_moved_29 ?_
      refine x_top (nI (W / 10 ^ k % 10 + M)) (nI_add _ _) ?_
      refine x_iconst 4 (by decide) cM_moved_30 ?_
      refine x_irem (by decide) cM_moved_31 ?_
      refine x_top (nI ((W / 10 ^ k % 10 + M) % 4)) (pk_rem (d := 4) (by omega) (by decide) (by decide)) ?_
      refine x_iadd cM_moved_32 ?_
      refine x_top (nI (hr (fun k => (W / 10 ^ k % 10 + M) % 4) (N - k) k)) (by
        rw [show N - k = N - (k + 1) + 1 by omega]
        simp only [hr]
        rw [show (10 : Int32) * nI (hr (fun k => (W / 10 ^ k % 10 + M) % 4) (N - (k + 1)) (k + 1)) = nI (10 * hr (fun k => (W / 10 ^ k % 10 + M) % 4) (N - (k + 1)) (k + 1)) from pk_mul 10 _, nI_add, Nat.add_comm]) ?_
      refine x_istore_3 cM_moved_33 rfl (Nat.le_of_ble_eq_true rfl) ?_
      refine x_iinc_4 (nI k - 1) cM_moved_34 rfl (nI_dec k) (Nat.le_of_ble_eq_true rfl) ?_
      refine x_goto cM_moved_37 ?_
      exact ih (by omega)
  refine x_iconst 0 (by decide) cM_moved_0 ?_
  refine x_istore_3 cM_moved_1 rfl (Nat.le_of_ble_eq_true rfl) ?_
  refine x_iload_0 cM_moved_2 ?_
  refine x_iconst 1 (by decide) cM_moved_3 ?_
  refine x_isub cM_moved_4 ?_
  refine x_istore_4 cM_moved_5 rfl (Nat.le_of_ble_eq_true rfl) ?_
  have := L N (Nat.le_refl N)
  rw [Nat.sub_self] at this
  exact this
theorem s_bridles_loop {Po : Option Value → HS → Prop} {I : IT} {J : JT} {P : PT} {c B : Nat} (hc : I 96 0 = nI c) (hc5 : c ≤ 5) (hB : bsum (mdD I 96 92) c = nI B) (hB2 : B < 21) (hq : Po (some (.int (nI (B % 4)))) (hp I J P)) : ∀ n k, k + n = c → xj yM_bridles (mG yM_bridles Po) 4 [some (.ref 90), some (.int (sumI (fun j => dB (mdD I 96 92) j + 2) k)), some (.int (nI k))] [] (hp I J P) 0 0 := by
  intro n
  induction n with
  | zero =>
    intro k hk
    obtain rfl : k = c := by omega
    refine x_iload_2 cM_bridles_4 ?_
    refine x_aload_0 cM_bridles_5 ?_
    refine x_gR (b := 96) cM_bridles_6 fM_29 rfl rfl rfl ?_
    refine x_iconst 0 (by decide) cM_bridles_9 ?_
    refine x_al (0) cM_bridles_10 rfl rfl (by decide) (by decide) ?_
    refine x_icmp_ge cM_bridles_11 (fun q11 => ?_) (fun q11 => absurd q11 (fun z => z (by rw [hc]; exact Int32.le_refl _)))
    refine x_iload_1 cM_bridles_34 ?_
    refine x_top (nI B) hB ?_
    refine x_iconst 4 (by decide) cM_bridles_35 ?_
    refine x_irem (by decide) cM_bridles_36 ?_
    refine x_top (nI (B % 4)) (pk_rem (d := 4) (by omega) (by decide) (by decide)) ?_
    refine x_ireturn cM_bridles_37 rfl rfl (Nat.zero_le _) (Nat.zero_le _) ?_
    exact hq
  | succ n ih =>
    intro k hk
    refine x_iload_2 cM_bridles_4 ?_
    refine x_aload_0 cM_bridles_5 ?_
    refine x_gR (b := 96) cM_bridles_6 fM_29 rfl rfl rfl ?_
    refine x_iconst 0 (by decide) cM_bridles_9 ?_
    refine x_al (0) cM_bridles_10 rfl rfl (by decide) (by decide) ?_
    refine x_icmp_ge cM_bridles_11 (fun q11 => absurd q11 (by rw [hc]; exact nI_ge (by omega) (by omega))) (fun q11 => ?_)
    refine x_iload_1 cM_bridles_14 ?_
    refine x_aload_0 cM_bridles_15 ?_
    refine x_gR (b := 96) cM_bridles_16 fM_29 rfl rfl rfl ?_
    refine x_bipush 8 (by decide) cM_bridles_19 ?_
    refine x_iload_2 cM_bridles_21 ?_
    refine x_iadd cM_bridles_22 ?_
    refine x_al (8 + k) cM_bridles_23 rfl (nI_add 8 k) (by omega) (by decide) ?_
    refine x_iconst 2 (by decide) cM_bridles_24 ?_
    refine x_iadd cM_bridles_25 ?_
    refine x_iadd cM_bridles_26 ?_
    refine x_istore_1 cM_bridles_27 rfl (Nat.le_of_ble_eq_true rfl) ?_
    refine x_iinc_2 (nI (k + 1)) cM_bridles_28 rfl (nI_inc k) (Nat.le_of_ble_eq_true rfl) ?_
    refine x_goto cM_bridles_31 ?_
    exact ih (k + 1) (by omega)
theorem s_bridles {Po : Option Value → HS → Prop} {I : IT} {J : JT} {P : PT} {c B : Nat} (hc : I 96 0 = nI c) (hc5 : c ≤ 5) (hB : bsum (mdD I 96 92) c = nI B) (hB2 : B < 21) (hq : Po (some (.int (nI (B % 4)))) (hp I J P)) : xj yM_bridles (mG yM_bridles Po) 0 [some (.ref 90), none, none] [] (hp I J P) 0 0 := by
  refine x_iconst 0 (by decide) cM_bridles_0 ?_
  refine x_istore_1 cM_bridles_1 rfl (Nat.le_of_ble_eq_true rfl) ?_
  refine x_iconst 0 (by decide) cM_bridles_2 ?_
  refine x_istore_2 cM_bridles_3 rfl (Nat.le_of_ble_eq_true rfl) ?_
  exact s_bridles_loop hc hc5 hB hB2 hq c 0 (by omega)
theorem m_arrives {Po : Option Value → HS → Prop} {I : IT} {J : JT} {P : PT} {c : Nat} {n w : Int32} (hc : I 96 0 = nI c) (hc5 : c ≤ 5) (hB : ∃ B, B < 21 ∧ bsum (mdD I 96 92) c = nI B) (hq : ∀ (r : Int32) (I' : IT), (RArr (fun N W => shA W (bsum (mdD I 96 92) c) N) n w r ∧ SameM I I') → Po (some (.int r)) (hp I' J P)) : xj yM_arrives (mG yM_arrives Po) 0 [some (.ref 90), some (.int n), some (.int w)] [] (hp I J P) 0 0 := by
  refine x_aload_0 cM_arrives_0 ?_
  refine x_iconst 0 (by decide) cM_arrives_1 ?_
  refine x_pI cM_arrives_2 fM_66 rfl rfl ?_
  refine x_iload_1 cM_arrives_5 ?_
  refine x_iload_2 cM_arrives_6 ?_
  refine x_s2 (ls0 := [some _, some _, none, none]) cM_arrives_7 kM_200 okM_noWord ⟨(Nat.le_of_ble_eq_true rfl), (Nat.le_of_ble_eq_true rfl)⟩ (Nat.le_of_ble_eq_true rfl) rfl (Nat.le_of_ble_eq_true rfl) rfl rfl (Nat.zero_le _) (Nat.zero_le _) ?_
  refine s_noWord (fun hno => ?_) (fun N W hW => ?_)
  · dsimp only [pushR]
    refine x_if_eq cM_arrives_10 (fun q => absurd q (by decide)) (fun _ => ?_)
    refine x_bipush (-2) (by decide) cM_arrives_13 ?_
    refine x_goto cM_arrives_15 ?_
    refine x_ireturn cM_arrives_27 rfl rfl (Nat.zero_le _) (Nat.zero_le _) ?_
    exact hq _ _ ⟨⟨fun N W hI => absurd hI (hno N W), fun _ => rfl⟩, SameM.th I⟩
  · dsimp only [pushR]
    obtain ⟨e1, e2, e3⟩ := hW
    subst e1
    subst e2
    have hlt := e3.lt
    obtain ⟨B, hB2, hBe⟩ := hB
    refine x_if_eq cM_arrives_10 (fun _ => ?_) (fun q => absurd rfl q)
    refine x_iload_1 cM_arrives_18 ?_
    refine x_iload_2 cM_arrives_19 ?_
    refine x_aload_0 cM_arrives_20 ?_
    refine x_v0 (ls0 := [some _, none, none]) cM_arrives_21 kM_203 okM_bridles ⟨(Nat.le_of_ble_eq_true rfl), (Nat.le_of_ble_eq_true rfl)⟩ (Nat.le_of_ble_eq_true rfl) rfl (Nat.le_of_ble_eq_true rfl) rfl ⟨_, rfl, rfl⟩ rfl rfl (Nat.zero_le _) (Nat.zero_le _) ?_
    refine s_bridles (c := c) (B := B) (by rw [u2_n (by decide)]; exact hc) hc5 (by rw [mdD_th I 0 (Or.inl rfl) (Or.inl rfl)]; exact hBe) hB2 ?_
    dsimp only [pushR]
    refine x_s3 (ls0 := [some _, some _, some _, none, none]) cM_arrives_24 kM_206 okM_moved ⟨(Nat.le_of_ble_eq_true rfl), (Nat.le_of_ble_eq_true rfl)⟩ (Nat.le_of_ble_eq_true rfl) rfl (Nat.le_of_ble_eq_true rfl) rfl rfl (Nat.zero_le _) (Nat.zero_le _) ?_
    refine s_moved (N := N) (W := W) (M := B % 4) e3.1.2 (by omega) (by omega) ?_
    dsimp only [pushR]
    refine x_ireturn cM_arrives_27 rfl rfl (Nat.zero_le _) (Nat.zero_le _) ?_
    refine hq _ _ ⟨⟨fun N2 W2 hI => ?_, fun z => absurd ⟨rfl, rfl, e3⟩ (z N W)⟩, SameM.th I⟩
    obtain ⟨rfl, rfl⟩ := IsW.one hI ⟨rfl, rfl, e3⟩
    rw [hBe]
    exact (sha_all (fun k hk => fm_a B hB2 _ (e3.2.2 k hk))).symm
theorem m_sent {Po : Option Value → HS → Prop} {I : IT} {J : JT} {P : PT} {c : Nat} {n w : Int32} (hc : I 96 0 = nI c) (hc5 : c ≤ 5) (hB : ∃ B, B < 21 ∧ bsum (mdD I 96 92) c = nI B) (hq : ∀ (r : Int32) (I' : IT), (RArr (fun N W => shA W (-bsum (mdD I 96 92) c) N) n w r ∧ SameM I I') → Po (some (.int r)) (hp I' J P)) : xj yM_sent (mG yM_sent Po) 0 [some (.ref 90), some (.int n), some (.int w)] [] (hp I J P) 0 0 := by
  refine x_aload_0 cM_sent_0 ?_
  refine x_iconst 0 (by decide) cM_sent_1 ?_
  refine x_pI cM_sent_2 fM_66 rfl rfl ?_
  refine x_iload_1 cM_sent_5 ?_
  refine x_iload_2 cM_sent_6 ?_
  refine x_s2 (ls0 := [some _, some _, none, none]) cM_sent_7 kM_200 okM_noWord ⟨(Nat.le_of_ble_eq_true rfl), (Nat.le_of_ble_eq_true rfl)⟩ (Nat.le_of_ble_eq_true rfl) rfl (Nat.le_of_ble_eq_true rfl) rfl rfl (Nat.zero_le _) (Nat.zero_le _) ?_
  refine s_noWord (fun hno => ?_) (fun N W hW => ?_)
  · dsimp only [pushR]
    refine x_if_eq cM_sent_10 (fun q => absurd q (by decide)) (fun _ => ?_)
    refine x_bipush (-2) (by decide) cM_sent_13 ?_
    refine x_goto cM_sent_15 ?_
    refine x_ireturn cM_sent_29 rfl rfl (Nat.zero_le _) (Nat.zero_le _) ?_
    exact hq _ _ ⟨⟨fun N W hI => absurd hI (hno N W), fun _ => rfl⟩, SameM.th I⟩
  · dsimp only [pushR]
    obtain ⟨e1, e2, e3⟩ := hW
    subst e1
    subst e2
    have hlt := e3.lt
    obtain ⟨B, hB2, hBe⟩ := hB
    refine x_if_eq cM_sent_10 (fun _ => ?_) (fun q => absurd rfl q)
    refine x_iload_1 cM_sent_18 ?_
    refine x_iload_2 cM_sent_19 ?_
    refine x_iconst 4 (by decide) cM_sent_20 ?_
    refine x_aload_0 cM_sent_21 ?_
    refine x_v0 (ls0 := [some _, none, none]) cM_sent_22 kM_203 okM_bridles ⟨(Nat.le_of_ble_eq_true rfl), (Nat.le_of_ble_eq_true rfl)⟩ (Nat.le_of_ble_eq_true rfl) rfl (Nat.le_of_ble_eq_true rfl) rfl ⟨_, rfl, rfl⟩ rfl rfl (Nat.zero_le _) (Nat.zero_le _) ?_
    refine s_bridles (c := c) (B := B) (by rw [u2_n (by decide)]; exact hc) hc5 (by rw [mdD_th I 0 (Or.inl rfl) (Or.inl rfl)]; exact hBe) hB2 ?_
    dsimp only [pushR]
    refine x_isub cM_sent_25 ?_
    refine x_top (nI (4 - B % 4)) (pk_sub (a := 4) (by omega)) ?_
    refine x_s3 (ls0 := [some _, some _, some _, none, none]) cM_sent_26 kM_206 okM_moved ⟨(Nat.le_of_ble_eq_true rfl), (Nat.le_of_ble_eq_true rfl)⟩ (Nat.le_of_ble_eq_true rfl) rfl (Nat.le_of_ble_eq_true rfl) rfl rfl (Nat.zero_le _) (Nat.zero_le _) ?_
    refine s_moved (N := N) (W := W) (M := 4 - B % 4) e3.1.2 (by omega) (by omega) ?_
    dsimp only [pushR]
    refine x_ireturn cM_sent_29 rfl rfl (Nat.zero_le _) (Nat.zero_le _) ?_
    refine hq _ _ ⟨⟨fun N2 W2 hI => ?_, fun z => absurd ⟨rfl, rfl, e3⟩ (z N W)⟩, SameM.th I⟩
    obtain ⟨rfl, rfl⟩ := IsW.one hI ⟨rfl, rfl, e3⟩
    rw [hBe]
    exact (sha_all (fun k hk => fm_s B hB2 _ (e3.2.2 k hk))).symm
