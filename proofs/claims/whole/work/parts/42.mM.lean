/-- how two words differ at a place; how many places differ oddly, how many by two -/
def dN (W V k : Nat) : Nat := (W / 10 ^ k % 10 + 4 - V / 10 ^ k % 10) % 4
def sN (W V : Nat) : Nat → Nat
  | 0 => 0
  | k + 1 => sN W V k + dN W V k % 2
def tN (W V : Nat) : Nat → Nat
  | 0 => 0
  | k + 1 => tN W V k + (if dN W V k = 2 then 1 else 0)
theorem st_le (W V : Nat) : ∀ k, sN W V k + tN W V k ≤ k
  | 0 => Nat.le_refl 0
  | k + 1 => by
    have := st_le W V k
    have h4 : dN W V k < 4 := Nat.mod_lt _ (by decide)
    simp only [sN, tN]
    split <;> omega
theorem dg_eq : ∀ N W V, W < 10 ^ N → V < 10 ^ N → (∀ k, k < N → W / 10 ^ k % 10 = V / 10 ^ k % 10) → W = V
  | 0, W, V, h1, h2, _ => by
    rw [Nat.pow_zero] at h1 h2
    omega
  | N + 1, W, V, h1, h2, h => by
    have hs := Nat.pow_succ 10 N
    have h0 := h 0 (by omega)
    simp only [Nat.pow_zero, Nat.div_one] at h0
    have ih := dg_eq N (W / 10) (V / 10) (by omega) (by omega) (fun k hk => by
      have := h (k + 1) (by omega)
      rw [Nat.div_div_eq_div_mul, Nat.div_div_eq_div_mul, Nat.mul_comm, ← Nat.pow_succ]
      exact this)
    omega
theorem st_ap {W V N : Nat} (hW : ∀ i, i < N → W / 10 ^ i % 10 < 4) (hV : ∀ i, i < N → V / 10 ^ i % 10 < 4) : ∀ k, k ≤ N → apI W V k = nI (sN W V k + tN W V k) ∧ frI W V k = nI (tN W V k)
  | 0, _ => ⟨rfl, rfl⟩
  | k + 1, hk => by
    obtain ⟨h1, h2⟩ := st_ap hW hV k (by omega)
    have hd : dfI W V k = nI (dN W V k) := fm_d _ (hV k (by omega)) _ (hW k (by omega))
    have h4 : dN W V k < 4 := Nat.mod_lt _ (by decide)
    simp only [apI, frI, sN, tN]
    rw [hd]
    rcases (show dN W V k = 0 ∨ dN W V k = 1 ∨ dN W V k = 2 ∨ dN W V k = 3 by omega) with e | e | e | e <;> rw [e]
    · exact ⟨by rw [if_pos nI_0, h1]; rfl, by rw [if_neg (by decide), h2]; rfl⟩
    · exact ⟨by rw [if_neg (by decide), h1, nI_1]; congr 1; simp; omega, by rw [if_neg (by decide), h2]; rfl⟩
    · exact ⟨by rw [if_neg (by decide), h1, nI_1]; rfl, by rw [if_pos rfl, h2, nI_1]; rfl⟩
    · exact ⟨by rw [if_neg (by decide), h1, nI_1]; congr 1; simp; omega, by rw [if_neg (by decide), h2]; rfl⟩
theorem st_meet {W V N : Nat} (hN : N ≤ 6) (hW : ∀ i, i < N → W / 10 ^ i % 10 < 4) (hV : ∀ i, i < N → V / 10 ^ i % 10 < 4) : Meet W V N ↔ sN W V N + 2 * tN W V N ≤ 2 := by
  obtain ⟨h1, h2⟩ := st_ap hW hV N (Nat.le_refl N)
  have h3 := st_le W V N
  unfold Meet
  rw [h1, h2]
  have e1 : nI (sN W V N + tN W V N) ≤ 1 ↔ sN W V N + tN W V N ≤ 1 := nI_leI (b := 1) (by omega) (by decide)
  have e2 : nI (sN W V N + tN W V N) = 2 ↔ sN W V N + tN W V N = 2 := nI_eq (b := 2) (by omega) (by decide)
  have e3 : nI (tN W V N) = 0 ↔ tN W V N = 0 := nI_eq (b := 0) (by omega) (by decide)
  rw [e1, e2, e3]
  omega
theorem st_same {W V N : Nat} (h1 : Wd N W) (h2 : Wd N V) : W = V ↔ sN W V N + tN W V N = 0 := by
  constructor
  · intro e
    subst e
    have : ∀ k, sN W W k + tN W W k = 0 := by
      intro k
      induction k with
      | zero => rfl
      | succ k ih =>
        have : dN W W k = 0 := by unfold dN; omega
        simp only [sN, tN]
        rw [this]
        simp
        omega
    exact this N
  · intro e
    have hz : ∀ k, k ≤ N → sN W V k + tN W V k = 0 → ∀ i, i < k → dN W V i = 0 := by
      intro k
      induction k with
      | zero => intro _ _ i hi; omega
      | succ k ih =>
        intro hk h0 i hi
        simp only [sN, tN] at h0
        have h4 : dN W V k < 4 := Nat.mod_lt _ (by decide)
        rcases Nat.lt_or_ge i k with z | z
        · exact ih (by omega) (by omega) i z
        · rw [show i = k by omega]
          split at h0 <;> omega
    refine dg_eq N W V h1.2.1 h2.2.1 (fun k hk => ?_)
    have a1 := hz N (Nat.le_refl N) e k hk
    have a2 := h1.2.2 k hk
    have a3 := h2.2.2 k hk
    unfold dN at a1
    omega
theorem s_taken_loop {Po : Option Value → HS → Prop} {I : IT} {J : JT} {P : PT} {c N W V : Nat} (hN : N ≤ 6) (hW : W < 2 ^ 31) (hV : V < 2 ^ 31) (h10 : I 96 0 = nI c) (hc5 : c ≤ 5) (hWd : ∀ i, i < N → W / 10 ^ i % 10 < 4) (hVd : ∀ i, i < N → V / 10 ^ i % 10 < 4) (hq : ∀ r, ((c = 0 → (sN W V N + tN W V N = 0 → r = 1) ∧ (¬ sN W V N + tN W V N = 0 → r = 0)) ∧ (¬ c = 0 → (sN W V N + 2 * tN W V N ≤ 2 → r = 1) ∧ (¬ sN W V N + 2 * tN W V N ≤ 2 → r = 0))) → Po (some (.int r)) (hp I J P)) : ∀ n k, k + n = N → ∀ g7, isC2 g7 = false → xj yM_taken (mG yM_taken Po) 33 [some (.ref 90), some (.int (nI N)), some (.int (nI W)), some (.int (nI V)), some (.int (nI (sN W V k))), some (.int (nI (tN W V k))), some (.int (nI k)), g7] [] (hp I J P) 0 0 := by
  have hst := st_le W V N
  intro n
  induction n with
  | zero =>
    intro k hk g7 _
    obtain rfl : k = N := by omega
    refine x_iload_6 cM_taken_33 ?_
    refine x_iload_1 cM_taken_35 ?_
    refine x_icmp_ge cM_taken_36 (fun q36 => ?_) (fun q36 => absurd q36 (fun z => z (Int32.le_refl _)))
    refine x_aload_0 cM_taken_101 ?_
    refine x_gR (b := 96) cM_taken_102 fM_29 rfl rfl rfl ?_
    refine x_iconst 0 (by decide) cM_taken_105 ?_
    refine x_al (0) cM_taken_106 rfl rfl (by decide) (by decide) ?_
    refine x_if_ne cM_taken_107 (fun q107 => ?_) (fun q107 => ?_)
    · have hc0 : ¬ c = 0 := fun z => q107 (by rw [h10, z]; rfl)
      refine x_iload_4 cM_taken_124 ?_
      refine x_iconst 2 (by decide) cM_taken_126 ?_
      refine x_iload_5 cM_taken_127 ?_
      refine x_imul cM_taken_129 ?_
      refine x_top (nI (2 * tN W V k)) (pk_mul 2 _) ?_
      refine x_iadd cM_taken_130 ?_
      refine x_top (nI (sN W V k + 2 * tN W V k)) (nI_add _ _) ?_
      refine x_iconst 2 (by decide) cM_taken_131 ?_
      refine x_icmp_gt cM_taken_132 (fun q132 => ?_) (fun q132 => ?_)
      · have hs2 : ¬ sN W V k + 2 * tN W V k ≤ 2 := fun z => absurd q132 (nI_nlt (a := 2) z (by decide))
        refine x_iconst 0 (by decide) cM_taken_139 ?_
        refine x_ireturn cM_taken_140 rfl rfl (Nat.zero_le _) (Nat.zero_le _) ?_
        exact hq _ ⟨fun z => absurd z hc0, fun _ => ⟨fun z => absurd z hs2, fun _ => rfl⟩⟩
      · have hs2 : sN W V k + 2 * tN W V k ≤ 2 := by
          rcases Nat.lt_or_ge 2 (sN W V k + 2 * tN W V k) with z | z
          · exact absurd (nI_lt (a := 2) z (by omega)) q132
          · exact z
        refine x_iconst 1 (by decide) cM_taken_135 ?_
        refine x_goto cM_taken_136 ?_
        refine x_ireturn cM_taken_140 rfl rfl (Nat.zero_le _) (Nat.zero_le _) ?_
        exact hq _ ⟨fun z => absurd z hc0, fun _ => ⟨fun _ => rfl, fun z => absurd hs2 z⟩⟩
    · have hc0 : c = 0 := (nI_eq (b := 0) (by omega) (by decide)).mp (by rw [← h10, nI_0]; simpa using q107)
      refine x_iload_4 cM_taken_110 ?_
      refine x_iload_5 cM_taken_112 ?_
      refine x_iadd cM_taken_114 ?_
      refine x_top (nI (sN W V k + tN W V k)) (nI_add _ _) ?_
      refine x_if_ne cM_taken_115 (fun q115 => ?_) (fun q115 => ?_)
      · have hs0 : ¬ sN W V k + tN W V k = 0 := fun z => q115 (by rw [z]; rfl)
        refine x_iconst 0 (by decide) cM_taken_122 ?_
        refine x_ireturn cM_taken_123 rfl rfl (Nat.zero_le _) (Nat.zero_le _) ?_
        exact hq _ ⟨fun _ => ⟨fun z => absurd z hs0, fun _ => rfl⟩, fun z => absurd hc0 z⟩
      · have hs0 : sN W V k + tN W V k = 0 := (nI_eq (b := 0) (by omega) (by decide)).mp (by rw [nI_0]; simpa using q115)
        refine x_iconst 1 (by decide) cM_taken_118 ?_
        refine x_goto cM_taken_119 ?_
        refine x_ireturn cM_taken_123 rfl rfl (Nat.zero_le _) (Nat.zero_le _) ?_
        exact hq _ ⟨fun _ => ⟨fun _ => rfl, fun z => absurd hs0 z⟩, fun z => absurd hc0 z⟩
  | succ n ih =>
    intro k hk g7 hg7
    have hkN : k < N := by omega
    have hp0 : 0 < 10 ^ k := Nat.pow_pos (by decide)
    have hpl := p10le (k := k) (N := N) (by omega) hN
    have hdw : W / 10 ^ k ≤ W := Nat.div_le_self _ _
    have hdv : V / 10 ^ k ≤ V := Nat.div_le_self _ _
    have aw := hWd k hkN
    have av := hVd k hkN
    have h4 : dN W V k < 4 := Nat.mod_lt _ (by decide)
    refine x_iload_6 cM_taken_33 ?_
    refine x_iload_1 cM_taken_35 ?_
    refine x_icmp_ge cM_taken_36 (fun q36 => absurd q36 (nI_ge hkN (by omega))) (fun q36 => ?_)
    refine x_iload_2 cM_taken_39 ?_
    refine x_bipush 10 (by decide) cM_taken_40 ?_
    refine x_iload_6 cM_taken_42 ?_
    refine x_s2 (ls0 := [some _, some _, none, none]) cM_taken_44 kM_165 okM_power ⟨(Nat.le_of_ble_eq_true rfl), (Nat.le_of_ble_eq_true rfl)⟩ (Nat.le_of_ble_eq_true rfl) rfl (Nat.le_of_ble_eq_true rfl) rfl rfl (Nat.zero_le _) (Nat.zero_le _) ?_
    refine s_power (m := k) (by omega) ?_
    dsimp only [pushR]
    refine x_top (nI (10 ^ k)) (powI_n 10 k) ?_
    refine x_idiv (nI_ne0 hp0 (by omega)) cM_taken_47 ?_
    refine x_top (nI (W / 10 ^ k)) (pk_div hW hp0 (by omega)) ?_
    refine x_bipush 10 (by decide) cM_taken_48 ?_
    refine x_irem (by decide) cM_taken_50 ?_
    refine x_top (nI (W / 10 ^ k % 10)) (pk_rem (d := 10) (by omega) (by decide) (by decide)) ?_
    refine x_iconst 4 (by decide) cM_taken_51 ?_
    refine x_iadd cM_taken_52 ?_
    refine x_top (nI (W / 10 ^ k % 10 + 4)) (nI_add _ 4) ?_
    refine x_iload_3 cM_taken_53 ?_
    refine x_bipush 10 (by decide) cM_taken_54 ?_
    refine x_iload_6 cM_taken_56 ?_
    refine x_s2 (ls0 := [some _, some _, none, none]) cM_taken_58 kM_165 okM_power ⟨(Nat.le_of_ble_eq_true rfl), (Nat.le_of_ble_eq_true rfl)⟩ (Nat.le_of_ble_eq_true rfl) rfl (Nat.le_of_ble_eq_true rfl) rfl rfl (Nat.zero_le _) (Nat.zero_le _) ?_
    refine s_power (m := k) (by omega) ?_
    dsimp only [pushR]
    refine x_top (nI (10 ^ k)) (powI_n 10 k) ?_
    refine x_idiv (nI_ne0 hp0 (by omega)) cM_taken_61 ?_
    refine x_top (nI (V / 10 ^ k)) (pk_div hV hp0 (by omega)) ?_
    refine x_bipush 10 (by decide) cM_taken_62 ?_
    refine x_irem (by decide) cM_taken_64 ?_
    refine x_top (nI (V / 10 ^ k % 10)) (pk_rem (d := 10) (by omega) (by decide) (by decide)) ?_
    refine x_isub cM_taken_65 ?_
    refine x_top (nI (W / 10 ^ k % 10 + 4 - V / 10 ^ k % 10)) (pk_sub (by omega)) ?_
    refine x_iconst 4 (by decide) cM_taken_66 ?_
    refine x_irem (by decide) cM_taken_67 ?_
    refine x_top (nI (dN W V k)) (pk_rem (d := 4) (by omega) (by decide) (by decide)) ?_
    refine x_istore_7 cM_taken_68 rfl (Nat.le_of_ble_eq_true rfl) ?_
    refine x_iload_4 cM_taken_70 ?_
    refine x_iload_7 cM_taken_72 ?_
    refine x_iconst 2 (by decide) cM_taken_74 ?_
    refine x_irem (by decide) cM_taken_75 ?_
    refine x_top (nI (dN W V k % 2)) (pk_rem (d := 2) (by omega) (by decide) (by decide)) ?_
    refine x_iadd cM_taken_76 ?_
    refine x_top (nI (sN W V (k + 1))) (by rw [nI_add]; rfl) ?_
    refine x_istore_4 cM_taken_77 rfl (Nat.le_of_ble_eq_true rfl) ?_
    refine x_iload_5 cM_taken_79 ?_
    refine x_iload_7 cM_taken_81 ?_
    refine x_iconst 2 (by decide) cM_taken_83 ?_
    refine x_icmp_ne cM_taken_84 (fun q84 => ?_) (fun q84 => ?_)
    · have h2 : ¬ dN W V k = 2 := fun z => q84 (by rw [z]; rfl)
      refine x_iconst 0 (by decide) cM_taken_91 ?_
      refine x_iadd cM_taken_92 ?_
      refine x_top (nI (tN W V (k + 1))) (by
        simp only [tN]
        first
          | rw [if_pos h2, nI_1]
          | rw [if_neg h2]; exact Int32.add_zero _) ?_
      refine x_istore_5 cM_taken_93 rfl (Nat.le_of_ble_eq_true rfl) ?_
      refine x_iinc_6 (nI (k + 1)) cM_taken_95 rfl (nI_inc k) (Nat.le_of_ble_eq_true rfl) ?_
      refine x_goto cM_taken_98 ?_
      exact ih (k + 1) (by omega) _ rfl
    · have h2 : dN W V k = 2 := (nI_eq (b := 2) (by omega) (by decide)).mp q84
      refine x_iconst 1 (by decide) cM_taken_87 ?_
      refine x_goto cM_taken_88 ?_
      refine x_iadd cM_taken_92 ?_
      refine x_top (nI (tN W V (k + 1))) (by
        simp only [tN]
        first
          | rw [if_pos h2, nI_1]
          | rw [if_neg h2]; exact Int32.add_zero _) ?_
      refine x_istore_5 cM_taken_93 rfl (Nat.le_of_ble_eq_true rfl) ?_
      refine x_iinc_6 (nI (k + 1)) cM_taken_95 rfl (nI_inc k) (Nat.le_of_ble_eq_true rfl) ?_
      refine x_goto cM_taken_98 ?_
      exact ih (k + 1) (by omega) _ rfl
theorem m_taken {Po : Option Value → HS → Prop} {I : IT} {J : JT} {P : PT} {c : Nat} {n w v : Int32} (hc : I 96 0 = nI c) (hc5 : c ≤ 5) (hq : ∀ (r : Int32) (I' : IT), (RTaken c n w v r ∧ SameM I I') → Po (some (.int r)) (hp I' J P)) : xj yM_taken (mG yM_taken Po) 0 [some (.ref 90), some (.int n), some (.int w), some (.int v), none, none, none, none] [] (hp I J P) 0 0 := by
  refine x_aload_0 cM_taken_0 ?_
  refine x_iconst 0 (by decide) cM_taken_1 ?_
  refine x_pI cM_taken_2 fM_66 rfl rfl ?_
  refine x_iload_1 cM_taken_5 ?_
  refine x_iload_2 cM_taken_6 ?_
  refine x_s2 (ls0 := [some _, some _, none, none]) cM_taken_7 kM_200 okM_noWord ⟨(Nat.le_of_ble_eq_true rfl), (Nat.le_of_ble_eq_true rfl)⟩ (Nat.le_of_ble_eq_true rfl) rfl (Nat.le_of_ble_eq_true rfl) rfl rfl (Nat.zero_le _) (Nat.zero_le _) ?_
  refine s_noWord (fun hno => ?_) (fun N W hW => ?_)
  · dsimp only [pushR]
    refine x_if_ne cM_taken_10 (fun _ => ?_) (fun q => absurd q (by decide))
    refine x_bipush (-2) (by decide) cM_taken_21 ?_
    refine x_ireturn cM_taken_23 rfl rfl (Nat.zero_le _) (Nat.zero_le _) ?_
    exact hq _ _ ⟨⟨fun _ => rfl, fun N W V hA hB => absurd hA (hno N W)⟩, SameM.th I⟩
  · dsimp only [pushR]
    obtain ⟨e1, e2, e3⟩ := hW
    subst e1
    subst e2
    have hlt := e3.lt
    refine x_if_ne cM_taken_10 (fun q => absurd rfl q) (fun _ => ?_)
    refine x_iload_1 cM_taken_13 ?_
    refine x_iload_3 cM_taken_14 ?_
    refine x_s2 (ls0 := [some _, some _, none, none]) cM_taken_15 kM_200 okM_noWord ⟨(Nat.le_of_ble_eq_true rfl), (Nat.le_of_ble_eq_true rfl)⟩ (Nat.le_of_ble_eq_true rfl) rfl (Nat.le_of_ble_eq_true rfl) rfl rfl (Nat.zero_le _) (Nat.zero_le _) ?_
    refine s_noWord (fun hno => ?_) (fun N2 V hV => ?_)
    · dsimp only [pushR]
      refine x_if_eq cM_taken_18 (fun q => absurd q (by decide)) (fun _ => ?_)
      refine x_bipush (-2) (by decide) cM_taken_21 ?_
      refine x_ireturn cM_taken_23 rfl rfl (Nat.zero_le _) (Nat.zero_le _) ?_
      exact hq _ _ ⟨⟨fun _ => rfl, fun N W V hA hB => absurd hB (hno N V)⟩, SameM.th I⟩
    · dsimp only [pushR]
      obtain ⟨f1, f2, f3⟩ := hV
      subst f2
      have hlv := f3.lt
      obtain rfl : N2 = N := (nI_eq (by have := f3.1.2; omega) (by have := e3.1.2; omega)).mp f1.symm
      refine x_if_eq cM_taken_18 (fun _ => ?_) (fun q => absurd rfl q)
      refine x_iconst 0 (by decide) cM_taken_24 ?_
      refine x_istore_4 cM_taken_25 rfl (Nat.le_of_ble_eq_true rfl) ?_
      refine x_iconst 0 (by decide) cM_taken_27 ?_
      refine x_istore_5 cM_taken_28 rfl (Nat.le_of_ble_eq_true rfl) ?_
      refine x_iconst 0 (by decide) cM_taken_30 ?_
      refine x_istore_6 cM_taken_31 rfl (Nat.le_of_ble_eq_true rfl) ?_
      refine s_taken_loop (c := c) (N := N2) (W := W) (V := V) e3.1.2 (by omega) (by omega) (by rw [u2_n (by decide)]; exact hc) hc5 e3.2.2 f3.2.2 (fun r hr => hq _ _ ⟨⟨fun z => absurd ⟨N2, W, V, ⟨rfl, rfl, e3⟩, ⟨rfl, rfl, f3⟩⟩ z, fun M A B hA hB => ?_⟩, SameM.th I⟩) N2 0 (by omega) _ rfl
      obtain ⟨rfl, rfl⟩ := IsW.one hA ⟨rfl, rfl, e3⟩
      obtain ⟨-, rfl⟩ := IsW.one hB ⟨rfl, rfl, f3⟩
      rw [st_same e3 f3, st_meet e3.1.2 e3.2.2 f3.2.2]
      exact hr
