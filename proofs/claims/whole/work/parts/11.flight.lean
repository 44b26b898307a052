theorem x_top {y : YI} {G : GT} {pc : Nat} {ls : List (Option Value)} {st : List Value} {h : HS} {k n : Nat} {v : Int32} (w : Int32) (e : v = w) (K : xj y G pc ls (.int w :: st) h k n) : xj y G pc ls (.int v :: st) h k n := by
  subst e; exact K
/-! the pure picture of a line: yards, bridles, tails, LOW, HIGH, BORDER, FOLD -/
abbrev LD : Type := (Nat → Int32) × ((Nat → Int32) × ((Nat → Int32) × (Int32 × (Int32 × (Int32 × Int32)))))
abbrev dY (D : LD) : Nat → Int32 := D.1
abbrev dB (D : LD) : Nat → Int32 := D.2.1
abbrev dT (D : LD) : Nat → Int32 := D.2.2.1
abbrev dLo (D : LD) : Int32 := D.2.2.2.1
abbrev dHi (D : LD) : Int32 := D.2.2.2.2.1
abbrev dBo (D : LD) : Int32 := D.2.2.2.2.2.1
abbrev dFo (D : LD) : Int32 := D.2.2.2.2.2.2
theorem nI_inc (k : Nat) : nI k + Int32.ofInt 1 = nI (k + 1) := nI_1 k
def absI (x : Int32) : Int32 := if 0 ≤ x then x else -x
def fH (D : LD) : Nat → Int32
  | 0 => 0
  | k + 1 => fH D k + (if 0 < dY D k - dT D k then dY D k - dT D k else 0)
def fL (D : LD) (k : Nat) : Int32 := (if fH D (k + 1) < dBo D then dLo D else dHi D) + dB D k
def fP (D : LD) : Nat → Int32
  | 0 => 0
  | k + 1 => fP D k + fL D k
def fB (D : LD) : Nat → Int32
  | 0 => 0
  | k + 1 => fL D k
def fF (D : LD) : Nat → Int32
  | 0 => 0
  | k + 1 => if absI (fL D k - fB D k) ≤ dFo D then fF D k else fF D k ||| ((1 : Int32) <<< (nI k &&& 31))
/-- a line of the class, as it stands at the cell a -/
def lnD (I : IT) (a : Nat) : LD := (I (a + 1), I (a + 2), I (a + 3), I a 1, I a 2, I a 3, I a 4)
/-- what Flight.follow leaves -/
def FlOut (I I' : IT) (D : LD) (c : Nat) : Prop := (∀ a, a ≠ 83 → a ≠ 84 → a ≠ 85 → I' a = I a) ∧ I' 83 2 = nI c ∧ I' 83 3 = fF D c ∧ ∀ k, k < c → I' 84 k = fH D (k + 1) ∧ I' 85 k = fP D (k + 1)
theorem s_follow_loop {Po : Option Value → HS → Prop} {I : IT} {J : JT} {P : PT} {ln c : Nat} (hl : isLn ln) (hln : ln < 80) (hc5 : c ≤ 5) (hq : ∀ I', FlOut I I' (lnD I ln) c → Po none (hp I' J P)) :
    ∀ n k, k + n = c → ∀ I', (∀ a, a ≠ 83 → a ≠ 84 → a ≠ 85 → I' a = I a) → I' 83 2 = nI c → I' 83 3 = fF (lnD I ln) k → (∀ j, j < k → I' 84 j = fH (lnD I ln) (j + 1) ∧ I' 85 j = fP (lnD I ln) (j + 1)) → ∀ g6 g7, xj yFlight_follow (mG yFlight_follow Po) 23 [some (.ref 83), some (.ref ln), some (.int (fH (lnD I ln) k)), some (.int (fP (lnD I ln) k)), some (.int (fB (lnD I ln) k)), some (.int (nI k)), g6, g7] [] (hp I' J P) 0 0 := by
  intro n
  induction n with
  | zero =>
    intro k hk I' hfr e2 e3 ej g6 g7
    obtain rfl : k = c := by omega
    refine x_iload_5 cFlight_follow_23 ?_
    refine x_aload_0 cFlight_follow_25 ?_
    refine x_gI cFlight_follow_26 fFlight_24 rfl rfl ?_
    refine x_icmp_ge cFlight_follow_29 (fun q29 => ?_) (fun q29 => absurd q29 (fun z => z (by rw [e2]; exact Int32.le_refl _)))
    refine x_return cFlight_follow_156 rfl (Nat.zero_le _) (Nat.zero_le _) ?_
    exact hq I' ⟨hfr, e2, e3, ej⟩
  | succ n ih =>
    intro k hk I' hfr e2 e3 ej g6 g7
    have hkc : k < c := by omega
    generalize hD : lnD I ln = D at *
    have hy : I' (ln + 1) = dY D := by rw [hfr _ (by omega) (by omega) (by omega), ← hD]; rfl
    have hb : I' (ln + 2) = dB D := by rw [hfr _ (by omega) (by omega) (by omega), ← hD]; rfl
    have ht : I' (ln + 3) = dT D := by rw [hfr _ (by omega) (by omega) (by omega), ← hD]; rfl
    have h0 : I' ln = I ln := hfr _ (by omega) (by omega) (by omega)
    have hlo : I' ln 1 = dLo D := by rw [h0, ← hD]; rfl
    have hhi : I' ln 2 = dHi D := by rw [h0, ← hD]; rfl
    have hbo : I' ln 3 = dBo D := by rw [h0, ← hD]; rfl
    have hfo : I' ln 4 = dFo D := by rw [h0, ← hD]; rfl
    have J126 : ∀ I2, (∀ a, a ≠ 83 → a ≠ 84 → a ≠ 85 → I2 a = I a) → I2 83 2 = nI c → I2 83 3 = fF D (k + 1) → (∀ j, j < k → I2 84 j = fH D (j + 1) ∧ I2 85 j = fP D (j + 1)) → xj yFlight_follow (mG yFlight_follow Po) 126 [some (.ref 83), some (.ref ln), some (.int (fH D (k + 1))), some (.int (fP D (k + 1))), some (.int (fB D k)), some (.int (nI k)), some (.int (if fH D (k + 1) < dBo D then dLo D else dHi D)), some (.int (fL D k))] [] (hp I2 J P) 0 0 := by
      intro I2 gfr ge2 ge3 gej
      refine x_aload_0 cFlight_follow_126 ?_
      refine x_gR (b := 84) cFlight_follow_127 fFlight_9 rfl rfl rfl ?_
      refine x_iload_5 cFlight_follow_130 ?_
      refine x_iload_2 cFlight_follow_132 ?_
      refine x_t3 (ls0 := [some _, some _, some _]) cFlight_follow_133 kFlight_63 okK_put ⟨(Nat.le_of_ble_eq_true rfl), (Nat.le_of_ble_eq_true rfl)⟩ (Nat.le_of_ble_eq_true rfl) rfl (Nat.le_of_ble_eq_true rfl) rfl rfl (Nat.zero_le _) (Nat.zero_le _) ?_
      refine s_put k rfl rfl (by omega) (by decide) ?_
      dsimp only [pushR]
      refine x_aload_0 cFlight_follow_136 ?_
      refine x_gR (b := 85) cFlight_follow_137 fFlight_15 rfl rfl rfl ?_
      refine x_iload_5 cFlight_follow_140 ?_
      refine x_iload_3 cFlight_follow_142 ?_
      refine x_t3 (ls0 := [some _, some _, some _]) cFlight_follow_143 kFlight_63 okK_put ⟨(Nat.le_of_ble_eq_true rfl), (Nat.le_of_ble_eq_true rfl)⟩ (Nat.le_of_ble_eq_true rfl) rfl (Nat.le_of_ble_eq_true rfl) rfl rfl (Nat.zero_le _) (Nat.zero_le _) ?_
      refine s_put k rfl rfl (by omega) (by decide) ?_
      dsimp only [pushR]
      refine x_iload_7 cFlight_follow_146 ?_
      refine x_istore_4 cFlight_follow_148 rfl (Nat.le_of_ble_eq_true rfl) ?_
      refine x_iinc_5 (nI (k + 1)) cFlight_follow_150 rfl (nI_inc k) (Nat.le_of_ble_eq_true rfl) ?_
      refine x_goto cFlight_follow_153 ?_
      refine ih (k + 1) (by omega) _ ?_ ?_ ?_ ?_ _ _
      · intro a h1 h2 h3
        rw [u2_n h3, u2_n h2]
        exact gfr a h1 h2 h3
      · rw [u2_n (by decide), u2_n (by decide)]; exact ge2
      · rw [u2_n (by decide), u2_n (by decide)]; exact ge3
      · intro j hj
        rw [u2_n (show 84 ≠ 85 by decide), u2_g, u2_g, u2_n (show 85 ≠ 84 by decide)]
        by_cases hjk : j = k
        · subst hjk; exact ⟨by simp, by simp⟩
        · rw [if_neg (fun z => hjk z.2), if_neg (fun z => hjk z.2)]
          exact gej j (by omega)
    have J77 : xj yFlight_follow (mG yFlight_follow Po) 77 [some (.ref 83), some (.ref ln), some (.int (fH D (k + 1))), some (.int (fP D k)), some (.int (fB D k)), some (.int (nI k)), g6, g7] [.int (if fH D (k + 1) < dBo D then dLo D else dHi D)] (hp I' J P) 0 0 := by
      refine x_istore_6 cFlight_follow_77 rfl (Nat.le_of_ble_eq_true rfl) ?_
      refine x_iload_6 cFlight_follow_79 ?_
      refine x_aload_1 cFlight_follow_81 ?_
      refine x_gR (b := ln + 2) cFlight_follow_82 fFlight_53 hl.1 rfl hl.2.2.1 ?_
      refine x_iload_5 cFlight_follow_85 ?_
      refine x_t2 (ls0 := [some _, some _]) cFlight_follow_87 kFlight_31 okK_at ⟨(Nat.le_of_ble_eq_true rfl), (Nat.le_of_ble_eq_true rfl)⟩ (Nat.le_of_ble_eq_true rfl) rfl (Nat.le_of_ble_eq_true rfl) rfl rfl (Nat.zero_le _) (Nat.zero_le _) ?_
      refine s_at k hl.2.2.2.2.2.1 rfl (by omega) (by decide) ?_
      dsimp only [pushR]
      refine x_top (dB D k) (by rw [hb]) ?_
      refine x_iadd cFlight_follow_90 ?_
      refine x_istore_7 cFlight_follow_91 rfl (Nat.le_of_ble_eq_true rfl) ?_
      refine x_iload_3 cFlight_follow_93 ?_
      refine x_iload_7 cFlight_follow_94 ?_
      refine x_iadd cFlight_follow_96 ?_
      refine x_istore_3 cFlight_follow_97 rfl (Nat.le_of_ble_eq_true rfl) ?_
      refine x_iload_7 cFlight_follow_98 ?_
      refine x_iload_4 cFlight_follow_100 ?_
      refine x_isub cFlight_follow_102 ?_
      refine x_s1 (ls0 := [some _]) cFlight_follow_103 kFlight_56 okMath_abs ⟨(Nat.le_of_ble_eq_true rfl), (Nat.le_of_ble_eq_true rfl)⟩ (Nat.le_of_ble_eq_true rfl) rfl (Nat.le_of_ble_eq_true rfl) rfl rfl (Nat.zero_le _) (Nat.zero_le _) ?_
      refine s_abs ?_
      dsimp only [pushR]
      refine x_top (absI (fL D k - fB D k)) rfl ?_
      refine x_aload_1 cFlight_follow_106 ?_
      refine x_gI cFlight_follow_107 fFlight_60 hl.1 rfl ?_
      refine x_icmp_le cFlight_follow_110 (fun q110 => ?_) (fun q110 => ?_)
      · refine J126 I' hfr e2 ?_ ej
        rw [e3]
        show _ = if absI (fL D k - fB D k) ≤ dFo D then _ else _
        rw [if_pos (by rw [← hfo]; exact q110)]
      · refine x_aload_0 cFlight_follow_113 ?_
        refine x_dup rfl cFlight_follow_114 ?_
        refine x_gI cFlight_follow_115 fFlight_25 rfl rfl ?_
        refine x_iconst 1 (by decide) cFlight_follow_118 ?_
        refine x_iload_5 cFlight_follow_119 ?_
        refine x_ishl cFlight_follow_121 ?_
        refine x_ior cFlight_follow_122 ?_
        refine x_pI cFlight_follow_123 fFlight_25 rfl rfl ?_
        refine J126 _ (fun a h1 h2 h3 => by rw [u2_n h1]; exact hfr a h1 h2 h3) (by rw [u2_sn (by decide)]; exact e2) ?_ (fun j hj => by rw [u2_n (by decide), u2_n (by decide)]; exact ej j hj)
        rw [u2_ss, e3]
        show _ = if absI (fL D k - fB D k) ≤ dFo D then _ else _
        rw [if_neg (by rw [← hfo]; exact q110)]
    refine x_iload_5 cFlight_follow_23 ?_
    refine x_aload_0 cFlight_follow_25 ?_
    refine x_gI cFlight_follow_26 fFlight_24 rfl rfl ?_
    refine x_icmp_ge cFlight_follow_29 (fun q29 => absurd q29 (by rw [e2]; exact nI_ge hkc (by omega))) (fun q29 => ?_)
    refine x_iload_2 cFlight_follow_32 ?_
    refine x_iconst 0 (by decide) cFlight_follow_33 ?_
    refine x_aload_1 cFlight_follow_34 ?_
    refine x_gR (b := ln + 1) cFlight_follow_35 fFlight_28 hl.1 rfl hl.2.1 ?_
    refine x_iload_5 cFlight_follow_38 ?_
    refine x_t2 (ls0 := [some _, some _]) cFlight_follow_40 kFlight_31 okK_at ⟨(Nat.le_of_ble_eq_true rfl), (Nat.le_of_ble_eq_true rfl)⟩ (Nat.le_of_ble_eq_true rfl) rfl (Nat.le_of_ble_eq_true rfl) rfl rfl (Nat.zero_le _) (Nat.zero_le _) ?_
    refine s_at k hl.2.2.2.2.1 rfl (by omega) (by decide) ?_
    dsimp only [pushR]
    refine x_aload_1 cFlight_follow_43 ?_
    refine x_gR (b := ln + 3) cFlight_follow_44 fFlight_35 hl.1 rfl hl.2.2.2.1 ?_
    refine x_iload_5 cFlight_follow_47 ?_
    refine x_t2 (ls0 := [some _, some _]) cFlight_follow_49 kFlight_31 okK_at ⟨(Nat.le_of_ble_eq_true rfl), (Nat.le_of_ble_eq_true rfl)⟩ (Nat.le_of_ble_eq_true rfl) rfl (Nat.le_of_ble_eq_true rfl) rfl rfl (Nat.zero_le _) (Nat.zero_le _) ?_
    refine s_at k hl.2.2.2.2.2.2 rfl (by omega) (by decide) ?_
    dsimp only [pushR]
    refine x_isub cFlight_follow_52 ?_
    refine x_s2 (ls0 := [some _, some _]) cFlight_follow_53 kFlight_38 okMath_max ⟨(Nat.le_of_ble_eq_true rfl), (Nat.le_of_ble_eq_true rfl)⟩ (Nat.le_of_ble_eq_true rfl) rfl (Nat.le_of_ble_eq_true rfl) rfl rfl (Nat.zero_le _) (Nat.zero_le _) ?_
    refine s_max ?_
    dsimp only [pushR]
    refine x_iadd cFlight_follow_56 ?_
    refine x_top (fH D (k + 1)) (by rw [hy, ht]; rfl) ?_
    refine x_istore_2 cFlight_follow_57 rfl (Nat.le_of_ble_eq_true rfl) ?_
    refine x_iload_2 cFlight_follow_58 ?_
    refine x_aload_1 cFlight_follow_59 ?_
    refine x_gI cFlight_follow_60 fFlight_44 hl.1 rfl ?_
    refine x_icmp_ge cFlight_follow_63 (fun q63 => ?_) (fun q63 => ?_)
    · refine x_aload_1 cFlight_follow_73 ?_
      refine x_gI cFlight_follow_74 fFlight_50 hl.1 rfl ?_
      exact x_top _ (by rw [hhi, if_neg (by rw [← hbo]; exact Int32.not_lt.mpr q63)]) J77
    · refine x_aload_1 cFlight_follow_66 ?_
      refine x_gI cFlight_follow_67 fFlight_47 hl.1 rfl ?_
      refine x_goto cFlight_follow_70 ?_
      exact x_top _ (by rw [hlo, if_pos (by rw [← hbo]; exact Int32.not_le.mp q63)]) J77
theorem s_follow {Po : Option Value → HS → Prop} {I : IT} {J : JT} {P : PT} {ln c : Nat} (hl : isLn ln) (hln : ln < 80) (hc5 : c ≤ 5) (hc : I ln 0 = nI c) (hq : ∀ I', FlOut I I' (lnD I ln) c → Po none (hp I' J P)) : xj yFlight_follow (mG yFlight_follow Po) 0 [some (.ref 83), some (.ref ln), none, none, none, none, none, none] [] (hp I J P) 0 0 := by
  refine x_iconst 0 (by decide) cFlight_follow_0 ?_
  refine x_istore_2 cFlight_follow_1 rfl (Nat.le_of_ble_eq_true rfl) ?_
  refine x_iconst 0 (by decide) cFlight_follow_2 ?_
  refine x_istore_3 cFlight_follow_3 rfl (Nat.le_of_ble_eq_true rfl) ?_
  refine x_iconst 0 (by decide) cFlight_follow_4 ?_
  refine x_istore_4 cFlight_follow_5 rfl (Nat.le_of_ble_eq_true rfl) ?_
  refine x_aload_0 cFlight_follow_7 ?_
  refine x_aload_1 cFlight_follow_8 ?_
  refine x_gI cFlight_follow_9 fFlight_18 hl.1 rfl ?_
  refine x_pI cFlight_follow_12 fFlight_24 rfl rfl ?_
  refine x_aload_0 cFlight_follow_15 ?_
  refine x_iconst 0 (by decide) cFlight_follow_16 ?_
  refine x_pI cFlight_follow_17 fFlight_25 rfl rfl ?_
  refine x_iconst 0 (by decide) cFlight_follow_20 ?_
  refine x_istore_5 cFlight_follow_21 rfl (Nat.le_of_ble_eq_true rfl) ?_
  refine s_follow_loop (I := I) hl hln hc5 hq c 0 (by omega) _ ?_ ?_ ?_ (fun j hj => absurd hj (Nat.not_lt_zero j)) _ _
  · intro a h1 h2 h3
    rw [u2_n h1, u2_n h1]
  · rw [u2_sn (by decide), u2_ss, hc]
  · rw [u2_ss]; rfl
