def wtI (x y : Int32) (g : Nat) : Int32 := (if nI (g / 2) = 1 then x else 10 - x) * (if nI (g % 2) = 1 then y else 10 - y)
def mgS (D : LD) (c : Nat) (x y : Int32) : Nat → Int32
  | 0 => 0
  | g + 1 => mgS D c x y g + (if fF (gD D (nI (g / 2)) (nI (g % 2))) c = 0 then wtI x y g else 0)
theorem mg_one {D : LD} {c : Nat} {a b p q : Int32} : (if fF (gD D a b) c = 0 then p * q else 0) = calI D c a b * p * q := by
  unfold calI
  split
  · rw [Int32.one_mul]
  · rw [Int32.zero_mul, Int32.zero_mul]
theorem mg_gu (D : LD) (c : Nat) (x y : Int32) : mgS D c x y 4 = guS D c x y := by
  show ((((0 : Int32) + (if fF (gD D 0 0) c = 0 then (10 - x) * (10 - y) else 0)) + (if fF (gD D 0 1) c = 0 then (10 - x) * y else 0)) + (if fF (gD D 1 0) c = 0 then x * (10 - y) else 0)) + (if fF (gD D 1 1) c = 0 then x * y else 0) = _
  rw [mg_one, mg_one, mg_one, mg_one, Int32.zero_add]
  rfl
theorem mn_bc {D : LD} {c : Nat} (hc5 : c ≤ 5) : mnE (fF D c) 5 = bcE (fF D c) := by
  have h : ∀ k, k ≤ c → ∃ m, m < 2 ^ k ∧ fF D k = nI m := by
    intro k
    induction k with
    | zero => intro _; exact ⟨0, by decide, rfl⟩
    | succ k ih =>
      intro hk
      obtain ⟨m, h1, h2⟩ := ih (by omega)
      have h3 : 2 ^ k < 2 ^ (k + 1) := Nat.pow_lt_pow_right (by decide) (by omega)
      show ∃ m, m < 2 ^ (k + 1) ∧ (if absI (fL D k - fB D k) ≤ dFo D then fF D k else fF D k ||| ((1 : Int32) <<< (nI k &&& 31))) = nI m
      split
      · exact ⟨m, by omega, h2⟩
      · have h4 : 2 ^ k ≤ 32 := Nat.le_trans (Nat.pow_le_pow_right (by decide) (show k ≤ 5 by omega)) (by decide)
        exact ⟨m ||| 2 ^ k, Nat.or_lt_two_pow (by omega) h3, by rw [h2]; exact (orO m (by omega) k (by omega)).1⟩
  obtain ⟨m, h1, h2⟩ := h c (Nat.le_refl c)
  have h4 : 2 ^ c ≤ 32 := Nat.le_trans (Nat.pow_le_pow_right (by decide) hc5) (by decide)
  rw [h2, mnE_n m (by omega), bcE_n m (by omega)]
/-- the trial page is the page but for its winds -/
theorem trl_leq {I I1 : IT} {c : Nat} {a b : Int32} {E : LD} (f : ∀ x, x ≠ 97 → I1 x = I x) (g : ∀ j, j < 13 → I1 97 j = I 96 j) (hE : E = (fun k => I 96 (3 + k), fun k => I 96 (8 + k), I 92, a, b, I 90 4, I 90 5)) (hc5 : c ≤ 5) : LEq (mdD (u2 (u2 I1 97 1 a) 97 2 b) 97 92) E c := by
  subst hE
  refine ⟨fun k hk => ⟨?_, ?_, ?_⟩, ?_, ?_, ?_, ?_⟩
  · show u2 (u2 I1 97 1 a) 97 2 b 97 (3 + k) = I 96 (3 + k)
    rw [u2_sn (by omega), u2_sn (by omega), g _ (by omega)]
  · show u2 (u2 I1 97 1 a) 97 2 b 97 (8 + k) = I 96 (8 + k)
    rw [u2_sn (by omega), u2_sn (by omega), g _ (by omega)]
  · show u2 (u2 I1 97 1 a) 97 2 b 92 k = I 92 k
    rw [u2_n (by decide), u2_n (by decide), f 92 (by decide)]
  · show u2 (u2 I1 97 1 a) 97 2 b 97 1 = a
    rw [u2_sn (by decide), u2_ss]
  · show u2 (u2 I1 97 1 a) 97 2 b 97 2 = b
    rw [u2_ss]
  · show u2 (u2 I1 97 1 a) 97 2 b 90 4 = I 90 4
    rw [u2_n (by decide), u2_n (by decide), f 90 (by decide)]
  · show u2 (u2 I1 97 1 a) 97 2 b 90 5 = I 90 5
    rw [u2_n (by decide), u2_n (by decide), f 90 (by decide)]
theorem trl_0 {I I1 : IT} {c : Nat} {a b : Int32} (g : ∀ j, j < 13 → I1 97 j = I 96 j) (hc : I 96 0 = nI c) : u2 (u2 I1 97 1 a) 97 2 b 97 0 = nI c := by
  rw [u2_sn (by decide), u2_sn (by decide), g 0 (by decide)]; exact hc
theorem trl_same {I I1 I3 : IT} {D : LD} {c : Nat} {a b : Int32} (f : ∀ x, x ≠ 97 → I1 x = I x) (hL : LyOut (u2 (u2 I1 97 1 a) 97 2 b) I3 D c) : SameM I I3 := ⟨fun x hx => by rw [hL.1 x (by omega) (by omega) (by omega) (by omega), u2_n (by omega), u2_n (by omega), f x (by omega)], fun j hj => by rw [hL.2.1 j (by omega), u2_n (by decide), u2_n (by decide), f 90 (by decide)]⟩
theorem s_gust_loop {Po : Option Value → HS → Prop} {I : IT} {J : JT} {P : PT} {c : Nat} {x y u : Int32} (hc : I 96 0 = nI c) (hc5 : c ≤ 5) (hG : ∀ g, g < 4 → Rg (gD (mdD I 96 92) (nI (g / 2)) (nI (g % 2))) c) (hab : ∃ a, a < 2 ^ 31 ∧ absI (guS (mdD I 96 92) c x y) = nI a) (hq : ∀ r I', SameM I I' → (∀ a, a < 2 ^ 31 → absI (guS (mdD I 96 92) c x y) = nI a → (¬ u = 0 → r = guS (mdD I 96 92) c x y / nI (Nat.gcd a 100)) ∧ (u = 0 → r = nI 100 / nI (Nat.gcd a 100))) → Po (some (.int r)) (hp I' J P)) : ∀ n g, g + n = 4 → ∀ I0, SameM I I0 → ∀ g6, isC2 g6 = false → xj yM_gusts (mG yM_gusts Po) 38 [some (.ref 90), some (.int x), some (.int y), some (.int u), some (.int (mgS (mdD I 96 92) c x y g)), some (.int (nI g)), g6] [] (hp I0 J P) 0 0 := by
  intro n
  induction n with
  | zero =>
    intro g hg I0 hS g6 _
    obtain rfl : g = 4 := by omega
    obtain ⟨a, ha, hxa⟩ := hab
    rw [mg_gu]
    refine x_iload_5 cM_gusts_38 ?_
    refine x_iconst 4 (by decide) cM_gusts_40 ?_
    refine x_icmp_ge cM_gusts_41 (fun q41 => ?_) (fun q41 => absurd q41 (fun z => z (by decide)))
    refine x_iload_4 cM_gusts_145 ?_
    refine x_bipush 100 (by decide) cM_gusts_147 ?_
    refine x_iload_3 cM_gusts_149 ?_
    refine x_s3 (ls0 := [some _, some _, some _, none]) cM_gusts_150 kM_194 okM_fraction ⟨(Nat.le_of_ble_eq_true rfl), (Nat.le_of_ble_eq_true rfl)⟩ (Nat.le_of_ble_eq_true rfl) rfl (Nat.le_of_ble_eq_true rfl) rfl rfl (Nat.zero_le _) (Nat.zero_le _) ?_
    refine s_mfraction (b := 100) hxa ha (by decide) (by decide) (fun hu => ?_) (fun hu => ?_)
    · dsimp only [pushR]
      refine x_ireturn cM_gusts_153 rfl rfl (Nat.zero_le _) (Nat.zero_le _) ?_
      refine hq _ I0 hS (fun a2 ha2 hxa2 => ?_)
      obtain rfl : a2 = a := (nI_eq ha2 ha).mp (hxa2.symm.trans hxa)
      exact ⟨fun _ => rfl, fun z => absurd z hu⟩
    · dsimp only [pushR]
      refine x_ireturn cM_gusts_153 rfl rfl (Nat.zero_le _) (Nat.zero_le _) ?_
      refine hq _ I0 hS (fun a2 ha2 hxa2 => ?_)
      obtain rfl : a2 = a := (nI_eq ha2 ha).mp (hxa2.symm.trans hxa)
      exact ⟨fun z => absurd hu z, fun _ => rfl⟩
  | succ n ih =>
    intro g hg I0 hS g6 hg6
    have hg4 : g < 4 := by omega
    have c1 : I0 96 0 = nI c := by rw [hS.1 96 (by omega)]; exact hc
    have eD : mdD I0 96 92 = mdD I 96 92 := hS.md
    refine x_iload_5 cM_gusts_38 ?_
    refine x_iconst 4 (by decide) cM_gusts_40 ?_
    refine x_icmp_ge cM_gusts_41 (fun q41 => absurd q41 (nI_ge hg4 (by decide))) (fun q41 => ?_)
    refine x_aload_0 cM_gusts_44 ?_
    refine x_v0 (ls0 := [some _, none]) cM_gusts_45 kM_168 okM_begin ⟨(Nat.le_of_ble_eq_true rfl), (Nat.le_of_ble_eq_true rfl)⟩ (Nat.le_of_ble_eq_true rfl) rfl (Nat.le_of_ble_eq_true rfl) rfl ⟨_, rfl, rfl⟩ rfl rfl (Nat.zero_le _) (Nat.zero_le _) ?_
    refine s_begin (fun I1 b1 b2 => ?_)
    dsimp only [pushR]
    refine x_aload_0 cM_gusts_48 ?_
    refine x_gR (b := 97) cM_gusts_49 fM_32 rfl rfl rfl ?_
    refine x_iconst 1 (by decide) cM_gusts_52 ?_
    refine x_dup2 rfl rfl cM_gusts_53 ?_
    refine x_al (1) cM_gusts_54 rfl rfl (by decide) (by decide) ?_
    rw [b2 1 (by decide)]
    refine x_iload_5 cM_gusts_55 ?_
    refine x_iconst 2 (by decide) cM_gusts_57 ?_
    refine x_idiv (by decide) cM_gusts_58 ?_
    refine x_top (nI (g / 2)) (pk_div (d := 2) (by omega) (by decide) (by decide)) ?_
    refine x_iadd cM_gusts_59 ?_
    refine x_as (1) cM_gusts_60 rfl rfl (by decide) (by decide) ?_
    refine x_aload_0 cM_gusts_61 ?_
    refine x_gR (b := 97) cM_gusts_62 fM_32 rfl rfl rfl ?_
    refine x_iconst 2 (by decide) cM_gusts_65 ?_
    refine x_dup2 rfl rfl cM_gusts_66 ?_
    refine x_al (2) cM_gusts_67 rfl rfl (by decide) (by decide) ?_
    rw [u2_sn (show 2 ≠ 1 by decide), b2 2 (by decide)]
    refine x_iload_5 cM_gusts_68 ?_
    refine x_iconst 2 (by decide) cM_gusts_70 ?_
    refine x_irem (by decide) cM_gusts_71 ?_
    refine x_top (nI (g % 2)) (pk_rem (d := 2) (by omega) (by decide) (by decide)) ?_
    refine x_iadd cM_gusts_72 ?_
    refine x_as (2) cM_gusts_73 rfl rfl (by decide) (by decide) ?_
    refine x_aload_0 cM_gusts_74 ?_
    refine x_aload_0 cM_gusts_75 ?_
    refine x_gR (b := 97) cM_gusts_76 fM_32 rfl rfl rfl ?_
    refine x_aload_0 cM_gusts_79 ?_
    refine x_gR (b := 92) cM_gusts_80 fM_17 rfl rfl rfl ?_
    refine x_v2 (ls0 := [some _, some _, some _, none, none, none, none, none]) cM_gusts_83 kM_120 okM_lay ⟨(Nat.le_of_ble_eq_true rfl), (Nat.le_of_ble_eq_true rfl)⟩ (Nat.le_of_ble_eq_true rfl) rfl (Nat.le_of_ble_eq_true rfl) rfl ⟨_, rfl, rfl⟩ rfl rfl (Nat.zero_le _) (Nat.zero_le _) ?_
    have hLE := trl_leq (c := c) b1 b2 (E := gD (mdD I0 96 92) (nI (g / 2)) (nI (g % 2))) rfl hc5
    refine s_lay (Or.inr rfl) (Or.inl rfl) hc5 (trl_0 b2 c1) (Rg.leq hLE (by rw [eD]; exact hG g hg4)) (fun I3 hL => ?_)
    have hS3 := trl_same b1 hL
    obtain ⟨-, -, -, l4⟩ := hLE.fl c (Nat.le_refl c)
    dsimp only [pushR]
    refine x_iload_5 cM_gusts_86 ?_
    refine x_iconst 2 (by decide) cM_gusts_88 ?_
    refine x_idiv (by decide) cM_gusts_89 ?_
    refine x_top (nI (g / 2)) (pk_div (d := 2) (by omega) (by decide) (by decide)) ?_
    refine x_iconst 1 (by decide) cM_gusts_90 ?_
    refine x_icmp_ne cM_gusts_91 (fun q91 => ?_) (fun q91 => ?_)
    · refine x_bipush 10 (by decide) cM_gusts_98 ?_
      refine x_iload_1 cM_gusts_100 ?_
      refine x_isub cM_gusts_101 ?_
      refine x_iload_5 cM_gusts_102 ?_
      refine x_iconst 2 (by decide) cM_gusts_104 ?_
      refine x_irem (by decide) cM_gusts_105 ?_
      refine x_top (nI (g % 2)) (pk_rem (d := 2) (by omega) (by decide) (by decide)) ?_
      refine x_iconst 1 (by decide) cM_gusts_106 ?_
      refine x_icmp_ne cM_gusts_107 (fun q107 => ?_) (fun q107 => ?_)
      · refine x_bipush 10 (by decide) cM_gusts_114 ?_
        refine x_iload_2 cM_gusts_116 ?_
        refine x_isub cM_gusts_117 ?_
        refine x_imul cM_gusts_118 ?_
        refine x_top (wtI x y g) (by
          unfold wtI
          first
            | rw [if_pos q91, if_pos q107]
            | rw [if_pos q91, if_neg q107]
            | rw [if_neg q91, if_pos q107]
            | rw [if_neg q91, if_neg q107]) ?_
        refine x_istore_6 cM_gusts_119 rfl (Nat.le_of_ble_eq_true rfl) ?_
        refine x_iload_4 cM_gusts_121 ?_
        refine x_aload_0 cM_gusts_123 ?_
        refine x_gI cM_gusts_124 fM_114 rfl rfl ?_
        refine x_top (fF (gD (mdD I 96 92) (nI (g / 2)) (nI (g % 2))) c) (hL.2.2.1.trans (l4.trans (by rw [eD]))) ?_
        refine x_if_ne cM_gusts_127 (fun q127 => ?_) (fun q127 => ?_)
        · refine x_iconst 0 (by decide) cM_gusts_135 ?_
          refine x_iadd cM_gusts_136 ?_
          refine x_top (mgS (mdD I 96 92) c x y (g + 1)) (by
            simp only [mgS]
            first
              | rw [if_pos (by simpa using q127)]
              | rw [if_neg q127]) ?_
          refine x_istore_4 cM_gusts_137 rfl (Nat.le_of_ble_eq_true rfl) ?_
          refine x_iinc_5 (nI (g + 1)) cM_gusts_139 rfl (nI_inc g) (Nat.le_of_ble_eq_true rfl) ?_
          refine x_goto cM_gusts_142 ?_
          exact ih (g + 1) (by omega) _ (hS.tr hS3) _ rfl
        · refine x_iload_6 cM_gusts_130 ?_
          refine x_goto cM_gusts_132 ?_
          refine x_iadd cM_gusts_136 ?_
          refine x_top (mgS (mdD I 96 92) c x y (g + 1)) (by
            simp only [mgS]
            first
              | rw [if_pos (by simpa using q127)]
              | rw [if_neg q127]) ?_
          refine x_istore_4 cM_gusts_137 rfl (Nat.le_of_ble_eq_true rfl) ?_
          refine x_iinc_5 (nI (g + 1)) cM_gusts_139 rfl (nI_inc g) (Nat.le_of_ble_eq_true rfl) ?_
          refine x_goto cM_gusts_142 ?_
          exact ih (g + 1) (by omega) _ (hS.tr hS3) _ rfl
      · refine x_iload_2 cM_gusts_110 ?_
        refine x_goto cM_gusts_111 ?_
        refine x_imul cM_gusts_118 ?_
        refine x_top (wtI x y g) (by
          unfold wtI
          first
            | rw [if_pos q91, if_pos q107]
            | rw [if_pos q91, if_neg q107]
            | rw [if_neg q91, if_pos q107]
            | rw [if_neg q91, if_neg q107]) ?_
        refine x_istore_6 cM_gusts_119 rfl (Nat.le_of_ble_eq_true rfl) ?_
        refine x_iload_4 cM_gusts_121 ?_
        refine x_aload_0 cM_gusts_123 ?_
        refine x_gI cM_gusts_124 fM_114 rfl rfl ?_
        refine x_top (fF (gD (mdD I 96 92) (nI (g / 2)) (nI (g % 2))) c) (hL.2.2.1.trans (l4.trans (by rw [eD]))) ?_
        refine x_if_ne cM_gusts_127 (fun q127 => ?_) (fun q127 => ?_)
        · refine x_iconst 0 (by decide) cM_gusts_135 ?_
          refine x_iadd cM_gusts_136 ?_
          refine x_top (mgS (mdD I 96 92) c x y (g + 1)) (by
            simp only [mgS]
            first
              | rw [if_pos (by simpa using q127)]
              | rw [if_neg q127]) ?_
          refine x_istore_4 cM_gusts_137 rfl (Nat.le_of_ble_eq_true rfl) ?_
          refine x_iinc_5 (nI (g + 1)) cM_gusts_139 rfl (nI_inc g) (Nat.le_of_ble_eq_true rfl) ?_
          refine x_goto cM_gusts_142 ?_
          exact ih (g + 1) (by omega) _ (hS.tr hS3) _ rfl
        · refine x_iload_6 cM_gusts_130 ?_
          refine x_goto cM_gusts_132 ?_
          refine x_iadd cM_gusts_136 ?_
          refine x_top (mgS (mdD I 96 92) c x y (g + 1)) (by
            simp only [mgS]
            first
              | rw [if_pos (by simpa using q127)]
              | rw [if_neg q127]) ?_
          refine x_istore_4 cM_gusts_137 rfl (Nat.le_of_ble_eq_true rfl) ?_
          refine x_iinc_5 (nI (g + 1)) cM_gusts_139 rfl (nI_inc g) (Nat.le_of_ble_eq_true rfl) ?_
          refine x_goto cM_gusts_142 ?_
          exact ih (g + 1) (by omega) _ (hS.tr hS3) _ rfl
    · refine x_iload_1 cM_gusts_94 ?_
      refine x_goto cM_gusts_95 ?_
      refine x_iload_5 cM_gusts_102 ?_
      refine x_iconst 2 (by decide) cM_gusts_104 ?_
      refine x_irem (by decide) cM_gusts_105 ?_
      refine x_top (nI (g % 2)) (pk_rem (d := 2) (by omega) (by decide) (by decide)) ?_
      refine x_iconst 1 (by decide) cM_gusts_106 ?_
      refine x_icmp_ne cM_gusts_107 (fun q107 => ?_) (fun q107 => ?_)
      · refine x_bipush 10 (by decide) cM_gusts_114 ?_
        refine x_iload_2 cM_gusts_116 ?_
        refine x_isub cM_gusts_117 ?_
        refine x_imul cM_gusts_118 ?_
        refine x_top (wtI x y g) (by
          unfold wtI
          first
            | rw [if_pos q91, if_pos q107]
            | rw [if_pos q91, if_neg q107]
            | rw [if_neg q91, if_pos q107]
            | rw [if_neg q91, if_neg q107]) ?_
        refine x_istore_6 cM_gusts_119 rfl (Nat.le_of_ble_eq_true rfl) ?_
        refine x_iload_4 cM_gusts_121 ?_
        refine x_aload_0 cM_gusts_123 ?_
        refine x_gI cM_gusts_124 fM_114 rfl rfl ?_
        refine x_top (fF (gD (mdD I 96 92) (nI (g / 2)) (nI (g % 2))) c) (hL.2.2.1.trans (l4.trans (by rw [eD]))) ?_
        refine x_if_ne cM_gusts_127 (fun q127 => ?_) (fun q127 => ?_)
        · refine x_iconst 0 (by decide) cM_gusts_135 ?_
          refine x_iadd cM_gusts_136 ?_
          refine x_top (mgS (mdD I 96 92) c x y (g + 1)) (by
            simp only [mgS]
            first
              | rw [if_pos (by simpa using q127)]
              | rw [if_neg q127]) ?_
          refine x_istore_4 cM_gusts_137 rfl (Nat.le_of_ble_eq_true rfl) ?_
          refine x_iinc_5 (nI (g + 1)) cM_gusts_139 rfl (nI_inc g) (Nat.le_of_ble_eq_true rfl) ?_
          refine x_goto cM_gusts_142 ?_
          exact ih (g + 1) (by omega) _ (hS.tr hS3) _ rfl
        · refine x_iload_6 cM_gusts_130 ?_
          refine x_goto cM_gusts_132 ?_
          refine x_iadd cM_gusts_136 ?_
          refine x_top (mgS (mdD I 96 92) c x y (g + 1)) (by
            simp only [mgS]
            first
              | rw [if_pos (by simpa using q127)]
              | rw [if_neg q127]) ?_
          refine x_istore_4 cM_gusts_137 rfl (Nat.le_of_ble_eq_true rfl) ?_
          refine x_iinc_5 (nI (g + 1)) cM_gusts_139 rfl (nI_inc g) (Nat.le_of_ble_eq_true rfl) ?_
          refine x_goto cM_gusts_142 ?_
          exact ih (g + 1) (by omega) _ (hS.tr hS3) _ rfl
      · refine x_iload_2 cM_gusts_110 ?_
        refine x_goto cM_gusts_111 ?_
        refine x_imul cM_gusts_118 ?_
        refine x_top (wtI x y g) (by
          unfold wtI
          first
            | rw [if_pos q91, if_pos q107]
            | rw [if_pos q91, if_neg q107]
            | rw [if_neg q91, if_pos q107]
            | rw [if_neg q91, if_neg q107]) ?_
        refine x_istore_6 cM_gusts_119 rfl (Nat.le_of_ble_eq_true rfl) ?_
        refine x_iload_4 cM_gusts_121 ?_
        refine x_aload_0 cM_gusts_123 ?_
        refine x_gI cM_gusts_124 fM_114 rfl rfl ?_
        refine x_top (fF (gD (mdD I 96 92) (nI (g / 2)) (nI (g % 2))) c) (hL.2.2.1.trans (l4.trans (by rw [eD]))) ?_
        refine x_if_ne cM_gusts_127 (fun q127 => ?_) (fun q127 => ?_)
        · refine x_iconst 0 (by decide) cM_gusts_135 ?_
          refine x_iadd cM_gusts_136 ?_
          refine x_top (mgS (mdD I 96 92) c x y (g + 1)) (by
            simp only [mgS]
            first
              | rw [if_pos (by simpa using q127)]
              | rw [if_neg q127]) ?_
          refine x_istore_4 cM_gusts_137 rfl (Nat.le_of_ble_eq_true rfl) ?_
          refine x_iinc_5 (nI (g + 1)) cM_gusts_139 rfl (nI_inc g) (Nat.le_of_ble_eq_true rfl) ?_
          refine x_goto cM_gusts_142 ?_
          exact ih (g + 1) (by omega) _ (hS.tr hS3) _ rfl
        · refine x_iload_6 cM_gusts_130 ?_
          refine x_goto cM_gusts_132 ?_
          refine x_iadd cM_gusts_136 ?_
          refine x_top (mgS (mdD I 96 92) c x y (g + 1)) (by
            simp only [mgS]
            first
              | rw [if_pos (by simpa using q127)]
              | rw [if_neg q127]) ?_
          refine x_istore_4 cM_gusts_137 rfl (Nat.le_of_ble_eq_true rfl) ?_
          refine x_iinc_5 (nI (g + 1)) cM_gusts_139 rfl (nI_inc g) (Nat.le_of_ble_eq_true rfl) ?_
          refine x_goto cM_gusts_142 ?_
          exact ih (g + 1) (by omega) _ (hS.tr hS3) _ rfl
theorem m_gusts {Po : Option Value → HS → Prop} {I : IT} {J : JT} {P : PT} {c : Nat} {x y u : Int32} (hc : I 96 0 = nI c) (hc5 : c ≤ 5) (hG : ∀ g, g < 4 → Rg (gD (mdD I 96 92) (nI (g / 2)) (nI (g % 2))) c) (hab : (0 ≤ x ∧ x ≤ 10) → (0 ≤ y ∧ y ≤ 10) → ∃ a, a < 2 ^ 31 ∧ absI (guS (mdD I 96 92) c x y) = nI a) (hq : ∀ (r : Int32) (I' : IT), (RGusts (mdD I 96 92) c x y u r ∧ SameM I I') → Po (some (.int r)) (hp I' J P)) : xj yM_gusts (mG yM_gusts Po) 0 [some (.ref 90), some (.int x), some (.int y), some (.int u), none, none, none] [] (hp I J P) 0 0 := by
  refine x_aload_0 cM_gusts_0 ?_
  refine x_iconst 0 (by decide) cM_gusts_1 ?_
  refine x_pI cM_gusts_2 fM_66 rfl rfl ?_
  refine x_iload_1 cM_gusts_5 ?_
  refine x_i2l cM_gusts_6 ?_
  refine x_lconst 0 (by decide) cM_gusts_7 ?_
  refine x_ldc2 cM_gusts_8 qM_242 ?_
  refine x_s3 (ls0 := [some _, none, some _, none, some _, none]) cM_gusts_11 kM_69 okM_in ⟨(Nat.le_of_ble_eq_true rfl), (Nat.le_of_ble_eq_true rfl)⟩ (Nat.le_of_ble_eq_true rfl) rfl (Nat.le_of_ble_eq_true rfl) rfl rfl (Nat.zero_le _) (Nat.zero_le _) ?_
  refine s_in (a := 0) (b := 10) (by decide) (by decide) (fun hx => ?_) (fun hx => ?_)
  · dsimp only [pushR]
    refine x_if_eq cM_gusts_14 (fun q => absurd q (by decide)) (fun _ => ?_)
    refine x_iload_2 cM_gusts_17 ?_
    refine x_i2l cM_gusts_18 ?_
    refine x_lconst 0 (by decide) cM_gusts_19 ?_
    refine x_ldc2 cM_gusts_20 qM_242 ?_
    refine x_s3 (ls0 := [some _, none, some _, none, some _, none]) cM_gusts_23 kM_69 okM_in ⟨(Nat.le_of_ble_eq_true rfl), (Nat.le_of_ble_eq_true rfl)⟩ (Nat.le_of_ble_eq_true rfl) rfl (Nat.le_of_ble_eq_true rfl) rfl rfl (Nat.zero_le _) (Nat.zero_le _) ?_
    refine s_in (a := 0) (b := 10) (by decide) (by decide) (fun hy => ?_) (fun hy => ?_)
    · dsimp only [pushR]
      refine x_if_ne cM_gusts_26 (fun _ => ?_) (fun q => absurd q (by decide))
      refine x_iconst 0 (by decide) cM_gusts_32 ?_
      refine x_istore_4 cM_gusts_33 rfl (Nat.le_of_ble_eq_true rfl) ?_
      refine x_iconst 0 (by decide) cM_gusts_35 ?_
      refine x_istore_5 cM_gusts_36 rfl (Nat.le_of_ble_eq_true rfl) ?_
      exact s_gust_loop (I := I) hc hc5 hG (hab hx hy) (fun r I' hS hr => hq r I' ⟨⟨fun z => absurd ⟨hx, hy⟩ z, fun _ => hr⟩, hS⟩) 4 0 (by decide) _ (SameM.th I) _ rfl
    · dsimp only [pushR]
      refine x_if_ne cM_gusts_26 (fun q => absurd rfl q) (fun _ => ?_)
      refine x_bipush (-2) (by decide) cM_gusts_29 ?_
      refine x_ireturn cM_gusts_31 rfl rfl (Nat.zero_le _) (Nat.zero_le _) ?_
      exact hq _ _ ⟨⟨fun _ => rfl, fun z => absurd z.2 hy⟩, SameM.th I⟩
  · dsimp only [pushR]
    refine x_if_eq cM_gusts_14 (fun _ => ?_) (fun q => absurd rfl q)
    refine x_bipush (-2) (by decide) cM_gusts_29 ?_
    refine x_ireturn cM_gusts_31 rfl rfl (Nat.zero_le _) (Nat.zero_le _) ?_
    exact hq _ _ ⟨⟨fun _ => rfl, fun z => absurd z.1 hx⟩, SameM.th I⟩
theorem m_seed {Po : Option Value → HS → Prop} {I : IT} {J : JT} {P : PT} {v : Int64} (hq : Po (some (.long (J 90))) (hp (u2 I 90 0 0) (uJ J 90 v) P)) : xj yM_seed (mG yM_seed Po) 0 [some (.ref 90), some (.long v), none, none, none] [] (hp I J P) 0 0 := by
  refine x_aload_0 cM_seed_0 ?_
  refine x_iconst 0 (by decide) cM_seed_1 ?_
  refine x_pI cM_seed_2 fM_66 rfl rfl ?_
  refine x_aload_0 cM_seed_5 ?_
  refine x_gJ cM_seed_6 fM_244 rfl rfl ?_
  refine x_lstore_3 cM_seed_9 rfl (Nat.le_of_ble_eq_true rfl) ?_
  refine x_aload_0 cM_seed_10 ?_
  refine x_lload_1 cM_seed_11 ?_
  refine x_pJ cM_seed_12 fM_244 rfl rfl lj_9 ?_
  refine x_lload_3 cM_seed_15 ?_
  refine x_lreturn cM_seed_16 rfl (Nat.zero_le _) (Nat.zero_le _) ?_
  exact hq
theorem s_maft_loop {Po : Option Value → HS → Prop} {I : IT} {J : JT} {P : PT} {c N : Nat} (hc : I 96 0 = nI c) (hc5 : c ≤ 5) (hN : N ≤ 30) (hG : ∀ s, Rg (adD (mdD I 96 92) s) c) (hq : ∀ I', SameM I I' → Po (some (.int (aftS (mdD I 96 92) c (J 90) N))) (hp I' (uJ J 90 (sdI (J 90) N)) P)) : ∀ n t, t + n = N → ∀ I0, SameM I I0 → ∀ g4, isC2 g4 = false → xj yM_afternoons (mG yM_afternoons Po) 24 [some (.ref 90), some (.int (nI N)), some (.int (aftS (mdD I 96 92) c (J 90) t)), some (.int (nI t)), g4] [] (hp I0 (uJ J 90 (sdI (J 90) t)) P) 0 0 := by
  intro n
  induction n with
  | zero =>
    intro t ht I0 hS g4 _
    obtain rfl : t = N := by omega
    refine x_iload_3 cM_afternoons_24 ?_
    refine x_iload_1 cM_afternoons_25 ?_
    refine x_icmp_ge cM_afternoons_26 (fun q26 => ?_) (fun q26 => absurd q26 (fun z => z (Int32.le_refl _)))
    refine x_iload_2 cM_afternoons_115 ?_
    refine x_ireturn cM_afternoons_116 rfl rfl (Nat.zero_le _) (Nat.zero_le _) ?_
    exact hq I0 hS
  | succ n ih =>
    intro t ht I0 hS g4 hg4
    have c1 : I0 96 0 = nI c := by rw [hS.1 96 (by omega)]; exact hc
    have eD : mdD I0 96 92 = mdD I 96 92 := hS.md
    refine x_iload_3 cM_afternoons_24 ?_
    refine x_iload_1 cM_afternoons_25 ?_
    refine x_icmp_ge cM_afternoons_26 (fun q26 => absurd q26 (nI_ge (show t < N by omega) (by omega))) (fun q26 => ?_)
    refine x_aload_0 cM_afternoons_29 ?_
    refine x_aload_0 cM_afternoons_30 ?_
    refine x_gJ cM_afternoons_31 fM_244 rfl rfl ?_
    rw [uJ_s]
    refine x_ldc2 cM_afternoons_34 qM_248 ?_
    refine x_lmul cM_afternoons_37 ?_
    refine x_ldc2 cM_afternoons_38 qM_250 ?_
    refine x_ladd cM_afternoons_41 ?_
    refine x_pJ cM_afternoons_42 fM_244 rfl rfl lj_9 ?_
    rw [uJ_uJ]
    refine x_aload_0 cM_afternoons_45 ?_
    refine x_gJ cM_afternoons_46 fM_244 rfl rfl ?_
    rw [uJ_s]
    refine x_bipush 33 (by decide) cM_afternoons_49 ?_
    refine x_lushr cM_afternoons_51 ?_
    refine x_ldc2 cM_afternoons_52 qM_252 ?_
    refine x_lrem (by decide) cM_afternoons_55 ?_
    refine x_l2i cM_afternoons_56 ?_
    refine x_top (drI (sdI (J 90) (t + 1))) rfl ?_
    refine x_istore_4 cM_afternoons_57 rfl (Nat.le_of_ble_eq_true rfl) ?_
    refine x_aload_0 cM_afternoons_59 ?_
    refine x_v0 (ls0 := [some _, none]) cM_afternoons_60 kM_168 okM_begin ⟨(Nat.le_of_ble_eq_true rfl), (Nat.le_of_ble_eq_true rfl)⟩ (Nat.le_of_ble_eq_true rfl) rfl (Nat.le_of_ble_eq_true rfl) rfl ⟨_, rfl, rfl⟩ rfl rfl (Nat.zero_le _) (Nat.zero_le _) ?_
    refine s_begin (fun I1 b1 b2 => ?_)
    dsimp only [pushR]
    refine x_aload_0 cM_afternoons_63 ?_
    refine x_gR (b := 97) cM_afternoons_64 fM_32 rfl rfl rfl ?_
    refine x_iconst 1 (by decide) cM_afternoons_67 ?_
    refine x_iload_4 cM_afternoons_68 ?_
    refine x_iconst 5 (by decide) cM_afternoons_70 ?_
    refine x_idiv (by decide) cM_afternoons_71 ?_
    refine x_iconst 2 (by decide) cM_afternoons_72 ?_
    refine x_isub cM_afternoons_73 ?_
    refine x_as (1) cM_afternoons_74 rfl rfl (by decide) (by decide) ?_
    refine x_aload_0 cM_afternoons_75 ?_
    refine x_gR (b := 97) cM_afternoons_76 fM_32 rfl rfl rfl ?_
    refine x_iconst 2 (by decide) cM_afternoons_79 ?_
    refine x_iload_4 cM_afternoons_80 ?_
    refine x_iconst 5 (by decide) cM_afternoons_82 ?_
    refine x_irem (by decide) cM_afternoons_83 ?_
    refine x_iconst 2 (by decide) cM_afternoons_84 ?_
    refine x_isub cM_afternoons_85 ?_
    refine x_as (2) cM_afternoons_86 rfl rfl (by decide) (by decide) ?_
    refine x_aload_0 cM_afternoons_87 ?_
    refine x_aload_0 cM_afternoons_88 ?_
    refine x_gR (b := 97) cM_afternoons_89 fM_32 rfl rfl rfl ?_
    refine x_aload_0 cM_afternoons_92 ?_
    refine x_gR (b := 92) cM_afternoons_93 fM_17 rfl rfl rfl ?_
    refine x_v2 (ls0 := [some _, some _, some _, none, none, none, none, none]) cM_afternoons_96 kM_120 okM_lay ⟨(Nat.le_of_ble_eq_true rfl), (Nat.le_of_ble_eq_true rfl)⟩ (Nat.le_of_ble_eq_true rfl) rfl (Nat.le_of_ble_eq_true rfl) rfl ⟨_, rfl, rfl⟩ rfl rfl (Nat.zero_le _) (Nat.zero_le _) ?_
    have hLE := trl_leq (c := c) b1 b2 (E := adD (mdD I0 96 92) (sdI (J 90) (t + 1))) rfl hc5
    refine s_lay (Or.inr rfl) (Or.inl rfl) hc5 (trl_0 b2 c1) (Rg.leq hLE (by rw [eD]; exact hG _)) (fun I3 hL => ?_)
    have hS3 := trl_same b1 hL
    obtain ⟨-, -, -, l4⟩ := hLE.fl c (Nat.le_refl c)
    dsimp only [pushR]
    refine x_iload_2 cM_afternoons_99 ?_
    refine x_aload_0 cM_afternoons_100 ?_
    refine x_gI cM_afternoons_101 fM_114 rfl rfl ?_
    refine x_s1 (ls0 := [some _, none, none]) cM_afternoons_104 kM_188 okM_many ⟨(Nat.le_of_ble_eq_true rfl), (Nat.le_of_ble_eq_true rfl)⟩ (Nat.le_of_ble_eq_true rfl) rfl (Nat.le_of_ble_eq_true rfl) rfl rfl (Nat.zero_le _) (Nat.zero_le _) ?_
    refine s_many ?_
    dsimp only [pushR]
    refine x_top (bcE (fF (adD (mdD I 96 92) (sdI (J 90) (t + 1))) c)) (by rw [hL.2.2.1, l4, eD]; exact mn_bc hc5) ?_
    refine x_iadd cM_afternoons_107 ?_
    refine x_top (aftS (mdD I 96 92) c (J 90) (t + 1)) rfl ?_
    refine x_istore_2 cM_afternoons_108 rfl (Nat.le_of_ble_eq_true rfl) ?_
    refine x_iinc_3 (nI (t + 1)) cM_afternoons_109 rfl (nI_inc t) (Nat.le_of_ble_eq_true rfl) ?_
    refine x_goto cM_afternoons_112 ?_
    exact ih (t + 1) (by omega) _ (hS.tr hS3) _ rfl
theorem m_afternoons {Po : Option Value → HS → Prop} {I : IT} {J : JT} {P : PT} {c : Nat} {m : Int32} (hc : I 96 0 = nI c) (hc5 : c ≤ 5) (hG : ∀ s, Rg (adD (mdD I 96 92) s) c) (hq : ∀ r I' J', RAft (mdD I 96 92) c J J' 90 m r → SameM I I' → Po (some (.int r)) (hp I' J' P)) : xj yM_afternoons (mG yM_afternoons Po) 0 [some (.ref 90), some (.int m), none, none, none] [] (hp I J P) 0 0 := by
  refine x_aload_0 cM_afternoons_0 ?_
  refine x_iconst 0 (by decide) cM_afternoons_1 ?_
  refine x_pI cM_afternoons_2 fM_66 rfl rfl ?_
  refine x_iload_1 cM_afternoons_5 ?_
  refine x_i2l cM_afternoons_6 ?_
  refine x_lconst 1 (by decide) cM_afternoons_7 ?_
  refine x_ldc2 cM_afternoons_8 qM_142 ?_
  refine x_s3 (ls0 := [some _, none, some _, none, some _, none]) cM_afternoons_11 kM_69 okM_in ⟨(Nat.le_of_ble_eq_true rfl), (Nat.le_of_ble_eq_true rfl)⟩ (Nat.le_of_ble_eq_true rfl) rfl (Nat.le_of_ble_eq_true rfl) rfl rfl (Nat.zero_le _) (Nat.zero_le _) ?_
  refine s_in (a := 1) (b := 30) (by decide) (by decide) (fun hm => ?_) (fun hm => ?_)
  · dsimp only [pushR]
    refine x_if_ne cM_afternoons_14 (fun _ => ?_) (fun q => absurd q (by decide))
    refine x_iconst 0 (by decide) cM_afternoons_20 ?_
    refine x_istore_2 cM_afternoons_21 rfl (Nat.le_of_ble_eq_true rfl) ?_
    refine x_iconst 0 (by decide) cM_afternoons_22 ?_
    refine x_istore_3 cM_afternoons_23 rfl (Nat.le_of_ble_eq_true rfl) ?_
    obtain ⟨N, hN, eN⟩ := nI_of2 (M := 30) (n := 30) (x := m) (by decide) (fun z => absurd (Int32.lt_of_lt_of_le z (show (0 : Int32) ≤ 1 by decide)) (Int32.not_lt.mpr hm.1)) hm.2
    subst eN
    have hJ : uJ J 90 (sdI (J 90) 0) = J := uJ_self J 90
    refine Eq.mp (congrArg (fun z => xj yM_afternoons (mG yM_afternoons Po) 24 _ [] (hp (u2 I 90 0 0) z P) 0 0) hJ) ?_
    exact s_maft_loop (I := I) hc hc5 hN hG (fun I' hS => hq _ _ _ ⟨fun z => absurd hm z, fun N2 h1 h2 e2 => by
      obtain rfl : N2 = N := (nI_eq (by omega) (by omega)).mp e2.symm
      exact ⟨rfl, rfl⟩⟩ hS) N 0 (by omega) _ (SameM.th I) _ rfl
  · dsimp only [pushR]
    refine x_if_ne cM_afternoons_14 (fun q => absurd rfl q) (fun _ => ?_)
    refine x_bipush (-2) (by decide) cM_afternoons_17 ?_
    refine x_ireturn cM_afternoons_19 rfl rfl (Nat.zero_le _) (Nat.zero_le _) ?_
    exact hq _ _ _ ⟨fun _ => ⟨rfl, rfl⟩, fun N h1 h2 e => absurd (by subst e; exact ⟨nI_le (a := 1) h1 (by omega), nI_le (b := 30) h2 (by decide)⟩) hm⟩ (SameM.th I)
