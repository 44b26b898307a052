def Wd (N W : Nat) : Prop := (1 ≤ N ∧ N ≤ 6) ∧ W < 10 ^ N ∧ ∀ i, i < N → W / 10 ^ i % 10 < 4
theorem Wd.lt {N W : Nat} (h : Wd N W) : W < 10 ^ 6 := Nat.lt_of_lt_of_le h.2.1 (Nat.pow_le_pow_right (by decide) h.1.2)
def IsW (n w : Int32) (N W : Nat) : Prop := n = nI N ∧ w = nI W ∧ Wd N W
theorem IsW.one {n w : Int32} {N W M V : Nat} (h : IsW n w N W) (g : IsW n w M V) : N = M ∧ W = V := by
  have h1 := h.2.2.lt
  have h2 := g.2.2.lt
  have h3 := h.2.2.1.2
  have h4 := g.2.2.1.2
  exact ⟨(nI_eq (by omega) (by omega)).mp (h.1.symm.trans g.1), (nI_eq (by omega) (by omega)).mp (h.2.1.symm.trans g.2.1)⟩
theorem dv10 (W k : Nat) : W / 10 ^ k / 10 = W / 10 ^ (k + 1) := by rw [Nat.div_div_eq_div_mul, Nat.pow_succ]
theorem dvlt (W k : Nat) : W / 10 ^ k ≤ W := Nat.div_le_self _ _
theorem pw6 {k : Nat} (h : k ≤ 6) : 10 ^ k ≤ 1000000 := Nat.le_trans (Nat.pow_le_pow_right (by decide) h) (by decide)
theorem s_isWord_loop {Po : Option Value → HS → Prop} {h : HS} {N W : Nat} (hN : 1 ≤ N ∧ N ≤ 6) (hW : W < 2 ^ 31) (h1 : Wd N W → Po (some (.int 1)) h) (h0 : ¬ Wd N W → Po (some (.int 0)) h) : ∀ n k, k + n = N → (∀ i, i < k → W / 10 ^ i % 10 < 4) → xj yK_isWord (mG yK_isWord Po) 21 [some (.int (nI N)), some (.int (nI W)), some (.int (nI (W / 10 ^ k))), some (.int (nI k))] [] h 0 0 := by
  intro n
  induction n with
  | zero =>
    intro k hk ha
    obtain rfl : k = N := by omega
    have hle := dvlt W k
    refine x_iload_3 cK_isWord_21 ?_
    refine x_iload_0 cK_isWord_22 ?_
    refine x_icmp_ge cK_isWord_23 (fun q23 => ?_) (fun q23 => absurd q23 (fun z => z (Int32.le_refl _)))
    refine x_iload_2 cK_isWord_47 ?_
    refine x_if_ne cK_isWord_48 (fun q48 => ?_) (fun q48 => ?_)
    · have hz : ¬ W < 10 ^ k := fun z => q48 (by rw [Nat.div_eq_of_lt z]; rfl)
      refine x_iconst 0 (by decide) cK_isWord_55 ?_
      refine x_ireturn cK_isWord_56 rfl rfl (Nat.zero_le _) (Nat.zero_le _) ?_
      exact h0 (fun z => hz z.2.1)
    · have hz : W < 10 ^ k := by
        have e : W / 10 ^ k = 0 := (nI_eq (by omega) (by decide)).mp q48
        rcases Nat.lt_or_ge W (10 ^ k) with z | z
        · exact z
        · exact absurd ((Nat.le_div_iff_mul_le (Nat.pow_pos (by decide))).mpr (by omega : 1 * 10 ^ k ≤ W)) (by omega)
      refine x_iconst 1 (by decide) cK_isWord_51 ?_
      refine x_goto cK_isWord_52 ?_
      refine x_ireturn cK_isWord_56 rfl rfl (Nat.zero_le _) (Nat.zero_le _) ?_
      exact h1 ⟨hN, hz, ha⟩
  | succ n ih =>
    intro k hk ha
    have hle := dvlt W k
    refine x_iload_3 cK_isWord_21 ?_
    refine x_iload_0 cK_isWord_22 ?_
    refine x_icmp_ge cK_isWord_23 (fun q23 => absurd q23 (nI_ge (show k < N by omega) (by omega))) (fun q23 => ?_)
    refine x_iload_2 cK_isWord_26 ?_
    refine x_bipush 10 (by decide) cK_isWord_27 ?_
    refine x_irem (by decide) cK_isWord_29 ?_
    refine x_top (nI (W / 10 ^ k % 10)) (pk_rem (d := 10) (by omega) (by decide) (by decide)) ?_
    refine x_iconst 4 (by decide) cK_isWord_30 ?_
    refine x_icmp_lt cK_isWord_31 (fun q31 => ?_) (fun q31 => ?_)
    · have hd : W / 10 ^ k % 10 < 4 := (nI_ltI (by omega) (by decide)).mp q31
      refine x_iload_2 cK_isWord_36 ?_
      refine x_bipush 10 (by decide) cK_isWord_37 ?_
      refine x_idiv (by decide) cK_isWord_39 ?_
      refine x_top (nI (W / 10 ^ (k + 1))) (by rw [← dv10]; exact pk_div (d := 10) (by omega) (by decide) (by decide)) ?_
      refine x_istore_2 cK_isWord_40 rfl (Nat.le_of_ble_eq_true rfl) ?_
      refine x_iinc_3 (nI (k + 1)) cK_isWord_41 rfl (nI_inc k) (Nat.le_of_ble_eq_true rfl) ?_
      refine x_goto cK_isWord_44 ?_
      exact ih (k + 1) (by omega) (fun i hi => by
        by_cases e : i = k
        · subst e; exact hd
        · exact ha i (by omega))
    · have hd : ¬ W / 10 ^ k % 10 < 4 := fun z => q31 (nI_lt z (by decide))
      refine x_iconst 0 (by decide) cK_isWord_34 ?_
      refine x_ireturn cK_isWord_35 rfl rfl (Nat.zero_le _) (Nat.zero_le _) ?_
      exact h0 (fun z => hd (z.2.2 k (by omega)))
theorem s_isWord {Po : Option Value → HS → Prop} {h : HS} {n w : Int32} (h1 : ∀ N W, IsW n w N W → Po (some (.int 1)) h) (h0 : (∀ N W, ¬ IsW n w N W) → Po (some (.int 0)) h) : xj yK_isWord (mG yK_isWord Po) 0 [some (.int n), some (.int w), none, none] [] h 0 0 := by
  refine x_iload_0 cK_isWord_0 ?_
  refine x_iconst 1 (by decide) cK_isWord_1 ?_
  refine x_icmp_lt cK_isWord_2 (fun q2 => ?_) (fun q2 => ?_)
  · refine x_iconst 0 (by decide) cK_isWord_15 ?_
    refine x_ireturn cK_isWord_16 rfl rfl (Nat.zero_le _) (Nat.zero_le _) ?_
    exact h0 (fun N W z => absurd q2 (by rw [z.1]; exact nI_nlt (b := 1) z.2.2.1.1 (by have := z.2.2.1.2; omega)))
  · refine x_iload_0 cK_isWord_5 ?_
    refine x_bipush 6 (by decide) cK_isWord_6 ?_
    refine x_icmp_gt cK_isWord_8 (fun q8 => ?_) (fun q8 => ?_)
    · refine x_iconst 0 (by decide) cK_isWord_15 ?_
      refine x_ireturn cK_isWord_16 rfl rfl (Nat.zero_le _) (Nat.zero_le _) ?_
      exact h0 (fun N W z => absurd q8 (by rw [z.1]; exact nI_nlt (a := 6) z.2.2.1.2 (by decide)))
    · refine x_iload_1 cK_isWord_11 ?_
      refine x_if_ge cK_isWord_12 (fun q12 => ?_) (fun q12 => ?_)
      · refine x_iload_1 cK_isWord_17 ?_
        refine x_istore_2 cK_isWord_18 rfl (Nat.le_of_ble_eq_true rfl) ?_
        refine x_iconst 0 (by decide) cK_isWord_19 ?_
        refine x_istore_3 cK_isWord_20 rfl (Nat.le_of_ble_eq_true rfl) ?_
        obtain ⟨N, hN, eN⟩ : ∃ N, N < 7 ∧ n = nI N := ix_of (c := 7) (fun z => absurd (Int32.lt_of_lt_of_le z (by decide : (0 : Int32) ≤ 1)) q2) (fun z => absurd (Int32.le_trans z (lts_of q8)) (by decide)) (by decide)
        obtain ⟨W, hW, eW⟩ : ∃ W : Nat, W < 2 ^ 31 ∧ w = nI W := nI_of (fun z => absurd q12 (nle_of z))
        subst eN; subst eW
        have hN1 : 1 ≤ N := by
          rcases Nat.eq_zero_or_pos N with e | e
          · subst e; exact absurd (by decide) q2
          · exact e
        have e0 : nI W = nI (W / 10 ^ 0) := by rw [Nat.pow_zero, Nat.div_one]
        have := s_isWord_loop (Po := Po) (h := h) (N := N) (W := W) ⟨hN1, by omega⟩ hW (fun z => h1 N W ⟨rfl, rfl, z⟩) (fun z => h0 (fun M V g => z (by
          have h3 := g.2.2.lt
          have h4 := g.2.2.1.2
          obtain rfl : N = M := (nI_eq (by omega) (by omega)).mp g.1
          obtain rfl : W = V := (nI_eq (by omega) (by omega)).mp g.2.1
          exact g.2.2))) N 0 (by omega) (fun i hi => absurd hi (Nat.not_lt_zero i))
        rw [← e0] at this
        exact this
      · refine x_iconst 0 (by decide) cK_isWord_15 ?_
        refine x_ireturn cK_isWord_16 rfl rfl (Nat.zero_le _) (Nat.zero_le _) ?_
        exact h0 (fun N W z => absurd (by rw [z.2.1]; exact nI_pos' (by have := z.2.2.lt; omega)) q12)
def shA (W : Nat) (mo : Int32) : Nat → Int32
  | 0 => 0
  | k + 1 => shA W mo k + nI (10 ^ k) * fmod (nI (W / 10 ^ k % 10) + mo) 4
theorem s_shifted_loop {Po : Option Value → HS → Prop} {h : HS} {N W : Nat} {mo : Int32} (hN : N ≤ 6) (hW : W < 2 ^ 31) (hq : Po (some (.int (shA W mo N))) h) : ∀ n k, k + n = N → xj yK_shifted (mG yK_shifted Po) 11 [some (.int (nI N)), some (.int (nI W)), some (.int mo), some (.int (nI (W / 10 ^ k))), some (.int (shA W mo k)), some (.int (nI (10 ^ k))), some (.int (nI k))] [] h 0 0 := by
  intro n
  induction n with
  | zero =>
    intro k hk
    obtain rfl : k = N := by omega
    refine x_iload_6 cK_shifted_11 ?_
    refine x_iload_0 cK_shifted_13 ?_
    refine x_icmp_ge cK_shifted_14 (fun q14 => ?_) (fun q14 => absurd q14 (fun z => z (Int32.le_refl _)))
    refine x_iload_4 cK_shifted_53 ?_
    refine x_ireturn cK_shifted_55 rfl rfl (Nat.zero_le _) (Nat.zero_le _) ?_
    exact hq
  | succ n ih =>
    intro k hk
    have hle := dvlt W k
    refine x_iload_6 cK_shifted_11 ?_
    refine x_iload_0 cK_shifted_13 ?_
    refine x_icmp_ge cK_shifted_14 (fun q14 => absurd q14 (nI_ge (show k < N by omega) (by omega))) (fun q14 => ?_)
    refine x_iload_4 cK_shifted_17 ?_
    refine x_iload_5 cK_shifted_19 ?_
    refine x_iload_3 cK_shifted_21 ?_
    refine x_bipush 10 (by decide) cK_shifted_22 ?_
    refine x_irem (by decide) cK_shifted_24 ?_
    refine x_top (nI (W / 10 ^ k % 10)) (pk_rem (d := 10) (by omega) (by decide) (by decide)) ?_
    refine x_iload_2 cK_shifted_25 ?_
    refine x_iadd cK_shifted_26 ?_
    refine x_iconst 4 (by decide) cK_shifted_27 ?_
    refine x_s2 (ls0 := [some _, some _, none]) cK_shifted_28 kK_314 okMath_floorMod ⟨(Nat.le_of_ble_eq_true rfl), (Nat.le_of_ble_eq_true rfl)⟩ (Nat.le_of_ble_eq_true rfl) rfl (Nat.le_of_ble_eq_true rfl) rfl rfl (Nat.zero_le _) (Nat.zero_le _) ?_
    refine s_floorMod (by decide) ?_
    dsimp only [pushR]
    refine x_imul cK_shifted_31 ?_
    refine x_iadd cK_shifted_32 ?_
    refine x_top (shA W mo (k + 1)) rfl ?_
    refine x_istore_4 cK_shifted_33 rfl (Nat.le_of_ble_eq_true rfl) ?_
    refine x_iload_3 cK_shifted_35 ?_
    refine x_bipush 10 (by decide) cK_shifted_36 ?_
    refine x_idiv (by decide) cK_shifted_38 ?_
    refine x_top (nI (W / 10 ^ (k + 1))) (by rw [← dv10]; exact pk_div (d := 10) (by omega) (by decide) (by decide)) ?_
    refine x_istore_3 cK_shifted_39 rfl (Nat.le_of_ble_eq_true rfl) ?_
    refine x_iload_5 cK_shifted_40 ?_
    refine x_bipush 10 (by decide) cK_shifted_42 ?_
    refine x_imul cK_shifted_44 ?_
    refine x_top (nI (10 ^ (k + 1))) (by rw [Nat.pow_succ]; exact pk_mul (10 ^ k) 10) ?_
    refine x_istore_5 cK_shifted_45 rfl (Nat.le_of_ble_eq_true rfl) ?_
    refine x_iinc_6 (nI (k + 1)) cK_shifted_47 rfl (nI_inc k) (Nat.le_of_ble_eq_true rfl) ?_
    refine x_goto cK_shifted_50 ?_
    exact ih (k + 1) (by omega)
theorem s_shifted {Po : Option Value → HS → Prop} {h : HS} {N W : Nat} {mo : Int32} (hN : N ≤ 6) (hW : W < 2 ^ 31) (hq : Po (some (.int (shA W mo N))) h) : xj yK_shifted (mG yK_shifted Po) 0 [some (.int (nI N)), some (.int (nI W)), some (.int mo), none, none, none, none] [] h 0 0 := by
  refine x_iload_1 cK_shifted_0 ?_
  refine x_istore_3 cK_shifted_1 rfl (Nat.le_of_ble_eq_true rfl) ?_
  refine x_iconst 0 (by decide) cK_shifted_2 ?_
  refine x_istore_4 cK_shifted_3 rfl (Nat.le_of_ble_eq_true rfl) ?_
  refine x_iconst 1 (by decide) cK_shifted_5 ?_
  refine x_istore_5 cK_shifted_6 rfl (Nat.le_of_ble_eq_true rfl) ?_
  refine x_iconst 0 (by decide) cK_shifted_8 ?_
  refine x_istore_6 cK_shifted_9 rfl (Nat.le_of_ble_eq_true rfl) ?_
  have e0 : nI W = nI (W / 10 ^ 0) := by rw [Nat.pow_zero, Nat.div_one]
  have := s_shifted_loop (Po := Po) (h := h) (mo := mo) hN hW hq N 0 (by omega)
  rw [← e0] at this
  exact this
def bsum (D : LD) (c : Nat) : Int32 := sumI (fun j => dB D j + 2) c
def RArr (W0 : Nat → Nat → Int32) (n w r : Int32) : Prop := (∀ N W, IsW n w N W → r = W0 N W) ∧ ((∀ N W, ¬ IsW n w N W) → r = -2)
theorem k_arrives {Po : Option Value → HS → Prop} {I : IT} {J : JT} {P : PT} {c : Nat} {n w : Int32} (hc : I 4 0 = nI c) (hc5 : c ≤ 5) (hq : ∀ (r : Int32) (I' : IT), RArr (fun N W => shA W (bsum (lnD I 4) c) N) n w r ∧ I' = I → Po (some (.int r)) (hp I' J P)) : xj yK_arrives (mG yK_arrives Po) 0 [some (.ref 1), some (.int n), some (.int w)] [] (hp I J P) 0 0 := by
  refine x_iload_1 cK_arrives_0 ?_
  refine x_iload_2 cK_arrives_1 ?_
  refine x_s2 (ls0 := [some _, some _, none, none]) cK_arrives_2 kK_208 okK_isWord ⟨(Nat.le_of_ble_eq_true rfl), (Nat.le_of_ble_eq_true rfl)⟩ (Nat.le_of_ble_eq_true rfl) rfl (Nat.le_of_ble_eq_true rfl) rfl rfl (Nat.zero_le _) (Nat.zero_le _) ?_
  refine s_isWord (fun N W hW => ?_) (fun hno => ?_)
  · dsimp only [pushR]
    have hlt := hW.2.2.lt
    have h6 := hW.2.2.1.2
    obtain ⟨rfl, rfl, hWd⟩ := hW
    refine x_if_eq cK_arrives_5 (fun q => absurd q (by decide)) (fun _ => ?_)
    refine x_iload_1 cK_arrives_8 ?_
    refine x_iload_2 cK_arrives_9 ?_
    refine x_aload_0 cK_arrives_10 ?_
    refine x_gR (b := 4) cK_arrives_11 fK_19 rfl rfl rfl ?_
    refine x_v0 (ls0 := [some _, none, none]) cK_arrives_14 kK_211 okLine_tugsMore ⟨(Nat.le_of_ble_eq_true rfl), (Nat.le_of_ble_eq_true rfl)⟩ (Nat.le_of_ble_eq_true rfl) rfl (Nat.le_of_ble_eq_true rfl) rfl ⟨_, rfl, rfl⟩ rfl rfl (Nat.zero_le _) (Nat.zero_le _) ?_
    refine s_tugsMore ln_4 hc hc5 ?_
    dsimp only [pushR]
    refine x_s3 (ls0 := [some _, some _, some _, none, none, none, none]) cK_arrives_17 kK_214 okK_shifted ⟨(Nat.le_of_ble_eq_true rfl), (Nat.le_of_ble_eq_true rfl)⟩ (Nat.le_of_ble_eq_true rfl) rfl (Nat.le_of_ble_eq_true rfl) rfl rfl (Nat.zero_le _) (Nat.zero_le _) ?_
    refine s_shifted (mo := (bsum (lnD I 4) c)) h6 (by omega) ?_
    dsimp only [pushR]
    refine x_goto cK_arrives_20 ?_
    refine x_ireturn cK_arrives_25 rfl rfl (Nat.zero_le _) (Nat.zero_le _) ?_
    refine hq _ _ ⟨⟨fun M V g => ?_, fun z => absurd ⟨rfl, rfl, hWd⟩ (z N W)⟩, rfl⟩
    obtain ⟨rfl, rfl⟩ := IsW.one (N := N) (W := W) ⟨rfl, rfl, hWd⟩ g
    rfl
  · dsimp only [pushR]
    refine x_if_eq cK_arrives_5 (fun _ => ?_) (fun q => absurd rfl q)
    refine x_bipush (-2) (by decide) cK_arrives_23 ?_
    refine x_ireturn cK_arrives_25 rfl rfl (Nat.zero_le _) (Nat.zero_le _) ?_
    exact hq _ _ ⟨⟨fun N W z => absurd z (hno N W), fun _ => rfl⟩, rfl⟩
theorem k_sent {Po : Option Value → HS → Prop} {I : IT} {J : JT} {P : PT} {c : Nat} {n w : Int32} (hc : I 4 0 = nI c) (hc5 : c ≤ 5) (hq : ∀ (r : Int32) (I' : IT), RArr (fun N W => shA W (-bsum (lnD I 4) c) N) n w r ∧ I' = I → Po (some (.int r)) (hp I' J P)) : xj yK_sent (mG yK_sent Po) 0 [some (.ref 1), some (.int n), some (.int w)] [] (hp I J P) 0 0 := by
  refine x_iload_1 cK_sent_0 ?_
  refine x_iload_2 cK_sent_1 ?_
  refine x_s2 (ls0 := [some _, some _, none, none]) cK_sent_2 kK_208 okK_isWord ⟨(Nat.le_of_ble_eq_true rfl), (Nat.le_of_ble_eq_true rfl)⟩ (Nat.le_of_ble_eq_true rfl) rfl (Nat.le_of_ble_eq_true rfl) rfl rfl (Nat.zero_le _) (Nat.zero_le _) ?_
  refine s_isWord (fun N W hW => ?_) (fun hno => ?_)
  · dsimp only [pushR]
    have hlt := hW.2.2.lt
    have h6 := hW.2.2.1.2
    obtain ⟨rfl, rfl, hWd⟩ := hW
    refine x_if_eq cK_sent_5 (fun q => absurd q (by decide)) (fun _ => ?_)
    refine x_iload_1 cK_sent_8 ?_
    refine x_iload_2 cK_sent_9 ?_
    refine x_aload_0 cK_sent_10 ?_
    refine x_gR (b := 4) cK_sent_11 fK_19 rfl rfl rfl ?_
    refine x_v0 (ls0 := [some _, none, none]) cK_sent_14 kK_211 okLine_tugsMore ⟨(Nat.le_of_ble_eq_true rfl), (Nat.le_of_ble_eq_true rfl)⟩ (Nat.le_of_ble_eq_true rfl) rfl (Nat.le_of_ble_eq_true rfl) rfl ⟨_, rfl, rfl⟩ rfl rfl (Nat.zero_le _) (Nat.zero_le _) ?_
    refine s_tugsMore ln_4 hc hc5 ?_
    dsimp only [pushR]
    refine x_ineg cK_sent_17 ?_
    refine x_s3 (ls0 := [some _, some _, some _, none, none, none, none]) cK_sent_18 kK_214 okK_shifted ⟨(Nat.le_of_ble_eq_true rfl), (Nat.le_of_ble_eq_true rfl)⟩ (Nat.le_of_ble_eq_true rfl) rfl (Nat.le_of_ble_eq_true rfl) rfl rfl (Nat.zero_le _) (Nat.zero_le _) ?_
    refine s_shifted (mo := (-bsum (lnD I 4) c)) h6 (by omega) ?_
    dsimp only [pushR]
    refine x_goto cK_sent_21 ?_
    refine x_ireturn cK_sent_26 rfl rfl (Nat.zero_le _) (Nat.zero_le _) ?_
    refine hq _ _ ⟨⟨fun M V g => ?_, fun z => absurd ⟨rfl, rfl, hWd⟩ (z N W)⟩, rfl⟩
    obtain ⟨rfl, rfl⟩ := IsW.one (N := N) (W := W) ⟨rfl, rfl, hWd⟩ g
    rfl
  · dsimp only [pushR]
    refine x_if_eq cK_sent_5 (fun _ => ?_) (fun q => absurd rfl q)
    refine x_bipush (-2) (by decide) cK_sent_24 ?_
    refine x_ireturn cK_sent_26 rfl rfl (Nat.zero_le _) (Nat.zero_le _) ?_
    exact hq _ _ ⟨⟨fun N W z => absurd z (hno N W), fun _ => rfl⟩, rfl⟩
def dfI (W V k : Nat) : Int32 := fmod (nI (W / 10 ^ k % 10) - nI (V / 10 ^ k % 10)) 4
def apI (W V : Nat) : Nat → Int32
  | 0 => 0
  | k + 1 => if dfI W V k = 0 then apI W V k else apI W V k + 1
def frI (W V : Nat) : Nat → Int32
  | 0 => 0
  | k + 1 => if dfI W V k = 2 then frI W V k + 1 else frI W V k
def Meet (W V N : Nat) : Prop := apI W V N ≤ 1 ∨ (apI W V N = 2 ∧ frI W V N = 0)
theorem s_meet_loop {Po : Option Value → HS → Prop} {h : HS} {N W V : Nat} (hN : N ≤ 6) (hW : W < 2 ^ 31) (hV : V < 2 ^ 31) (h1 : Meet W V N → Po (some (.int 1)) h) (h0 : ¬ Meet W V N → Po (some (.int 0)) h) : ∀ n k, k + n = N → ∀ g8, xj yK_meetBySlips (mG yK_meetBySlips Po) 14 [some (.int (nI N)), some (.int (nI W)), some (.int (nI V)), some (.int (apI W V k)), some (.int (frI W V k)), some (.int (nI (W / 10 ^ k))), some (.int (nI (V / 10 ^ k))), some (.int (nI k)), g8] [] h 0 0 := by
  intro n
  induction n with
  | zero =>
    intro k hk g8
    obtain rfl : k = N := by omega
    refine x_iload_7 cK_meetBySlips_14 ?_
    refine x_iload_0 cK_meetBySlips_16 ?_
    refine x_icmp_ge cK_meetBySlips_17 (fun q17 => ?_) (fun q17 => absurd q17 (fun z => z (Int32.le_refl _)))
    refine x_iload_3 cK_meetBySlips_74 ?_
    refine x_iconst 1 (by decide) cK_meetBySlips_75 ?_
    refine x_icmp_le cK_meetBySlips_76 (fun q76 => ?_) (fun q76 => ?_)
    · refine x_iconst 1 (by decide) cK_meetBySlips_89 ?_
      refine x_goto cK_meetBySlips_90 ?_
      refine x_ireturn cK_meetBySlips_94 rfl rfl (Nat.zero_le _) (Nat.zero_le _) ?_
      exact h1 (Or.inl q76)
    · refine x_iload_3 cK_meetBySlips_79 ?_
      refine x_iconst 2 (by decide) cK_meetBySlips_80 ?_
      refine x_icmp_ne cK_meetBySlips_81 (fun q81 => ?_) (fun q81 => ?_)
      · refine x_iconst 0 (by decide) cK_meetBySlips_93 ?_
        refine x_ireturn cK_meetBySlips_94 rfl rfl (Nat.zero_le _) (Nat.zero_le _) ?_
        exact h0 (fun z => z.elim q76 (fun w => q81 w.1))
      · refine x_iload_4 cK_meetBySlips_84 ?_
        refine x_if_ne cK_meetBySlips_86 (fun q86 => ?_) (fun q86 => ?_)
        · refine x_iconst 0 (by decide) cK_meetBySlips_93 ?_
          refine x_ireturn cK_meetBySlips_94 rfl rfl (Nat.zero_le _) (Nat.zero_le _) ?_
          exact h0 (fun z => z.elim q76 (fun w => q86 w.2))
        · refine x_iconst 1 (by decide) cK_meetBySlips_89 ?_
          refine x_goto cK_meetBySlips_90 ?_
          refine x_ireturn cK_meetBySlips_94 rfl rfl (Nat.zero_le _) (Nat.zero_le _) ?_
          exact h1 (Or.inr ⟨q81, q86⟩)
  | succ n ih =>
    intro k hk g8
    have hle := dvlt W k
    have hle2 := dvlt V k
    have J54 : ∀ a f, a = apI W V (k + 1) → f = frI W V (k + 1) → xj yK_meetBySlips (mG yK_meetBySlips Po) 54 [some (.int (nI N)), some (.int (nI W)), some (.int (nI V)), some (.int a), some (.int f), some (.int (nI (W / 10 ^ k))), some (.int (nI (V / 10 ^ k))), some (.int (nI k)), some (.int (dfI W V k))] [] h 0 0 := by
      intro a f ea ef
      subst ea; subst ef
      refine x_iload_5 cK_meetBySlips_54 ?_
      refine x_bipush 10 (by decide) cK_meetBySlips_56 ?_
      refine x_idiv (by decide) cK_meetBySlips_58 ?_
      refine x_top (nI (W / 10 ^ (k + 1))) (by rw [← dv10]; exact pk_div (d := 10) (by omega) (by decide) (by decide)) ?_
      refine x_istore_5 cK_meetBySlips_59 rfl (Nat.le_of_ble_eq_true rfl) ?_
      refine x_iload_6 cK_meetBySlips_61 ?_
      refine x_bipush 10 (by decide) cK_meetBySlips_63 ?_
      refine x_idiv (by decide) cK_meetBySlips_65 ?_
      refine x_top (nI (V / 10 ^ (k + 1))) (by rw [← dv10]; exact pk_div (d := 10) (by omega) (by decide) (by decide)) ?_
      refine x_istore_6 cK_meetBySlips_66 rfl (Nat.le_of_ble_eq_true rfl) ?_
      refine x_iinc_7 (nI (k + 1)) cK_meetBySlips_68 rfl (nI_inc k) (Nat.le_of_ble_eq_true rfl) ?_
      refine x_goto cK_meetBySlips_71 ?_
      exact ih (k + 1) (by omega) _
    refine x_iload_7 cK_meetBySlips_14 ?_
    refine x_iload_0 cK_meetBySlips_16 ?_
    refine x_icmp_ge cK_meetBySlips_17 (fun q17 => absurd q17 (nI_ge (show k < N by omega) (by omega))) (fun q17 => ?_)
    refine x_iload_5 cK_meetBySlips_20 ?_
    refine x_bipush 10 (by decide) cK_meetBySlips_22 ?_
    refine x_irem (by decide) cK_meetBySlips_24 ?_
    refine x_top (nI (W / 10 ^ k % 10)) (pk_rem (d := 10) (by omega) (by decide) (by decide)) ?_
    refine x_iload_6 cK_meetBySlips_25 ?_
    refine x_bipush 10 (by decide) cK_meetBySlips_27 ?_
    refine x_irem (by decide) cK_meetBySlips_29 ?_
    refine x_top (nI (V / 10 ^ k % 10)) (pk_rem (d := 10) (by omega) (by decide) (by decide)) ?_
    refine x_isub cK_meetBySlips_30 ?_
    refine x_iconst 4 (by decide) cK_meetBySlips_31 ?_
    refine x_s2 (ls0 := [some _, some _, none]) cK_meetBySlips_32 kK_314 okMath_floorMod ⟨(Nat.le_of_ble_eq_true rfl), (Nat.le_of_ble_eq_true rfl)⟩ (Nat.le_of_ble_eq_true rfl) rfl (Nat.le_of_ble_eq_true rfl) rfl rfl (Nat.zero_le _) (Nat.zero_le _) ?_
    refine s_floorMod (by decide) ?_
    dsimp only [pushR]
    refine x_top (dfI W V k) rfl ?_
    refine x_istore_8 cK_meetBySlips_35 rfl (Nat.le_of_ble_eq_true rfl) ?_
    refine x_iload_8 cK_meetBySlips_37 ?_
    refine x_if_eq cK_meetBySlips_39 (fun q39 => ?_) (fun q39 => ?_)
    · refine x_iload_8 cK_meetBySlips_45 ?_
      refine x_iconst 2 (by decide) cK_meetBySlips_47 ?_
      refine x_icmp_ne cK_meetBySlips_48 (fun q48 => ?_) (fun q48 => ?_)
      · exact J54 _ _ (by simp only [apI]; rw [if_pos q39]) (by simp only [frI]; rw [if_neg q48])
      · refine x_iinc_4 (_ + 1) cK_meetBySlips_51 rfl rfl (Nat.le_of_ble_eq_true rfl) ?_
        exact absurd (q39.symm.trans q48) (by decide)
    · refine x_iinc_3 (_ + 1) cK_meetBySlips_42 rfl rfl (Nat.le_of_ble_eq_true rfl) ?_
      refine x_iload_8 cK_meetBySlips_45 ?_
      refine x_iconst 2 (by decide) cK_meetBySlips_47 ?_
      refine x_icmp_ne cK_meetBySlips_48 (fun q48 => ?_) (fun q48 => ?_)
      · exact J54 _ _ (by simp only [apI]; rw [if_neg q39]) (by simp only [frI]; rw [if_neg q48])
      · refine x_iinc_4 (_ + 1) cK_meetBySlips_51 rfl rfl (Nat.le_of_ble_eq_true rfl) ?_
        exact J54 _ _ (by simp only [apI]; rw [if_neg q39]) (by simp only [frI]; rw [if_pos q48])
theorem s_meet {Po : Option Value → HS → Prop} {h : HS} {N W V : Nat} (hN : N ≤ 6) (hW : W < 2 ^ 31) (hV : V < 2 ^ 31) (h1 : Meet W V N → Po (some (.int 1)) h) (h0 : ¬ Meet W V N → Po (some (.int 0)) h) : xj yK_meetBySlips (mG yK_meetBySlips Po) 0 [some (.int (nI N)), some (.int (nI W)), some (.int (nI V)), none, none, none, none, none, none] [] h 0 0 := by
  refine x_iconst 0 (by decide) cK_meetBySlips_0 ?_
  refine x_istore_3 cK_meetBySlips_1 rfl (Nat.le_of_ble_eq_true rfl) ?_
  refine x_iconst 0 (by decide) cK_meetBySlips_2 ?_
  refine x_istore_4 cK_meetBySlips_3 rfl (Nat.le_of_ble_eq_true rfl) ?_
  refine x_iload_1 cK_meetBySlips_5 ?_
  refine x_istore_5 cK_meetBySlips_6 rfl (Nat.le_of_ble_eq_true rfl) ?_
  refine x_iload_2 cK_meetBySlips_8 ?_
  refine x_istore_6 cK_meetBySlips_9 rfl (Nat.le_of_ble_eq_true rfl) ?_
  refine x_iconst 0 (by decide) cK_meetBySlips_11 ?_
  refine x_istore_7 cK_meetBySlips_12 rfl (Nat.le_of_ble_eq_true rfl) ?_
  have e0 : nI W = nI (W / 10 ^ 0) := by rw [Nat.pow_zero, Nat.div_one]
  have e1 : nI V = nI (V / 10 ^ 0) := by rw [Nat.pow_zero, Nat.div_one]
  have := s_meet_loop (Po := Po) (h := h) hN hW hV h1 h0 N 0 (by omega) none
  rw [← e0, ← e1] at this
  exact this
def RTaken (c : Nat) (n w v r : Int32) : Prop :=
  (¬ (∃ N W V, IsW n w N W ∧ IsW n v N V) → r = -2) ∧ ∀ N W V, IsW n w N W → IsW n v N V →
    (c = 0 → (W = V → r = 1) ∧ (¬ W = V → r = 0)) ∧ (¬ c = 0 → (Meet W V N → r = 1) ∧ (¬ Meet W V N → r = 0))
theorem k_taken {Po : Option Value → HS → Prop} {I : IT} {J : JT} {P : PT} {c : Nat} {n w v : Int32} (hc : I 4 0 = nI c) (hc5 : c ≤ 5) (hq : ∀ (r : Int32) (I' : IT), RTaken c n w v r ∧ I' = I → Po (some (.int r)) (hp I' J P)) : xj yK_taken (mG yK_taken Po) 0 [some (.ref 1), some (.int n), some (.int w), some (.int v)] [] (hp I J P) 0 0 := by
  refine x_iload_1 cK_taken_0 ?_
  refine x_iload_2 cK_taken_1 ?_
  refine x_s2 (ls0 := [some _, some _, none, none]) cK_taken_2 kK_208 okK_isWord ⟨(Nat.le_of_ble_eq_true rfl), (Nat.le_of_ble_eq_true rfl)⟩ (Nat.le_of_ble_eq_true rfl) rfl (Nat.le_of_ble_eq_true rfl) rfl rfl (Nat.zero_le _) (Nat.zero_le _) ?_
  refine s_isWord (fun N W hW => ?_) (fun hno => ?_)
  · dsimp only [pushR]
    refine x_if_eq cK_taken_5 (fun q => absurd q (by decide)) (fun _ => ?_)
    refine x_iload_1 cK_taken_8 ?_
    refine x_iload_3 cK_taken_9 ?_
    refine x_s2 (ls0 := [some _, some _, none, none]) cK_taken_10 kK_208 okK_isWord ⟨(Nat.le_of_ble_eq_true rfl), (Nat.le_of_ble_eq_true rfl)⟩ (Nat.le_of_ble_eq_true rfl) rfl (Nat.le_of_ble_eq_true rfl) rfl rfl (Nat.zero_le _) (Nat.zero_le _) ?_
    refine s_isWord (fun M V hV => ?_) (fun hno => ?_)
    · dsimp only [pushR]
      have hl1 := hW.2.2.lt
      have hl2 := hV.2.2.lt
      have h6 := hW.2.2.1.2
      have h6' := hV.2.2.1.2
      obtain rfl : N = M := (nI_eq (by omega) (by omega)).mp (hW.1.symm.trans hV.1)
      refine x_if_ne cK_taken_13 (fun _ => ?_) (fun q => absurd q (by decide))
      refine x_aload_0 cK_taken_19 ?_
      refine x_gR (b := 4) cK_taken_20 fK_19 rfl rfl rfl ?_
      refine x_gI cK_taken_23 fK_106 rfl rfl ?_
      refine x_if_ne cK_taken_26 (fun q26 => ?_) (fun q26 => ?_)
      · have hc0 : ¬ c = 0 := fun z => q26 (by rw [hc, z]; rfl)
        refine x_iload_1 cK_taken_40 ?_
        refine x_iload_2 cK_taken_41 ?_
        refine x_iload_3 cK_taken_42 ?_
        refine x_s3 (ls0 := [some _, some _, some _, none, none, none, none, none, none]) cK_taken_43 kK_218 okK_meetBySlips ⟨(Nat.le_of_ble_eq_true rfl), (Nat.le_of_ble_eq_true rfl)⟩ (Nat.le_of_ble_eq_true rfl) rfl (Nat.le_of_ble_eq_true rfl) rfl rfl (Nat.zero_le _) (Nat.zero_le _) ?_
        obtain ⟨eN, eW, -⟩ := id hW
        obtain ⟨-, eV, -⟩ := id hV
        rw [eN, eW, eV]
        refine s_meet h6 (by omega) (by omega) (fun hm => ?_) (fun hm => ?_)
        · dsimp only [pushR]
          refine x_if_eq cK_taken_46 (fun q => absurd q (by decide)) (fun _ => ?_)
          refine x_iconst 1 (by decide) cK_taken_49 ?_
          refine x_goto cK_taken_50 ?_
          refine x_ireturn cK_taken_54 rfl rfl (Nat.zero_le _) (Nat.zero_le _) ?_
          refine hq _ _ ⟨⟨fun z => absurd ⟨N, W, V, hW, hV⟩ z, fun N2 W2 V2 g1 g2 => ?_⟩, rfl⟩
          obtain ⟨rfl, rfl⟩ := hW.one g1
          obtain ⟨-, rfl⟩ := hV.one g2
          exact ⟨fun z => absurd z hc0, fun _ => ⟨fun _ => rfl, fun z => absurd hm z⟩⟩
        · dsimp only [pushR]
          refine x_if_eq cK_taken_46 (fun _ => ?_) (fun q => absurd rfl q)
          refine x_iconst 0 (by decide) cK_taken_53 ?_
          refine x_ireturn cK_taken_54 rfl rfl (Nat.zero_le _) (Nat.zero_le _) ?_
          refine hq _ _ ⟨⟨fun z => absurd ⟨N, W, V, hW, hV⟩ z, fun N2 W2 V2 g1 g2 => ?_⟩, rfl⟩
          obtain ⟨rfl, rfl⟩ := hW.one g1
          obtain ⟨-, rfl⟩ := hV.one g2
          exact ⟨fun z => absurd z hc0, fun _ => ⟨fun z => absurd z hm, fun _ => rfl⟩⟩
      · have hc0 : c = 0 := (nI_eq (by omega) (by decide)).mp (hc.symm.trans q26)
        refine x_iload_2 cK_taken_29 ?_
        refine x_iload_3 cK_taken_30 ?_
        refine x_icmp_ne cK_taken_31 (fun q31 => ?_) (fun q31 => ?_)
        · have hne : ¬ W = V := fun z => q31 (by rw [hW.2.1, hV.2.1, z])
          refine x_iconst 0 (by decide) cK_taken_38 ?_
          refine x_ireturn cK_taken_39 rfl rfl (Nat.zero_le _) (Nat.zero_le _) ?_
          refine hq _ _ ⟨⟨fun z => absurd ⟨N, W, V, hW, hV⟩ z, fun N2 W2 V2 g1 g2 => ?_⟩, rfl⟩
          obtain ⟨rfl, rfl⟩ := hW.one g1
          obtain ⟨-, rfl⟩ := hV.one g2
          exact ⟨fun _ => ⟨fun z => absurd z hne, fun _ => rfl⟩, fun z => absurd hc0 z⟩
        · have hne : W = V := (nI_eq (by omega) (by omega)).mp (hW.2.1.symm.trans (q31.trans hV.2.1))
          refine x_iconst 1 (by decide) cK_taken_34 ?_
          refine x_goto cK_taken_35 ?_
          refine x_ireturn cK_taken_39 rfl rfl (Nat.zero_le _) (Nat.zero_le _) ?_
          refine hq _ _ ⟨⟨fun z => absurd ⟨N, W, V, hW, hV⟩ z, fun N2 W2 V2 g1 g2 => ?_⟩, rfl⟩
          obtain ⟨rfl, rfl⟩ := hW.one g1
          obtain ⟨-, rfl⟩ := hV.one g2
          exact ⟨fun _ => ⟨fun _ => rfl, fun z => absurd hne z⟩, fun z => absurd hc0 z⟩
    · dsimp only [pushR]
      refine x_if_ne cK_taken_13 (fun q => absurd rfl q) (fun _ => ?_)
      refine x_bipush (-2) (by decide) cK_taken_16 ?_
      refine x_ireturn cK_taken_18 rfl rfl (Nat.zero_le _) (Nat.zero_le _) ?_
      exact hq _ _ ⟨⟨fun _ => rfl, fun N V W z1 z2 => absurd z2 (hno N W)⟩, rfl⟩
  · dsimp only [pushR]
    refine x_if_eq cK_taken_5 (fun _ => ?_) (fun q => absurd rfl q)
    refine x_bipush (-2) (by decide) cK_taken_16 ?_
    refine x_ireturn cK_taken_18 rfl rfl (Nat.zero_le _) (Nat.zero_le _) ?_
    exact hq _ _ ⟨⟨fun _ => rfl, fun N W V z1 z2 => absurd z1 (hno N W)⟩, rfl⟩
