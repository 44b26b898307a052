theorem nI_m1 {c : Nat} (h : 0 < c) : nI c - 1 = nI (c - 1) := by
  obtain ⟨d, rfl⟩ : ∃ d, c = d + 1 := ⟨c - 1, by omega⟩
  exact nI_pred d
theorem nI_dec (n : Nat) : nI n + Int32.ofInt (-1) = nI n - 1 := by rw [Int32.sub_eq_add_neg]; rfl
theorem s_sight {Po : Option Value → HS → Prop} {I : IT} {J : JT} {P : PT} {c : Nat} (hc : I 83 2 = nI c) (hc0 : 0 < c) (hc5 : c ≤ 5) (hq : Po (some (.int (I 84 (c - 1) / 4))) (hp I J P)) : xj yFlight_sight (mG yFlight_sight Po) 0 [some (.ref 83)] [] (hp I J P) 0 0 := by
  refine x_aload_0 cFlight_sight_0 ?_
  refine x_gR (b := 84) cFlight_sight_1 fFlight_9 rfl rfl rfl ?_
  refine x_aload_0 cFlight_sight_4 ?_
  refine x_gI cFlight_sight_5 fFlight_24 rfl rfl ?_
  refine x_iconst 1 (by decide) cFlight_sight_8 ?_
  refine x_isub cFlight_sight_9 ?_
  refine x_t2 (ls0 := [some _, some _]) cFlight_sight_10 kFlight_31 okK_at ⟨(Nat.le_of_ble_eq_true rfl), (Nat.le_of_ble_eq_true rfl)⟩ (Nat.le_of_ble_eq_true rfl) rfl (Nat.le_of_ble_eq_true rfl) rfl rfl (Nat.zero_le _) (Nat.zero_le _) ?_
  refine s_at (c - 1) rfl (by rw [hc]; exact nI_m1 hc0) (by omega) (by decide) ?_
  dsimp only [pushR]
  refine x_iconst 4 (by decide) cFlight_sight_13 ?_
  refine x_idiv (by decide) cFlight_sight_14 ?_
  refine x_ireturn cFlight_sight_15 rfl rfl (Nat.zero_le _) (Nat.zero_le _) ?_
  exact hq
/-- whether a place is seen: of a flight's count, folds, last height, last place -/
def Vw (c : Nat) (f h p x : Int32) : Prop := 0 < c ∧ f = 0 ∧ absI (x - p) ≤ h / 4
theorem s_views {Po : Option Value → HS → Prop} {I : IT} {J : JT} {P : PT} {c : Nat} {x : Int32} (hc : I 83 2 = nI c) (hc5 : c ≤ 5) (h1 : Vw c (I 83 3) (I 84 (c - 1)) (I 85 (c - 1)) x → Po (some (.int 1)) (hp I J P)) (h0 : ¬ Vw c (I 83 3) (I 84 (c - 1)) (I 85 (c - 1)) x → Po (some (.int 0)) (hp I J P)) : xj yFlight_views (mG yFlight_views Po) 0 [some (.ref 83), some (.int x)] [] (hp I J P) 0 0 := by
  refine x_aload_0 cFlight_views_0 ?_
  refine x_gI cFlight_views_1 fFlight_24 rfl rfl ?_
  refine x_if_le cFlight_views_4 (fun q4 => ?_) (fun q4 => ?_)
  · refine x_iconst 0 (by decide) cFlight_views_14 ?_
    refine x_ireturn cFlight_views_15 rfl rfl (Nat.zero_le _) (Nat.zero_le _) ?_
    exact h0 (fun z => nI_nle z.1 (by omega) (by rw [← hc]; exact q4))
  · have hc0 : 0 < c := by
      rcases Nat.eq_zero_or_pos c with e | e
      · exact absurd (by rw [hc, e]; decide) q4
      · exact e
    refine x_aload_0 cFlight_views_7 ?_
    refine x_gI cFlight_views_8 fFlight_25 rfl rfl ?_
    refine x_if_eq cFlight_views_11 (fun q11 => ?_) (fun q11 => ?_)
    · refine x_iload_1 cFlight_views_16 ?_
      refine x_aload_0 cFlight_views_17 ?_
      refine x_gR (b := 85) cFlight_views_18 fFlight_15 rfl rfl rfl ?_
      refine x_aload_0 cFlight_views_21 ?_
      refine x_gI cFlight_views_22 fFlight_24 rfl rfl ?_
      refine x_iconst 1 (by decide) cFlight_views_25 ?_
      refine x_isub cFlight_views_26 ?_
      refine x_t2 (ls0 := [some _, some _]) cFlight_views_27 kFlight_31 okK_at ⟨(Nat.le_of_ble_eq_true rfl), (Nat.le_of_ble_eq_true rfl)⟩ (Nat.le_of_ble_eq_true rfl) rfl (Nat.le_of_ble_eq_true rfl) rfl rfl (Nat.zero_le _) (Nat.zero_le _) ?_
      refine s_at (c - 1) rfl (by rw [hc]; exact nI_m1 hc0) (by omega) (by decide) ?_
      dsimp only [pushR]
      refine x_isub cFlight_views_30 ?_
      refine x_s1 (ls0 := [some _]) cFlight_views_31 kFlight_56 okMath_abs ⟨(Nat.le_of_ble_eq_true rfl), (Nat.le_of_ble_eq_true rfl)⟩ (Nat.le_of_ble_eq_true rfl) rfl (Nat.le_of_ble_eq_true rfl) rfl rfl (Nat.zero_le _) (Nat.zero_le _) ?_
      refine s_abs ?_
      dsimp only [pushR]
      refine x_aload_0 cFlight_views_34 ?_
      refine x_v0 (ls0 := [some _]) cFlight_views_35 kFlight_67 okFlight_sight ⟨(Nat.le_of_ble_eq_true rfl), (Nat.le_of_ble_eq_true rfl)⟩ (Nat.le_of_ble_eq_true rfl) rfl (Nat.le_of_ble_eq_true rfl) rfl ⟨_, rfl, rfl⟩ rfl rfl (Nat.zero_le _) (Nat.zero_le _) ?_
      refine s_sight hc hc0 hc5 ?_
      dsimp only [pushR]
      refine x_icmp_gt cFlight_views_38 (fun q38 => ?_) (fun q38 => ?_)
      · refine x_iconst 0 (by decide) cFlight_views_45 ?_
        refine x_ireturn cFlight_views_46 rfl rfl (Nat.zero_le _) (Nat.zero_le _) ?_
        exact h0 (fun z => absurd z.2.2 (Int32.not_le.mpr q38))
      · refine x_iconst 1 (by decide) cFlight_views_41 ?_
        refine x_goto cFlight_views_42 ?_
        refine x_ireturn cFlight_views_46 rfl rfl (Nat.zero_le _) (Nat.zero_le _) ?_
        exact h1 ⟨hc0, q11, Int32.not_lt.mp q38⟩
    · refine x_iconst 0 (by decide) cFlight_views_14 ?_
      refine x_ireturn cFlight_views_15 rfl rfl (Nat.zero_le _) (Nat.zero_le _) ?_
      exact h0 (fun z => q11 z.2.1)
def maxI (a b : Int32) : Int32 := if a < b then b else a
def minI (a b : Int32) : Int32 := if b < a then b else a
def VwN (c : Nat) (f h p x : Int32) : Int32 := if 0 < c ∧ f = 0 then maxI 0 (minI x (p + h / 4) - maxI (-x) (p - h / 4) + 1) else 0
theorem s_viewsWithin {Po : Option Value → HS → Prop} {I : IT} {J : JT} {P : PT} {c : Nat} {x : Int32} (hc : I 83 2 = nI c) (hc5 : c ≤ 5) (hq : Po (some (.int (VwN c (I 83 3) (I 84 (c - 1)) (I 85 (c - 1)) x))) (hp I J P)) : xj yFlight_viewsWithin (mG yFlight_viewsWithin Po) 0 [some (.ref 83), some (.int x), none, none] [] (hp I J P) 0 0 := by
  unfold VwN at hq
  refine x_aload_0 cFlight_viewsWithin_0 ?_
  refine x_gI cFlight_viewsWithin_1 fFlight_24 rfl rfl ?_
  refine x_if_le cFlight_viewsWithin_4 (fun q4 => ?_) (fun q4 => ?_)
  · refine x_iconst 0 (by decide) cFlight_viewsWithin_14 ?_
    refine x_ireturn cFlight_viewsWithin_15 rfl rfl (Nat.zero_le _) (Nat.zero_le _) ?_
    rw [if_neg (fun z => nI_nle z.1 (by omega) (by rw [← hc]; exact q4))] at hq; exact hq
  · have hc0 : 0 < c := by
      rcases Nat.eq_zero_or_pos c with e | e
      · exact absurd (by rw [hc, e]; decide) q4
      · exact e
    refine x_aload_0 cFlight_viewsWithin_7 ?_
    refine x_gI cFlight_viewsWithin_8 fFlight_25 rfl rfl ?_
    refine x_if_eq cFlight_viewsWithin_11 (fun q11 => ?_) (fun q11 => ?_)
    · refine x_iload_1 cFlight_viewsWithin_16 ?_
      refine x_ineg cFlight_viewsWithin_17 ?_
      refine x_aload_0 cFlight_viewsWithin_18 ?_
      refine x_gR (b := 85) cFlight_viewsWithin_19 fFlight_15 rfl rfl rfl ?_
      refine x_aload_0 cFlight_viewsWithin_22 ?_
      refine x_gI cFlight_viewsWithin_23 fFlight_24 rfl rfl ?_
      refine x_iconst 1 (by decide) cFlight_viewsWithin_26 ?_
      refine x_isub cFlight_viewsWithin_27 ?_
      refine x_t2 (ls0 := [some _, some _]) cFlight_viewsWithin_28 kFlight_31 okK_at ⟨(Nat.le_of_ble_eq_true rfl), (Nat.le_of_ble_eq_true rfl)⟩ (Nat.le_of_ble_eq_true rfl) rfl (Nat.le_of_ble_eq_true rfl) rfl rfl (Nat.zero_le _) (Nat.zero_le _) ?_
      refine s_at (c - 1) rfl (by rw [hc]; exact nI_m1 hc0) (by omega) (by decide) ?_
      dsimp only [pushR]
      refine x_aload_0 cFlight_viewsWithin_31 ?_
      refine x_v0 (ls0 := [some _]) cFlight_viewsWithin_32 kFlight_67 okFlight_sight ⟨(Nat.le_of_ble_eq_true rfl), (Nat.le_of_ble_eq_true rfl)⟩ (Nat.le_of_ble_eq_true rfl) rfl (Nat.le_of_ble_eq_true rfl) rfl ⟨_, rfl, rfl⟩ rfl rfl (Nat.zero_le _) (Nat.zero_le _) ?_
      refine s_sight hc hc0 hc5 ?_
      dsimp only [pushR]
      refine x_isub cFlight_viewsWithin_35 ?_
      refine x_s2 (ls0 := [some _, some _]) cFlight_viewsWithin_36 kFlight_38 okMath_max ⟨(Nat.le_of_ble_eq_true rfl), (Nat.le_of_ble_eq_true rfl)⟩ (Nat.le_of_ble_eq_true rfl) rfl (Nat.le_of_ble_eq_true rfl) rfl rfl (Nat.zero_le _) (Nat.zero_le _) ?_
      refine s_max ?_
      dsimp only [pushR]
      refine x_istore_2 cFlight_viewsWithin_39 rfl (Nat.le_of_ble_eq_true rfl) ?_
      refine x_iload_1 cFlight_viewsWithin_40 ?_
      refine x_aload_0 cFlight_viewsWithin_41 ?_
      refine x_gR (b := 85) cFlight_viewsWithin_42 fFlight_15 rfl rfl rfl ?_
      refine x_aload_0 cFlight_viewsWithin_45 ?_
      refine x_gI cFlight_viewsWithin_46 fFlight_24 rfl rfl ?_
      refine x_iconst 1 (by decide) cFlight_viewsWithin_49 ?_
      refine x_isub cFlight_viewsWithin_50 ?_
      refine x_t2 (ls0 := [some _, some _]) cFlight_viewsWithin_51 kFlight_31 okK_at ⟨(Nat.le_of_ble_eq_true rfl), (Nat.le_of_ble_eq_true rfl)⟩ (Nat.le_of_ble_eq_true rfl) rfl (Nat.le_of_ble_eq_true rfl) rfl rfl (Nat.zero_le _) (Nat.zero_le _) ?_
      refine s_at (c - 1) rfl (by rw [hc]; exact nI_m1 hc0) (by omega) (by decide) ?_
      dsimp only [pushR]
      refine x_aload_0 cFlight_viewsWithin_54 ?_
      refine x_v0 (ls0 := [some _]) cFlight_viewsWithin_55 kFlight_67 okFlight_sight ⟨(Nat.le_of_ble_eq_true rfl), (Nat.le_of_ble_eq_true rfl)⟩ (Nat.le_of_ble_eq_true rfl) rfl (Nat.le_of_ble_eq_true rfl) rfl ⟨_, rfl, rfl⟩ rfl rfl (Nat.zero_le _) (Nat.zero_le _) ?_
      refine s_sight hc hc0 hc5 ?_
      dsimp only [pushR]
      refine x_iadd cFlight_viewsWithin_58 ?_
      refine x_s2 (ls0 := [some _, some _]) cFlight_viewsWithin_59 kFlight_71 okMath_min ⟨(Nat.le_of_ble_eq_true rfl), (Nat.le_of_ble_eq_true rfl)⟩ (Nat.le_of_ble_eq_true rfl) rfl (Nat.le_of_ble_eq_true rfl) rfl rfl (Nat.zero_le _) (Nat.zero_le _) ?_
      refine s_min ?_
      dsimp only [pushR]
      refine x_istore_3 cFlight_viewsWithin_62 rfl (Nat.le_of_ble_eq_true rfl) ?_
      refine x_iconst 0 (by decide) cFlight_viewsWithin_63 ?_
      refine x_iload_3 cFlight_viewsWithin_64 ?_
      refine x_iload_2 cFlight_viewsWithin_65 ?_
      refine x_isub cFlight_viewsWithin_66 ?_
      refine x_iconst 1 (by decide) cFlight_viewsWithin_67 ?_
      refine x_iadd cFlight_viewsWithin_68 ?_
      refine x_s2 (ls0 := [some _, some _]) cFlight_viewsWithin_69 kFlight_38 okMath_max ⟨(Nat.le_of_ble_eq_true rfl), (Nat.le_of_ble_eq_true rfl)⟩ (Nat.le_of_ble_eq_true rfl) rfl (Nat.le_of_ble_eq_true rfl) rfl rfl (Nat.zero_le _) (Nat.zero_le _) ?_
      refine s_max ?_
      dsimp only [pushR]
      refine x_ireturn cFlight_viewsWithin_72 rfl rfl (Nat.zero_le _) (Nat.zero_le _) ?_
      rw [if_pos ⟨hc0, q11⟩] at hq; exact hq
    · refine x_iconst 0 (by decide) cFlight_viewsWithin_14 ?_
      refine x_ireturn cFlight_viewsWithin_15 rfl rfl (Nat.zero_le _) (Nat.zero_le _) ?_
      rw [if_neg (fun z => q11 z.2)] at hq; exact hq
/-- a row of figures as a number -/
def val (by_ : Nat) (f : Nat → Nat) : Nat → Nat
  | 0 => 0
  | n + 1 => val by_ f n * by_ + f n
theorem val_ext {b : Nat} {f g : Nat → Nat} : ∀ n, (∀ k, k < n → f k = g k) → val b f n = val b g n
  | 0, _ => rfl
  | n + 1, h => by simp only [val]; rw [val_ext n (fun k hk => h k (by omega)), h n (by omega)]
theorem val_lt {b : Nat} {f : Nat → Nat} (hb : 0 < b) : ∀ n, (∀ k, k < n → f k < b) → val b f n < b ^ n
  | 0, _ => by simp [val]
  | n + 1, h => by
    have h1 := val_lt hb n (fun k hk => h k (by omega))
    have h2 := h n (by omega)
    simp only [val, Nat.pow_succ]
    have : (val b f n + 1) * b ≤ b ^ n * b := Nat.mul_le_mul_right b h1
    rw [Nat.add_mul, Nat.one_mul] at this
    omega
theorem val_dig {b : Nat} {f : Nat → Nat} (hb : 0 < b) : ∀ n, (∀ k, k < n → f k < b) → ∀ k, k < n → f k = val b f n / b ^ (n - 1 - k) % b := by
  intro n
  induction n with
  | zero => intro _ k hk; omega
  | succ n ih =>
    intro h k hk
    have hn := h n (by omega)
    by_cases hkn : k = n
    · subst hkn
      rw [show k + 1 - 1 - k = 0 by omega, Nat.pow_zero, Nat.div_one]
      simp only [val]
      rw [Nat.add_comm, Nat.mul_comm, Nat.add_mul_mod_self_left, Nat.mod_eq_of_lt hn]
    · rw [ih (fun j hj => h j (by omega)) k (by omega), show n + 1 - 1 - k = (n - 1 - k) + 1 by omega, Nat.pow_succ, Nat.mul_comm (b ^ (n - 1 - k)) b, ← Nat.div_div_eq_div_mul]
      congr 2
      simp only [val]
      rw [Nat.add_comm, Nat.mul_comm, Nat.add_mul_div_left _ _ hb, Nat.div_eq_of_lt hn, Nat.zero_add]
/-- the figures of the way, as numbers below b -/
def Fg (I : IT) (c b : Nat) (f : Nat → Nat) : Prop := ∀ k, k < c → I 87 k = nI (f k) ∧ f k < b
/-- the next row of figures: from the last kite on -/
def nxt (b : Nat) (f : Nat → Nat) : Nat → Nat → Nat
  | 0 => f
  | n + 1 => if f n + 1 < b then (fun k => if k = n then f n + 1 else f k) else nxt b (fun k => if k = n then 0 else f k) n
theorem nxt_hi {b : Nat} : ∀ (n : Nat) (f : Nat → Nat) (k : Nat), n ≤ k → nxt b f n k = f k
  | 0, f, k, _ => rfl
  | n + 1, f, k, h => by
    simp only [nxt]
    split
    · show (if k = n then f n + 1 else f k) = f k
      rw [if_neg (by omega)]
    · rw [nxt_hi n _ k (by omega), if_neg (by omega)]
theorem nxt_lt {b : Nat} (hb : 0 < b) : ∀ (n : Nat) (f : Nat → Nat) (c : Nat), (∀ k, k < c → f k < b) → ∀ k, k < c → nxt b f n k < b
  | 0, f, c, h, k, hk => h k hk
  | n + 1, f, c, h, k, hk => by
    simp only [nxt]
    split
    · show (if k = n then f n + 1 else f k) < b
      by_cases e : k = n
      · rw [if_pos e]; assumption
      · rw [if_neg e]; exact h k hk
    · refine nxt_lt hb n _ c (fun j hj => ?_) k hk
      show (if j = n then 0 else f j) < b
      by_cases e : j = n
      · rw [if_pos e]; exact hb
      · rw [if_neg e]; exact h j hj
theorem nxt_val {b : Nat} (hb : 0 < b) : ∀ (n : Nat) (f : Nat → Nat), (∀ k, k < n → f k < b) → val b f n + 1 < b ^ n → val b (nxt b f n) n = val b f n + 1
  | 0, f, h, hv => by simp [val] at hv
  | n + 1, f, h, hv => by
    have hn := h n (by omega)
    by_cases e : f n + 1 < b
    · have e1 : nxt b f (n + 1) = fun k => if k = n then f n + 1 else f k := by simp only [nxt, if_pos e]
      rw [e1]
      simp only [val, if_true]
      rw [val_ext (g := f) n (fun k hk => if_neg (by omega))]
      omega
    · have hfn : f n = b - 1 := by omega
      have e1 : nxt b f (n + 1) = nxt b (fun k => if k = n then 0 else f k) n := by simp only [nxt, if_neg e]
      rw [e1]
      simp only [val]
      rw [nxt_hi n _ n (Nat.le_refl n), if_pos rfl]
      have hv' : val b (fun k => if k = n then 0 else f k) n = val b f n := val_ext n (fun k hk => if_neg (by omega))
      simp only [val, Nat.pow_succ] at hv
      have h3 : val b f n + 1 < b ^ n := by
        apply Nat.lt_of_not_le
        intro hh
        have := Nat.mul_le_mul_right b hh
        rw [Nat.add_mul] at this
        omega
      rw [nxt_val hb n _ (fun k hk => by rw [if_neg (by omega)]; exact h k (by omega)) (by rw [hv']; exact h3), hv', Nat.add_mul, hfn]
      omega
theorem nI_top {a b : Nat} (h : ¬ a + 1 < b) (ha : a < b) : a = b - 1 := by omega
theorem s_Way_step_loop {Po : Option Value → HS → Prop} {I : IT} {J : JT} {P : PT} {c b : Nat} {g : Nat → Nat} (hc5 : c ≤ 5) (hb : 1 < b) (hb9 : b ≤ 9) (hh : I 86 2 = nI (b - 1)) (hq : ∀ I', (∀ a, a ≠ 87 → I' a = I a) → Fg I' c b g → Po none (hp I' J P)) : ∀ n, n ≤ c → ∀ I1 f, (∀ a, a ≠ 87 → I1 a = I a) → Fg I1 c b f → nxt b f n = g → xj yWay_step (mG yWay_step Po) 7 [some (.ref 86), some (.int (nI n - 1))] [] (hp I1 J P) 0 0 := by
  intro n
  induction n with
  | zero =>
    intro _ I1 f hf hF hn
    refine x_iload_1 cWay_step_7 ?_
    refine x_if_lt cWay_step_8 (fun q8 => ?_) (fun q8 => absurd q8 (fun z => z (by decide)))
    refine x_return cWay_step_60 rfl (Nat.zero_le _) (Nat.zero_le _) ?_
    exact hq I1 hf (by rw [← hn]; exact hF)
  | succ n ih =>
    intro hnc I1 f hf hF hn
    rw [show nI (n + 1) - 1 = nI n from nI_pred n]
    obtain ⟨hfn, hfb⟩ := hF n (by omega)
    refine x_iload_1 cWay_step_7 ?_
    refine x_if_lt cWay_step_8 (fun q8 => absurd q8 (nI_pos (by omega))) (fun q8 => ?_)
    refine x_aload_0 cWay_step_11 ?_
    refine x_gR (b := 87) cWay_step_12 fWay_9 rfl rfl rfl ?_
    refine x_iload_1 cWay_step_15 ?_
    refine x_t2 (ls0 := [some _, some _]) cWay_step_16 kWay_22 okK_at ⟨(Nat.le_of_ble_eq_true rfl), (Nat.le_of_ble_eq_true rfl)⟩ (Nat.le_of_ble_eq_true rfl) rfl (Nat.le_of_ble_eq_true rfl) rfl rfl (Nat.zero_le _) (Nat.zero_le _) ?_
    refine s_at n rfl rfl (by omega) (by decide) ?_
    dsimp only [pushR]
    refine x_top (nI (f n)) hfn ?_
    refine x_aload_0 cWay_step_19 ?_
    refine x_gI cWay_step_20 fWay_19 rfl rfl ?_
    refine x_icmp_ge cWay_step_23 (fun q23 => ?_) (fun q23 => ?_)
    · rw [hf 86 (by decide), hh] at q23
      have hge : ¬ f n + 1 < b := by
        have := (nI_leI (by omega) (by omega)).mp q23
        omega
      refine x_aload_0 cWay_step_45 ?_
      refine x_gR (b := 87) cWay_step_46 fWay_9 rfl rfl rfl ?_
      refine x_iload_1 cWay_step_49 ?_
      refine x_iconst 0 (by decide) cWay_step_50 ?_
      refine x_t3 (ls0 := [some _, some _, some _]) cWay_step_51 kWay_26 okK_put ⟨(Nat.le_of_ble_eq_true rfl), (Nat.le_of_ble_eq_true rfl)⟩ (Nat.le_of_ble_eq_true rfl) rfl (Nat.le_of_ble_eq_true rfl) rfl rfl (Nat.zero_le _) (Nat.zero_le _) ?_
      refine s_put n rfl rfl (by omega) (by decide) ?_
      dsimp only [pushR]
      refine x_iinc_1 (nI n - 1) cWay_step_54 rfl (nI_dec n) (Nat.le_of_ble_eq_true rfl) ?_
      refine x_goto cWay_step_57 ?_
      refine ih (by omega) _ (fun k => if k = n then 0 else f k) (fun a ha => by rw [u2_n ha]; exact hf a ha) (fun k hk => ?_) (by rw [← hn]; simp only [nxt, if_neg hge])
      rw [u2_g]
      dsimp only
      by_cases e : k = n
      · rw [if_pos ⟨rfl, e⟩, if_pos e]; exact ⟨rfl, by omega⟩
      · rw [if_neg (fun z => e z.2), if_neg e]; exact hF k hk
    · rw [hf 86 (by decide), hh] at q23
      have hlt : f n + 1 < b := by
        have := mt (nI_leI (a := b - 1) (b := f n) (by omega) (by omega)).mpr q23
        omega
      refine x_aload_0 cWay_step_26 ?_
      refine x_gR (b := 87) cWay_step_27 fWay_9 rfl rfl rfl ?_
      refine x_iload_1 cWay_step_30 ?_
      refine x_aload_0 cWay_step_31 ?_
      refine x_gR (b := 87) cWay_step_32 fWay_9 rfl rfl rfl ?_
      refine x_iload_1 cWay_step_35 ?_
      refine x_t2 (ls0 := [some _, some _]) cWay_step_36 kWay_22 okK_at ⟨(Nat.le_of_ble_eq_true rfl), (Nat.le_of_ble_eq_true rfl)⟩ (Nat.le_of_ble_eq_true rfl) rfl (Nat.le_of_ble_eq_true rfl) rfl rfl (Nat.zero_le _) (Nat.zero_le _) ?_
      refine s_at n rfl rfl (by omega) (by decide) ?_
      dsimp only [pushR]
      refine x_top (nI (f n)) hfn ?_
      refine x_iconst 1 (by decide) cWay_step_39 ?_
      refine x_iadd cWay_step_40 ?_
      refine x_top (nI (f n + 1)) (nI_1 _) ?_
      refine x_t3 (ls0 := [some _, some _, some _]) cWay_step_41 kWay_26 okK_put ⟨(Nat.le_of_ble_eq_true rfl), (Nat.le_of_ble_eq_true rfl)⟩ (Nat.le_of_ble_eq_true rfl) rfl (Nat.le_of_ble_eq_true rfl) rfl rfl (Nat.zero_le _) (Nat.zero_le _) ?_
      refine s_put n rfl rfl (by omega) (by decide) ?_
      dsimp only [pushR]
      refine x_return cWay_step_44 rfl (Nat.zero_le _) (Nat.zero_le _) ?_
      refine hq _ (fun a ha => by rw [u2_n ha]; exact hf a ha) (fun k hk => ?_)
      rw [← hn]
      simp only [nxt, if_pos hlt]
      rw [u2_g]
      by_cases e : k = n
      · rw [if_pos ⟨rfl, e⟩, if_pos e]; exact ⟨rfl, hlt⟩
      · rw [if_neg (fun z => e z.2), if_neg e]; exact hF k hk
theorem s_Way_step {Po : Option Value → HS → Prop} {I : IT} {J : JT} {P : PT} {c b : Nat} {f : Nat → Nat} (hc : I 86 1 = nI c) (hc5 : c ≤ 5) (hb : 1 < b) (hb9 : b ≤ 9) (hh : I 86 2 = nI (b - 1)) (hF : Fg I c b f) (hq : ∀ I', (∀ a, a ≠ 87 → I' a = I a) → Fg I' c b (nxt b f c) → Po none (hp I' J P)) : xj yWay_step (mG yWay_step Po) 0 [some (.ref 86), none] [] (hp I J P) 0 0 := by
  refine x_aload_0 cWay_step_0 ?_
  refine x_gI cWay_step_1 fWay_15 rfl rfl ?_
  refine x_iconst 1 (by decide) cWay_step_4 ?_
  refine x_isub cWay_step_5 ?_
  refine x_istore_1 cWay_step_6 rfl (Nat.le_of_ble_eq_true rfl) ?_
  rw [hc]
  exact s_Way_step_loop hc5 hb hb9 hh hq c (Nat.le_refl c) I f (fun _ _ => rfl) hF rfl
