/-- the class keeps all but its room for questions -/
def SameC (I I' : IT) : Prop := ∀ a, (a < 79 ∨ 89 < a) → I' a = I a
theorem SameC.rf {I : IT} : SameC I I := fun _ _ => rfl
def RWrite (I I' : IT) (n : Nat) (v r : Int32) : Prop :=
  ((v < 0 ∨ 255 < v) → r = -2 ∧ I' = I) ∧ (¬ (v < 0 ∨ 255 < v) → (n = 32 → r = -4 ∧ I' = I) ∧ (n < 32 → r = nI (n + 1) ∧ (∀ a, a ≠ 2 → a ≠ 3 → I' a = I a) ∧ I' 2 1 = nI (n + 1) ∧ I' 3 n = v ∧ ∀ j, j ≠ n → I' 3 j = I 3 j))
theorem k_write {Po : Option Value → HS → Prop} {I : IT} {J : JT} {P : PT} {n : Nat} {v : Int32} (hn : I 2 1 = nI n) (hn2 : n ≤ 32) (hq : ∀ (r : Int32) (I' : IT), RWrite I I' n v r → Po (some (.int r)) (hp I' J P)) : xj yK_write (mG yK_write Po) 0 [some (.ref 1), some (.int v)] [] (hp I J P) 0 0 := by
  refine x_iload_1 cK_write_0 ?_
  refine x_if_lt cK_write_1 (fun q1 => ?_) (fun q1 => ?_)
  · refine x_bipush (-2) (by decide) cK_write_11 ?_
    refine x_ireturn cK_write_13 rfl rfl (Nat.zero_le _) (Nat.zero_le _) ?_
    exact hq _ _ ⟨fun _ => ⟨rfl, rfl⟩, fun z => absurd (Or.inl q1) z⟩
  · refine x_iload_1 cK_write_4 ?_
    refine x_sipush 255 (by decide) cK_write_5 ?_
    refine x_icmp_le cK_write_8 (fun q8 => ?_) (fun q8 => ?_)
    · refine x_aload_0 cK_write_14 ?_
      refine x_gR (b := 2) cK_write_15 fK_10 rfl rfl rfl ?_
      refine x_gI cK_write_18 fK_84 rfl rfl ?_
      refine x_bipush 32 (by decide) cK_write_21 ?_
      refine x_icmp_lt cK_write_23 (fun q23 => ?_) (fun q23 => ?_)
      · refine x_aload_0 cK_write_29 ?_
        refine x_gR (b := 2) cK_write_30 fK_10 rfl rfl rfl ?_
        refine x_iload_1 cK_write_33 ?_
        refine x_v1 (ls0 := [some _, some _]) cK_write_34 kK_88 okText_append ⟨(Nat.le_of_ble_eq_true rfl), (Nat.le_of_ble_eq_true rfl)⟩ (Nat.le_of_ble_eq_true rfl) rfl (Nat.le_of_ble_eq_true rfl) rfl ⟨_, rfl, rfl⟩ rfl rfl (Nat.zero_le _) (Nat.zero_le _) ?_
        refine s_append (n := n) hn (by rw [hn] at q23; exact (nI_ltI (by omega) (by decide)).mp q23) (fun I' f1 f2 f3 f4 => ?_)
        dsimp only [pushR]
        refine x_ireturn cK_write_37 rfl rfl (Nat.zero_le _) (Nat.zero_le _) ?_
        exact hq _ _ ⟨fun z => absurd z (fun w => w.elim q1 (fun w => absurd w (Int32.not_lt.mpr q8))), fun _ => ⟨fun z => by subst z; exact absurd (by rw [hn]; rfl) (Int32.ne_of_lt q23), fun _ => ⟨rfl, f1, f2, f3, f4⟩⟩⟩
      · refine x_bipush (-4) (by decide) cK_write_26 ?_
        refine x_ireturn cK_write_28 rfl rfl (Nat.zero_le _) (Nat.zero_le _) ?_
        exact hq _ _ ⟨fun z => absurd z (fun w => w.elim q1 (fun w => absurd w (Int32.not_lt.mpr q8))), fun _ => ⟨fun _ => ⟨rfl, rfl⟩, fun z => absurd (by rw [hn]; exact nI_lt z (by decide)) q23⟩⟩
    · refine x_bipush (-2) (by decide) cK_write_11 ?_
      refine x_ireturn cK_write_13 rfl rfl (Nat.zero_le _) (Nat.zero_le _) ?_
      exact hq _ _ ⟨fun _ => ⟨rfl, rfl⟩, fun z => absurd (Or.inr (Int32.not_le.mp q8)) z⟩
theorem k_wipe {Po : Option Value → HS → Prop} {I : IT} {J : JT} {P : PT}   (hq : ∀ (r : Int32) (I' : IT), r = I 2 1 ∧ I' = u2 I 2 1 0 → Po (some (.int r)) (hp I' J P)) : xj yK_wipe (mG yK_wipe Po) 0 [some (.ref 1), none] [] (hp I J P) 0 0 := by
  refine x_aload_0 cK_wipe_0 ?_
  refine x_gR (b := 2) cK_wipe_1 fK_10 rfl rfl rfl ?_
  refine x_gI cK_wipe_4 fK_84 rfl rfl ?_
  refine x_istore_1 cK_wipe_7 rfl (Nat.le_of_ble_eq_true rfl) ?_
  refine x_aload_0 cK_wipe_8 ?_
  refine x_gR (b := 2) cK_wipe_9 fK_10 rfl rfl rfl ?_
  refine x_iconst 0 (by decide) cK_wipe_12 ?_
  refine x_pI cK_wipe_13 fK_84 rfl rfl ?_
  refine x_iload_1 cK_wipe_16 ?_
  refine x_ireturn cK_wipe_17 rfl rfl (Nat.zero_le _) (Nat.zero_le _) ?_
  exact hq _ _ ⟨rfl, rfl⟩
def RFault (t : Nat → Int32) (n : Nat) (r : Int32) : Prop :=
  (∀ p, p < n → ¬ okL t p → (∀ j, j < p → okL t j) → r = nI p) ∧ ((∀ j, j < n → okL t j) → (ended n → r = -9) ∧ (¬ ended n → r = nI n))
theorem fault_first {t : Nat → Int32} {n p : Nat} (hp : p < n) (h1 : ¬ okL t p) (h2 : ∀ j, j < p → okL t j) : RFault t n (nI p) :=
  ⟨fun q hq h3 h4 => by
    rcases Nat.lt_trichotomy p q with h | h | h
    · exact absurd (h4 p h) h1
    · rw [h]
    · exact absurd (h2 q h) h3, fun h => absurd (h p hp) h1⟩
theorem fault_none {t : Nat → Int32} {n : Nat} (h : ∀ j, j < n → okL t j) (he : ended n) : RFault t n (-9) := ⟨fun p hp h1 _ => absurd (h p hp) h1, fun _ => ⟨fun _ => rfl, fun z => absurd he z⟩⟩
theorem fault_end {t : Nat → Int32} {n : Nat} (h : ∀ j, j < n → okL t j) (he : ¬ ended n) : RFault t n (nI n) := ⟨fun p hp h1 _ => absurd (h p hp) h1, fun _ => ⟨fun z => absurd z he, fun _ => rfl⟩⟩
theorem fault_one {t t' : Nat → Int32} {n : Nat} {r r' : Int32} (e : ∀ j, j < n → t j = t' j) (hk : ∀ p, p < n → (okL t p ↔ okL t' p)) (h : RFault t n r) (h' : RFault t' n r') : r = r' := by
  by_cases ha : ∀ j, j < n → okL t j
  · have ha' : ∀ j, j < n → okL t' j := fun j hj => (hk j hj).mp (ha j hj)
    by_cases he : ended n
    · rw [(h.2 ha).1 he, (h'.2 ha').1 he]
    · rw [(h.2 ha).2 he, (h'.2 ha').2 he]
  · have hex : ∃ p, p < n ∧ ¬ okL t p := by
      apply Classical.byContradiction
      intro z
      exact ha (fun j hj => Classical.byContradiction fun w => z ⟨j, hj, w⟩)
    obtain ⟨p, ⟨hp, h1⟩, hm⟩ := pk_least (fun p => p < n ∧ ¬ okL t p) hex
    have h2 : ∀ j, j < p → okL t j := fun j hj => Classical.byContradiction fun w => hm j hj ⟨by omega, w⟩
    rw [h.1 p hp h1 h2, h'.1 p hp (fun z => h1 ((hk p hp).mpr z)) (fun j hj => (hk j (by omega)).mp (h2 j hj))]
theorem k_fault {Po : Option Value → HS → Prop} {I : IT} {J : JT} {P : PT} {n : Nat} (hn : I 2 1 = nI n) (hn2 : n ≤ 32) (hq : ∀ (r : Int32) (I' : IT), RFault (I 3) n r ∧ I' = I → Po (some (.int r)) (hp I' J P)) : xj yK_fault (mG yK_fault Po) 0 [some (.ref 1)] [] (hp I J P) 0 0 := by
  refine x_aload_0 cK_fault_0 ?_
  refine x_gR (b := 2) cK_fault_1 fK_10 rfl rfl rfl ?_
  refine x_v0 (ls0 := [some _, none]) cK_fault_4 kK_92 okText_firstFault ⟨(Nat.le_of_ble_eq_true rfl), (Nat.le_of_ble_eq_true rfl)⟩ (Nat.le_of_ble_eq_true rfl) rfl (Nat.le_of_ble_eq_true rfl) rfl ⟨_, rfl, rfl⟩ rfl rfl (Nat.zero_le _) (Nat.zero_le _) ?_
  refine s_firstFault hn hn2 (fun p a1 a2 a3 => ?_) (fun a1 a2 => ?_) (fun a1 a2 => ?_)
  · dsimp only [pushR]
    refine x_ireturn cK_fault_7 rfl rfl (Nat.zero_le _) (Nat.zero_le _) ?_
    exact hq _ _ ⟨fault_first a1 a2 a3, rfl⟩
  · dsimp only [pushR]
    refine x_ireturn cK_fault_7 rfl rfl (Nat.zero_le _) (Nat.zero_le _) ?_
    exact hq _ _ ⟨fault_none a1 a2, rfl⟩
  · dsimp only [pushR]
    refine x_ireturn cK_fault_7 rfl rfl (Nat.zero_le _) (Nat.zero_le _) ?_
    exact hq _ _ ⟨fault_end a1 a2, rfl⟩
theorem s_forgetKept {Po : Option Value → HS → Prop} {I : IT} {J : JT} {P : PT} (hq : Po none (hp (u2 (u2 I 75 0 0) 75 1 0) J P)) : xj yK_forgetKept (mG yK_forgetKept Po) 0 [some (.ref 1), none] [] (hp I J P) 0 0 := by
  refine x_iconst 0 (by decide) cK_forgetKept_0 ?_
  refine x_istore_1 cK_forgetKept_1 rfl (Nat.le_of_ble_eq_true rfl) ?_
  refine x_iload_1 cK_forgetKept_2 ?_
  refine x_aload_0 cK_forgetKept_3 ?_
  refine x_gR (b := 75) cK_forgetKept_4 fK_38 rfl rfl rfl ?_
  refine x_l2 (2) cK_forgetKept_7 rfl rfl ?_
  refine x_icmp_ge cK_forgetKept_8 (fun q8 => absurd q8 (by decide)) (fun q8 => ?_)
  refine x_aload_0 cK_forgetKept_11 ?_
  refine x_gR (b := 75) cK_forgetKept_12 fK_38 rfl rfl rfl ?_
  refine x_iload_1 cK_forgetKept_15 ?_
  refine x_iconst 0 (by decide) cK_forgetKept_16 ?_
  refine x_zs (0) cK_forgetKept_17 rfl rfl (by decide) (by decide) rfl ?_
  refine x_iinc_1 (nI 1) cK_forgetKept_18 rfl rfl (Nat.le_of_ble_eq_true rfl) ?_
  refine x_goto cK_forgetKept_21 ?_
  refine x_iload_1 cK_forgetKept_2 ?_
  refine x_aload_0 cK_forgetKept_3 ?_
  refine x_gR (b := 75) cK_forgetKept_4 fK_38 rfl rfl rfl ?_
  refine x_l2 (2) cK_forgetKept_7 rfl rfl ?_
  refine x_icmp_ge cK_forgetKept_8 (fun q8 => absurd q8 (by decide)) (fun q8 => ?_)
  refine x_aload_0 cK_forgetKept_11 ?_
  refine x_gR (b := 75) cK_forgetKept_12 fK_38 rfl rfl rfl ?_
  refine x_iload_1 cK_forgetKept_15 ?_
  refine x_iconst 0 (by decide) cK_forgetKept_16 ?_
  refine x_zs (1) cK_forgetKept_17 rfl rfl (by decide) (by decide) rfl ?_
  refine x_iinc_1 (nI 2) cK_forgetKept_18 rfl rfl (Nat.le_of_ble_eq_true rfl) ?_
  refine x_goto cK_forgetKept_21 ?_
  refine x_iload_1 cK_forgetKept_2 ?_
  refine x_aload_0 cK_forgetKept_3 ?_
  refine x_gR (b := 75) cK_forgetKept_4 fK_38 rfl rfl rfl ?_
  refine x_l2 (2) cK_forgetKept_7 rfl rfl ?_
  refine x_icmp_ge cK_forgetKept_8 (fun q8 => ?_) (fun q8 => absurd q8 (fun z => z (by decide)))
  refine x_return cK_forgetKept_24 rfl (Nat.zero_le _) (Nat.zero_le _) ?_
  exact hq
theorem k_fly {Po : Option Value → HS → Prop} {I : IT} {J : JT} {P : PT} {n : Nat} (hn : I 2 1 = nI n) (hn2 : n ≤ 32) (hq : ∀ (r : Int32) (I' : IT), ((¬ ((∀ j, j < n → okL (I 3) j) ∧ ended n)) → r = -3 ∧ I' = I) ∧ (((∀ j, j < n → okL (I 3) j) ∧ ended n) → n ≤ 26 → r = nI ((n - 6) / 4) ∧ ∃ I1, TlOut I I1 ((n - 6) / 4) ∧ I' = u2 (u2 (u2 I1 8 1 0) 75 0 0) 75 1 0) → Po (some (.int r)) (hp I' J P)) : xj yK_fly (mG yK_fly Po) 0 [some (.ref 1)] [] (hp I J P) 0 0 := by
  refine x_aload_0 cK_fly_0 ?_
  refine x_gR (b := 2) cK_fly_1 fK_10 rfl rfl rfl ?_
  refine x_v0 (ls0 := [some _, none]) cK_fly_4 kK_92 okText_firstFault ⟨(Nat.le_of_ble_eq_true rfl), (Nat.le_of_ble_eq_true rfl)⟩ (Nat.le_of_ble_eq_true rfl) rfl (Nat.le_of_ble_eq_true rfl) rfl ⟨_, rfl, rfl⟩ rfl rfl (Nat.zero_le _) (Nat.zero_le _) ?_
  have okle : (∀ j, j < n → okL (I 3) j) → n ≤ 26 := fun z => by
    apply Nat.le_of_not_lt
    intro w
    exact absurd (z 26 w).1 (by decide)
  refine s_firstFault hn hn2 (fun p a1 a2 a3 => ?_) (fun a1 a2 => ?_) (fun a1 a2 => ?_)
  · dsimp only [pushR]
    refine x_bipush (-9) (by decide) cK_fly_7 ?_
    refine x_icmp_eq cK_fly_9 (fun q9 => ?_) (fun q9 => ?_)
    · exact absurd q9 (by intro z; exact absurd (congrArg Int32.toInt z) (by rw [nI_toInt (by omega), show ((-9 : Int32)).toInt = -9 from rfl]; omega))
    · refine x_bipush (-3) (by decide) cK_fly_12 ?_
      refine x_ireturn cK_fly_14 rfl rfl (Nat.zero_le _) (Nat.zero_le _) ?_
      exact hq _ _ ⟨fun _ => ⟨rfl, rfl⟩, fun z => absurd (z.1 p a1) a2⟩
  · dsimp only [pushR]
    refine x_bipush (-9) (by decide) cK_fly_7 ?_
    refine x_icmp_eq cK_fly_9 (fun q9 => ?_) (fun q9 => ?_)
    · refine x_aload_0 cK_fly_15 ?_
      refine x_gR (b := 2) cK_fly_16 fK_10 rfl rfl rfl ?_
      refine x_aload_0 cK_fly_19 ?_
      refine x_gR (b := 4) cK_fly_20 fK_19 rfl rfl rfl ?_
      refine x_v1 (ls0 := [some _, some _, none, none]) cK_fly_23 kK_96 okText_tell ⟨(Nat.le_of_ble_eq_true rfl), (Nat.le_of_ble_eq_true rfl)⟩ (Nat.le_of_ble_eq_true rfl) rfl (Nat.le_of_ble_eq_true rfl) rfl ⟨_, rfl, rfl⟩ rfl rfl (Nat.zero_le _) (Nat.zero_le _) ?_
      refine s_tell hn a2.1 (okle a1) (fun I1 hT => ?_)
      dsimp only [pushR]
      refine x_aload_0 cK_fly_26 ?_
      refine x_gR (b := 8) cK_fly_27 fK_26 rfl rfl rfl ?_
      refine x_v0 (ls0 := [some _]) cK_fly_30 kK_100 okPast_forget ⟨(Nat.le_of_ble_eq_true rfl), (Nat.le_of_ble_eq_true rfl)⟩ (Nat.le_of_ble_eq_true rfl) rfl (Nat.le_of_ble_eq_true rfl) rfl ⟨_, rfl, rfl⟩ rfl rfl (Nat.zero_le _) (Nat.zero_le _) ?_
      refine s_forget ?_
      dsimp only [pushR]
      refine x_aload_0 cK_fly_33 ?_
      refine x_v0 (ls0 := [some _, none]) cK_fly_34 kK_103 okK_forgetKept ⟨(Nat.le_of_ble_eq_true rfl), (Nat.le_of_ble_eq_true rfl)⟩ (Nat.le_of_ble_eq_true rfl) rfl (Nat.le_of_ble_eq_true rfl) rfl ⟨_, rfl, rfl⟩ rfl rfl (Nat.zero_le _) (Nat.zero_le _) ?_
      refine s_forgetKept ?_
      dsimp only [pushR]
      refine x_aload_0 cK_fly_37 ?_
      refine x_gR (b := 4) cK_fly_38 fK_19 rfl rfl rfl ?_
      refine x_gI cK_fly_41 fK_106 rfl rfl ?_
      refine x_ireturn cK_fly_44 rfl rfl (Nat.zero_le _) (Nat.zero_le _) ?_
      exact hq _ _ ⟨fun z => absurd ⟨a1, a2⟩ z, fun _ _ => ⟨by rw [u2_n (by decide), u2_n (by decide), u2_n (by decide)]; exact hT.2.1, I1, hT, rfl⟩⟩
    · exact absurd rfl q9
  · dsimp only [pushR]
    refine x_bipush (-9) (by decide) cK_fly_7 ?_
    refine x_icmp_eq cK_fly_9 (fun q9 => ?_) (fun q9 => ?_)
    · exact absurd q9 (by intro z; exact absurd (congrArg Int32.toInt z) (by rw [nI_toInt (by omega), show ((-9 : Int32)).toInt = -9 from rfl]; omega))
    · refine x_bipush (-3) (by decide) cK_fly_12 ?_
      refine x_ireturn cK_fly_14 rfl rfl (Nat.zero_le _) (Nat.zero_le _) ?_
      exact hq _ _ ⟨fun _ => ⟨rfl, rfl⟩, fun z => absurd z.2 a2⟩
