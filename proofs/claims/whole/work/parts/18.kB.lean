/-- an act is remembered -/
def RmAny (I I' : IT) (P P' : PT) (c n : Nat) : Prop := (n < 14 ∧ P' = P ∧ RmOut I I' P c n) ∨ (n = 14 ∧ P' = rotP P ∧ RmOut I I' (rotP P) c 13)
theorem RmAny.keeps {I I' : IT} {P P' : PT} {c n : Nat} (hR : RowsOk P) (h : RmAny I I' P P' c n) {a : Nat} (h8 : a ≠ 8) (ha : a < 10 ∨ 66 ≤ a) : I' a = I a := by
  rcases h with ⟨h1, -, h2⟩ | ⟨h1, -, h2⟩
  · have := hR.ln h1
    exact h2.1 a h8 (by omega) (by omega) (by omega) (by omega)
  · have := hR.rot.ln (j := 13) (by decide)
    exact h2.1 a h8 (by omega) (by omega) (by omega) (by omega)
def RLetOut (I I' : IT) (P P' : PT) (c n : Nat) (i d r : Int32) : Prop :=
  ((¬ ∃ j, j < c ∧ i = nI j) → r = -1 ∧ I' = I ∧ P' = P) ∧ ∀ j, j < c → i = nI j →
    ((d = 0 ∨ ¬ (-9 ≤ d ∧ d ≤ 9)) → r = -2 ∧ I' = I ∧ P' = P) ∧ (¬ (d = 0 ∨ ¬ (-9 ≤ d ∧ d ≤ 9)) →
      (¬ (1 ≤ I 5 j + d ∧ I 5 j + d ≤ 30) → r = -3 ∧ I' = I ∧ P' = P) ∧ ((1 ≤ I 5 j + d ∧ I 5 j + d ≤ 30) → r = I 5 j + d ∧ ∃ I1, RmAny I I1 P P' c n ∧ I' = u2 I1 5 j (I 5 j + d)))
def RSet (I I' : IT) (P P' : PT) (c n : Nat) (i d r : Int32) : Prop :=
  ((¬ ∃ j, j < c ∧ i = nI j) → r = -1 ∧ I' = I ∧ P' = P) ∧ ∀ j, j < c → i = nI j →
    (¬ (-2 ≤ d ∧ d ≤ 2) → r = -2 ∧ I' = I ∧ P' = P) ∧ ((-2 ≤ d ∧ d ≤ 2) →
      (I 6 j = d → r = -3 ∧ I' = I ∧ P' = P) ∧ (¬ I 6 j = d → r = I 6 j + 2 ∧ ∃ I1, RmAny I I1 P P' c n ∧ I' = u2 I1 6 j d))
def RCut (I I' : IT) (P P' : PT) (c n : Nat) (i r : Int32) : Prop :=
  ((¬ ∃ j, j < c ∧ i = nI j) → r = -1 ∧ I' = I ∧ P' = P) ∧ ∀ j, j < c → i = nI j → r = nI j ∧ ∃ I1, RmAny I I1 P P' c n ∧ I' = u2 I1 4 0 (nI j)
def RTurn (I I' : IT) (P P' : PT) (c n : Nat) (l h r : Int32) : Prop :=
  (¬ ((-2 ≤ l ∧ l ≤ 2) ∧ (-2 ≤ h ∧ h ≤ 2)) → r = -2 ∧ I' = I ∧ P' = P) ∧ (((-2 ≤ l ∧ l ≤ 2) ∧ (-2 ≤ h ∧ h ≤ 2)) →
    ((l = I 4 1 ∧ h = I 4 2) → r = -3 ∧ I' = I ∧ P' = P) ∧ (¬ (l = I 4 1 ∧ h = I 4 2) → r = 10 * (I 4 1 + 2) + I 4 2 + 2 ∧ ∃ I1, RmAny I I1 P P' c n ∧ I' = u2 (u2 I1 4 1 l) 4 2 h))
theorem nI_one {c j k : Nat} {i : Int32} (hc : c ≤ 5) (hj : j < c) (e : i = nI j) (hk : k < c) (e2 : i = nI k) : k = j := (nI_eq (by omega) (by omega)).mp (e2.symm.trans e)
theorem k_letOut {Po : Option Value → HS → Prop} {I : IT} {J : JT} {P : PT} {c n : Nat} {i d : Int32} (hc : I 4 0 = nI c) (hc5 : c ≤ 5) (hR : RowsOk P) (hn : I 8 1 = nI n) (hn14 : n ≤ 14) (hq : ∀ (r : Int32) (I' : IT) (P' : PT), RLetOut I I' P P' c n i d r → Po (some (.int r)) (hp I' J P')) : xj yK_letOut (mG yK_letOut Po) 0 [some (.ref 1), some (.int i), some (.int d), none] [] (hp I J P) 0 0 := by
  refine x_aload_0 cK_letOut_0 ?_
  refine x_gR (b := 4) cK_letOut_1 fK_19 rfl rfl rfl ?_
  refine x_iload_1 cK_letOut_4 ?_
  refine x_v1 (ls0 := [some _, some _]) cK_letOut_5 kK_132 okLine_has ⟨(Nat.le_of_ble_eq_true rfl), (Nat.le_of_ble_eq_true rfl)⟩ (Nat.le_of_ble_eq_true rfl) rfl (Nat.le_of_ble_eq_true rfl) rfl ⟨_, rfl, rfl⟩ rfl rfl (Nat.zero_le _) (Nat.zero_le _) ?_
  refine s_has ln_4 hc hc5 (fun j hj ej => ?_) (fun hno => ?_)
  · dsimp only [pushR]
    refine x_if_ne cK_letOut_8 (fun _ => ?_) (fun q => absurd q (by decide))
    refine x_iload_2 cK_letOut_13 ?_
    refine x_if_eq cK_letOut_14 (fun q14 => ?_) (fun q14 => ?_)
    · refine x_bipush (-2) (by decide) cK_letOut_26 ?_
      refine x_ireturn cK_letOut_28 rfl rfl (Nat.zero_le _) (Nat.zero_le _) ?_
      refine hq _ _ _ ⟨fun z => absurd ⟨j, hj, ej⟩ z, ?_⟩
      intro k hk ek
      obtain rfl := nI_one hc5 hj ej hk ek
      exact ⟨fun _ => ⟨rfl, rfl, rfl⟩, fun z => absurd (Or.inl q14) z⟩
    · refine x_iload_2 cK_letOut_17 ?_
      refine x_bipush 9 (by decide) cK_letOut_18 ?_
      refine x_s2 (ls0 := [some _, some _]) cK_letOut_20 kK_156 okK_within ⟨(Nat.le_of_ble_eq_true rfl), (Nat.le_of_ble_eq_true rfl)⟩ (Nat.le_of_ble_eq_true rfl) rfl (Nat.le_of_ble_eq_true rfl) rfl rfl (Nat.zero_le _) (Nat.zero_le _) ?_
      refine s_within (fun hw => ?_) (fun hw => ?_)
      · dsimp only [pushR]
        refine x_if_ne cK_letOut_23 (fun _ => ?_) (fun q => absurd q (by decide))
        refine x_aload_0 cK_letOut_29 ?_
        refine x_gR (b := 4) cK_letOut_30 fK_19 rfl rfl rfl ?_
        refine x_gR (b := 5) cK_letOut_33 fK_136 rfl rfl rfl ?_
        refine x_iload_1 cK_letOut_36 ?_
        refine x_s2 (ls0 := [some _, some _]) cK_letOut_37 kK_140 okK_at ⟨(Nat.le_of_ble_eq_true rfl), (Nat.le_of_ble_eq_true rfl)⟩ (Nat.le_of_ble_eq_true rfl) rfl (Nat.le_of_ble_eq_true rfl) rfl rfl (Nat.zero_le _) (Nat.zero_le _) ?_
        refine s_at j rfl ej (by omega) (by decide) ?_
        dsimp only [pushR]
        refine x_iload_2 cK_letOut_40 ?_
        refine x_iadd cK_letOut_41 ?_
        refine x_istore_3 cK_letOut_42 rfl (Nat.le_of_ble_eq_true rfl) ?_
        refine x_iload_3 cK_letOut_43 ?_
        refine x_iconst 1 (by decide) cK_letOut_44 ?_
        refine x_icmp_lt cK_letOut_45 (fun q45 => ?_) (fun q45 => ?_)
        · refine x_bipush (-3) (by decide) cK_letOut_54 ?_
          refine x_ireturn cK_letOut_56 rfl rfl (Nat.zero_le _) (Nat.zero_le _) ?_
          refine hq _ _ _ ⟨fun z => absurd ⟨j, hj, ej⟩ z, ?_⟩
          intro k hk ek
          obtain rfl := nI_one hc5 hj ej hk ek
          exact ⟨fun z => z.elim (fun w => absurd w q14) (fun w => absurd hw w), fun _ => ⟨fun _ => ⟨rfl, rfl, rfl⟩, fun z => absurd z.1 (nle_of q45)⟩⟩
        · refine x_iload_3 cK_letOut_48 ?_
          refine x_bipush 30 (by decide) cK_letOut_49 ?_
          refine x_icmp_le cK_letOut_51 (fun q51 => ?_) (fun q51 => ?_)
          · refine x_aload_0 cK_letOut_57 ?_
            refine x_gR (b := 8) cK_letOut_58 fK_26 rfl rfl rfl ?_
            refine x_aload_0 cK_letOut_61 ?_
            refine x_gR (b := 4) cK_letOut_62 fK_19 rfl rfl rfl ?_
            refine x_v1 (ls0 := [some _, some _]) cK_letOut_65 kK_160 okPast_remember ⟨(Nat.le_of_ble_eq_true rfl), (Nat.le_of_ble_eq_true rfl)⟩ (Nat.le_of_ble_eq_true rfl) rfl (Nat.le_of_ble_eq_true rfl) rfl ⟨_, rfl, rfl⟩ rfl rfl (Nat.zero_le _) (Nat.zero_le _) ?_
            refine s_remember hR hn hn14 hc hc5 (fun hlt I1 hO => ?_) (fun heq I1 hO => ?_)
            · dsimp only [pushR]
              have hM : RmAny I I1 P P c n := Or.inl ⟨hlt, rfl, hO⟩
              refine x_aload_0 cK_letOut_68 ?_
              refine x_gR (b := 4) cK_letOut_69 fK_19 rfl rfl rfl ?_
              refine x_gR (b := 5) cK_letOut_72 fK_136 rfl rfl rfl ?_
              refine x_iload_1 cK_letOut_75 ?_
              refine x_iload_3 cK_letOut_76 ?_
              refine x_s3 (ls0 := [some _, some _, some _]) cK_letOut_77 kK_163 okK_put ⟨(Nat.le_of_ble_eq_true rfl), (Nat.le_of_ble_eq_true rfl)⟩ (Nat.le_of_ble_eq_true rfl) rfl (Nat.le_of_ble_eq_true rfl) rfl rfl (Nat.zero_le _) (Nat.zero_le _) ?_
              refine s_put j rfl ej (by omega) (by decide) ?_
              dsimp only [pushR]
              refine x_iload_3 cK_letOut_80 ?_
              refine x_ireturn cK_letOut_81 rfl rfl (Nat.zero_le _) (Nat.zero_le _) ?_
              refine hq _ _ _ ⟨fun z => absurd ⟨j, hj, ej⟩ z, ?_⟩
              intro k hk ek
              obtain rfl := nI_one hc5 hj ej hk ek
              exact ⟨fun z => z.elim (fun w => absurd w q14) (fun w => absurd hw w), fun _ => ⟨fun z => absurd ⟨lts_of q45, q51⟩ z, fun _ => ⟨rfl, I1, hM, rfl⟩⟩⟩
            · dsimp only [pushR]
              have hM : RmAny I I1 P (rotP P) c n := Or.inr ⟨heq, rfl, hO⟩
              refine x_aload_0 cK_letOut_68 ?_
              refine x_gR (b := 4) cK_letOut_69 fK_19 rfl rfl rfl ?_
              refine x_gR (b := 5) cK_letOut_72 fK_136 rfl rfl rfl ?_
              refine x_iload_1 cK_letOut_75 ?_
              refine x_iload_3 cK_letOut_76 ?_
              refine x_s3 (ls0 := [some _, some _, some _]) cK_letOut_77 kK_163 okK_put ⟨(Nat.le_of_ble_eq_true rfl), (Nat.le_of_ble_eq_true rfl)⟩ (Nat.le_of_ble_eq_true rfl) rfl (Nat.le_of_ble_eq_true rfl) rfl rfl (Nat.zero_le _) (Nat.zero_le _) ?_
              refine s_put j rfl ej (by omega) (by decide) ?_
              dsimp only [pushR]
              refine x_iload_3 cK_letOut_80 ?_
              refine x_ireturn cK_letOut_81 rfl rfl (Nat.zero_le _) (Nat.zero_le _) ?_
              refine hq _ _ _ ⟨fun z => absurd ⟨j, hj, ej⟩ z, ?_⟩
              intro k hk ek
              obtain rfl := nI_one hc5 hj ej hk ek
              exact ⟨fun z => z.elim (fun w => absurd w q14) (fun w => absurd hw w), fun _ => ⟨fun z => absurd ⟨lts_of q45, q51⟩ z, fun _ => ⟨rfl, I1, hM, rfl⟩⟩⟩
          · refine x_bipush (-3) (by decide) cK_letOut_54 ?_
            refine x_ireturn cK_letOut_56 rfl rfl (Nat.zero_le _) (Nat.zero_le _) ?_
            refine hq _ _ _ ⟨fun z => absurd ⟨j, hj, ej⟩ z, ?_⟩
            intro k hk ek
            obtain rfl := nI_one hc5 hj ej hk ek
            exact ⟨fun z => z.elim (fun w => absurd w q14) (fun w => absurd hw w), fun _ => ⟨fun _ => ⟨rfl, rfl, rfl⟩, fun z => absurd z.2 q51⟩⟩
      · dsimp only [pushR]
        refine x_if_ne cK_letOut_23 (fun q => absurd rfl q) (fun _ => ?_)
        refine x_bipush (-2) (by decide) cK_letOut_26 ?_
        refine x_ireturn cK_letOut_28 rfl rfl (Nat.zero_le _) (Nat.zero_le _) ?_
        refine hq _ _ _ ⟨fun z => absurd ⟨j, hj, ej⟩ z, ?_⟩
        intro k hk ek
        obtain rfl := nI_one hc5 hj ej hk ek
        exact ⟨fun _ => ⟨rfl, rfl, rfl⟩, fun z => absurd (Or.inr hw) z⟩
  · dsimp only [pushR]
    refine x_if_ne cK_letOut_8 (fun q => absurd rfl q) (fun _ => ?_)
    refine x_iconst (-1) (by decide) cK_letOut_11 ?_
    refine x_ireturn cK_letOut_12 rfl rfl (Nat.zero_le _) (Nat.zero_le _) ?_
    exact hq _ _ _ ⟨fun _ => ⟨rfl, rfl, rfl⟩, fun j hj e => absurd ⟨j, hj, e⟩ hno⟩
theorem k_set {Po : Option Value → HS → Prop} {I : IT} {J : JT} {P : PT} {c n : Nat} {i d : Int32} (hc : I 4 0 = nI c) (hc5 : c ≤ 5) (hR : RowsOk P) (hn : I 8 1 = nI n) (hn14 : n ≤ 14) (hq : ∀ (r : Int32) (I' : IT) (P' : PT), RSet I I' P P' c n i d r → Po (some (.int r)) (hp I' J P')) : xj yK_set (mG yK_set Po) 0 [some (.ref 1), some (.int i), some (.int d), none] [] (hp I J P) 0 0 := by
  refine x_aload_0 cK_set_0 ?_
  refine x_gR (b := 4) cK_set_1 fK_19 rfl rfl rfl ?_
  refine x_iload_1 cK_set_4 ?_
  refine x_v1 (ls0 := [some _, some _]) cK_set_5 kK_132 okLine_has ⟨(Nat.le_of_ble_eq_true rfl), (Nat.le_of_ble_eq_true rfl)⟩ (Nat.le_of_ble_eq_true rfl) rfl (Nat.le_of_ble_eq_true rfl) rfl ⟨_, rfl, rfl⟩ rfl rfl (Nat.zero_le _) (Nat.zero_le _) ?_
  refine s_has ln_4 hc hc5 (fun j hj ej => ?_) (fun hno => ?_)
  · dsimp only [pushR]
    refine x_if_ne cK_set_8 (fun _ => ?_) (fun q => absurd q (by decide))
    refine x_iload_2 cK_set_13 ?_
    refine x_iconst 2 (by decide) cK_set_14 ?_
    refine x_s2 (ls0 := [some _, some _]) cK_set_15 kK_156 okK_within ⟨(Nat.le_of_ble_eq_true rfl), (Nat.le_of_ble_eq_true rfl)⟩ (Nat.le_of_ble_eq_true rfl) rfl (Nat.le_of_ble_eq_true rfl) rfl rfl (Nat.zero_le _) (Nat.zero_le _) ?_
    refine s_within (fun hw => ?_) (fun hw => ?_)
    · dsimp only [pushR]
      refine x_if_ne cK_set_18 (fun _ => ?_) (fun q => absurd q (by decide))
      refine x_aload_0 cK_set_24 ?_
      refine x_gR (b := 4) cK_set_25 fK_19 rfl rfl rfl ?_
      refine x_gR (b := 6) cK_set_28 fK_144 rfl rfl rfl ?_
      refine x_iload_1 cK_set_31 ?_
      refine x_s2 (ls0 := [some _, some _]) cK_set_32 kK_140 okK_at ⟨(Nat.le_of_ble_eq_true rfl), (Nat.le_of_ble_eq_true rfl)⟩ (Nat.le_of_ble_eq_true rfl) rfl (Nat.le_of_ble_eq_true rfl) rfl rfl (Nat.zero_le _) (Nat.zero_le _) ?_
      refine s_at j rfl ej (by omega) (by decide) ?_
      dsimp only [pushR]
      refine x_istore_3 cK_set_35 rfl (Nat.le_of_ble_eq_true rfl) ?_
      refine x_iload_3 cK_set_36 ?_
      refine x_iload_2 cK_set_37 ?_
      refine x_icmp_ne cK_set_38 (fun q38 => ?_) (fun q38 => ?_)
      · refine x_aload_0 cK_set_44 ?_
        refine x_gR (b := 8) cK_set_45 fK_26 rfl rfl rfl ?_
        refine x_aload_0 cK_set_48 ?_
        refine x_gR (b := 4) cK_set_49 fK_19 rfl rfl rfl ?_
        refine x_v1 (ls0 := [some _, some _]) cK_set_52 kK_160 okPast_remember ⟨(Nat.le_of_ble_eq_true rfl), (Nat.le_of_ble_eq_true rfl)⟩ (Nat.le_of_ble_eq_true rfl) rfl (Nat.le_of_ble_eq_true rfl) rfl ⟨_, rfl, rfl⟩ rfl rfl (Nat.zero_le _) (Nat.zero_le _) ?_
        refine s_remember hR hn hn14 hc hc5 (fun hlt I1 hO => ?_) (fun heq I1 hO => ?_)
        · dsimp only [pushR]
          have hM : RmAny I I1 P P c n := Or.inl ⟨hlt, rfl, hO⟩
          refine x_aload_0 cK_set_55 ?_
          refine x_gR (b := 4) cK_set_56 fK_19 rfl rfl rfl ?_
          refine x_gR (b := 6) cK_set_59 fK_144 rfl rfl rfl ?_
          refine x_iload_1 cK_set_62 ?_
          refine x_iload_2 cK_set_63 ?_
          refine x_s3 (ls0 := [some _, some _, some _]) cK_set_64 kK_163 okK_put ⟨(Nat.le_of_ble_eq_true rfl), (Nat.le_of_ble_eq_true rfl)⟩ (Nat.le_of_ble_eq_true rfl) rfl (Nat.le_of_ble_eq_true rfl) rfl rfl (Nat.zero_le _) (Nat.zero_le _) ?_
          refine s_put j rfl ej (by omega) (by decide) ?_
          dsimp only [pushR]
          refine x_iload_3 cK_set_67 ?_
          refine x_iconst 2 (by decide) cK_set_68 ?_
          refine x_iadd cK_set_69 ?_
          refine x_ireturn cK_set_70 rfl rfl (Nat.zero_le _) (Nat.zero_le _) ?_
          refine hq _ _ _ ⟨fun z => absurd ⟨j, hj, ej⟩ z, ?_⟩
          intro k hk ek
          obtain rfl := nI_one hc5 hj ej hk ek
          exact ⟨fun z => absurd hw z, fun _ => ⟨fun z => absurd z q38, fun _ => ⟨rfl, I1, hM, rfl⟩⟩⟩
        · dsimp only [pushR]
          have hM : RmAny I I1 P (rotP P) c n := Or.inr ⟨heq, rfl, hO⟩
          refine x_aload_0 cK_set_55 ?_
          refine x_gR (b := 4) cK_set_56 fK_19 rfl rfl rfl ?_
          refine x_gR (b := 6) cK_set_59 fK_144 rfl rfl rfl ?_
          refine x_iload_1 cK_set_62 ?_
          refine x_iload_2 cK_set_63 ?_
          refine x_s3 (ls0 := [some _, some _, some _]) cK_set_64 kK_163 okK_put ⟨(Nat.le_of_ble_eq_true rfl), (Nat.le_of_ble_eq_true rfl)⟩ (Nat.le_of_ble_eq_true rfl) rfl (Nat.le_of_ble_eq_true rfl) rfl rfl (Nat.zero_le _) (Nat.zero_le _) ?_
          refine s_put j rfl ej (by omega) (by decide) ?_
          dsimp only [pushR]
          refine x_iload_3 cK_set_67 ?_
          refine x_iconst 2 (by decide) cK_set_68 ?_
          refine x_iadd cK_set_69 ?_
          refine x_ireturn cK_set_70 rfl rfl (Nat.zero_le _) (Nat.zero_le _) ?_
          refine hq _ _ _ ⟨fun z => absurd ⟨j, hj, ej⟩ z, ?_⟩
          intro k hk ek
          obtain rfl := nI_one hc5 hj ej hk ek
          exact ⟨fun z => absurd hw z, fun _ => ⟨fun z => absurd z q38, fun _ => ⟨rfl, I1, hM, rfl⟩⟩⟩
      · refine x_bipush (-3) (by decide) cK_set_41 ?_
        refine x_ireturn cK_set_43 rfl rfl (Nat.zero_le _) (Nat.zero_le _) ?_
        refine hq _ _ _ ⟨fun z => absurd ⟨j, hj, ej⟩ z, ?_⟩
        intro k hk ek
        obtain rfl := nI_one hc5 hj ej hk ek
        exact ⟨fun z => absurd hw z, fun _ => ⟨fun _ => ⟨rfl, rfl, rfl⟩, fun z => absurd q38 z⟩⟩
    · dsimp only [pushR]
      refine x_if_ne cK_set_18 (fun q => absurd rfl q) (fun _ => ?_)
      refine x_bipush (-2) (by decide) cK_set_21 ?_
      refine x_ireturn cK_set_23 rfl rfl (Nat.zero_le _) (Nat.zero_le _) ?_
      refine hq _ _ _ ⟨fun z => absurd ⟨j, hj, ej⟩ z, ?_⟩
      intro k hk ek
      obtain rfl := nI_one hc5 hj ej hk ek
      exact ⟨fun _ => ⟨rfl, rfl, rfl⟩, fun z => absurd z hw⟩
  · dsimp only [pushR]
    refine x_if_ne cK_set_8 (fun q => absurd rfl q) (fun _ => ?_)
    refine x_iconst (-1) (by decide) cK_set_11 ?_
    refine x_ireturn cK_set_12 rfl rfl (Nat.zero_le _) (Nat.zero_le _) ?_
    exact hq _ _ _ ⟨fun _ => ⟨rfl, rfl, rfl⟩, fun j hj e => absurd ⟨j, hj, e⟩ hno⟩
theorem k_cut {Po : Option Value → HS → Prop} {I : IT} {J : JT} {P : PT} {c n : Nat} {i : Int32} (hc : I 4 0 = nI c) (hc5 : c ≤ 5) (hR : RowsOk P) (hn : I 8 1 = nI n) (hn14 : n ≤ 14) (hq : ∀ (r : Int32) (I' : IT) (P' : PT), RCut I I' P P' c n i r → Po (some (.int r)) (hp I' J P')) : xj yK_cut (mG yK_cut Po) 0 [some (.ref 1), some (.int i)] [] (hp I J P) 0 0 := by
  refine x_aload_0 cK_cut_0 ?_
  refine x_gR (b := 4) cK_cut_1 fK_19 rfl rfl rfl ?_
  refine x_iload_1 cK_cut_4 ?_
  refine x_v1 (ls0 := [some _, some _]) cK_cut_5 kK_132 okLine_has ⟨(Nat.le_of_ble_eq_true rfl), (Nat.le_of_ble_eq_true rfl)⟩ (Nat.le_of_ble_eq_true rfl) rfl (Nat.le_of_ble_eq_true rfl) rfl ⟨_, rfl, rfl⟩ rfl rfl (Nat.zero_le _) (Nat.zero_le _) ?_
  refine s_has ln_4 hc hc5 (fun j hj ej => ?_) (fun hno => ?_)
  · dsimp only [pushR]
    refine x_if_ne cK_cut_8 (fun _ => ?_) (fun q => absurd q (by decide))
    refine x_aload_0 cK_cut_13 ?_
    refine x_gR (b := 8) cK_cut_14 fK_26 rfl rfl rfl ?_
    refine x_aload_0 cK_cut_17 ?_
    refine x_gR (b := 4) cK_cut_18 fK_19 rfl rfl rfl ?_
    refine x_v1 (ls0 := [some _, some _]) cK_cut_21 kK_160 okPast_remember ⟨(Nat.le_of_ble_eq_true rfl), (Nat.le_of_ble_eq_true rfl)⟩ (Nat.le_of_ble_eq_true rfl) rfl (Nat.le_of_ble_eq_true rfl) rfl ⟨_, rfl, rfl⟩ rfl rfl (Nat.zero_le _) (Nat.zero_le _) ?_
    refine s_remember hR hn hn14 hc hc5 (fun hlt I1 hO => ?_) (fun heq I1 hO => ?_)
    · dsimp only [pushR]
      have hM : RmAny I I1 P P c n := Or.inl ⟨hlt, rfl, hO⟩
      refine x_aload_0 cK_cut_24 ?_
      refine x_gR (b := 4) cK_cut_25 fK_19 rfl rfl rfl ?_
      refine x_iload_1 cK_cut_28 ?_
      refine x_pI cK_cut_29 fK_106 rfl rfl ?_
      refine x_aload_0 cK_cut_32 ?_
      refine x_gR (b := 4) cK_cut_33 fK_19 rfl rfl rfl ?_
      refine x_gI cK_cut_36 fK_106 rfl rfl ?_
      refine x_ireturn cK_cut_39 rfl rfl (Nat.zero_le _) (Nat.zero_le _) ?_
      rw [u2_ss]
      refine hq _ _ _ ⟨fun z => absurd ⟨j, hj, ej⟩ z, ?_⟩
      intro k hk ek
      obtain rfl := nI_one hc5 hj ej hk ek
      exact ⟨ej, I1, hM, by rw [ej]⟩
    · dsimp only [pushR]
      have hM : RmAny I I1 P (rotP P) c n := Or.inr ⟨heq, rfl, hO⟩
      refine x_aload_0 cK_cut_24 ?_
      refine x_gR (b := 4) cK_cut_25 fK_19 rfl rfl rfl ?_
      refine x_iload_1 cK_cut_28 ?_
      refine x_pI cK_cut_29 fK_106 rfl rfl ?_
      refine x_aload_0 cK_cut_32 ?_
      refine x_gR (b := 4) cK_cut_33 fK_19 rfl rfl rfl ?_
      refine x_gI cK_cut_36 fK_106 rfl rfl ?_
      refine x_ireturn cK_cut_39 rfl rfl (Nat.zero_le _) (Nat.zero_le _) ?_
      rw [u2_ss]
      refine hq _ _ _ ⟨fun z => absurd ⟨j, hj, ej⟩ z, ?_⟩
      intro k hk ek
      obtain rfl := nI_one hc5 hj ej hk ek
      exact ⟨ej, I1, hM, by rw [ej]⟩
  · dsimp only [pushR]
    refine x_if_ne cK_cut_8 (fun q => absurd rfl q) (fun _ => ?_)
    refine x_iconst (-1) (by decide) cK_cut_11 ?_
    refine x_ireturn cK_cut_12 rfl rfl (Nat.zero_le _) (Nat.zero_le _) ?_
    exact hq _ _ _ ⟨fun _ => ⟨rfl, rfl, rfl⟩, fun j hj e => absurd ⟨j, hj, e⟩ hno⟩
theorem k_turn {Po : Option Value → HS → Prop} {I : IT} {J : JT} {P : PT} {c n : Nat} {l h : Int32} (hc : I 4 0 = nI c) (hc5 : c ≤ 5) (hR : RowsOk P) (hn : I 8 1 = nI n) (hn14 : n ≤ 14) (hq : ∀ (r : Int32) (I' : IT) (P' : PT), RTurn I I' P P' c n l h r → Po (some (.int r)) (hp I' J P')) : xj yK_turn (mG yK_turn Po) 0 [some (.ref 1), some (.int l), some (.int h), none] [] (hp I J P) 0 0 := by
  refine x_iload_1 cK_turn_0 ?_
  refine x_iconst 2 (by decide) cK_turn_1 ?_
  refine x_s2 (ls0 := [some _, some _]) cK_turn_2 kK_156 okK_within ⟨(Nat.le_of_ble_eq_true rfl), (Nat.le_of_ble_eq_true rfl)⟩ (Nat.le_of_ble_eq_true rfl) rfl (Nat.le_of_ble_eq_true rfl) rfl rfl (Nat.zero_le _) (Nat.zero_le _) ?_
  refine s_within (fun hw => ?_) (fun hw => ?_)
  · dsimp only [pushR]
    refine x_if_eq cK_turn_5 (fun q => absurd q (by decide)) (fun _ => ?_)
    refine x_iload_2 cK_turn_8 ?_
    refine x_iconst 2 (by decide) cK_turn_9 ?_
    refine x_s2 (ls0 := [some _, some _]) cK_turn_10 kK_156 okK_within ⟨(Nat.le_of_ble_eq_true rfl), (Nat.le_of_ble_eq_true rfl)⟩ (Nat.le_of_ble_eq_true rfl) rfl (Nat.le_of_ble_eq_true rfl) rfl rfl (Nat.zero_le _) (Nat.zero_le _) ?_
    refine s_within (fun hw2 => ?_) (fun hw2 => ?_)
    · dsimp only [pushR]
      refine x_if_ne cK_turn_13 (fun _ => ?_) (fun q => absurd q (by decide))
      refine x_iload_1 cK_turn_19 ?_
      refine x_aload_0 cK_turn_20 ?_
      refine x_gR (b := 4) cK_turn_21 fK_19 rfl rfl rfl ?_
      refine x_gI cK_turn_24 fK_109 rfl rfl ?_
      refine x_icmp_ne cK_turn_27 (fun q27 => ?_) (fun q27 => ?_)
      · refine x_aload_0 cK_turn_44 ?_
        refine x_gR (b := 4) cK_turn_45 fK_19 rfl rfl rfl ?_
        refine x_gI cK_turn_48 fK_109 rfl rfl ?_
        refine x_aload_0 cK_turn_51 ?_
        refine x_gR (b := 4) cK_turn_52 fK_19 rfl rfl rfl ?_
        refine x_gI cK_turn_55 fK_112 rfl rfl ?_
        refine x_s2 (ls0 := [some _, some _]) cK_turn_58 kK_167 okK_toldTogether ⟨(Nat.le_of_ble_eq_true rfl), (Nat.le_of_ble_eq_true rfl)⟩ (Nat.le_of_ble_eq_true rfl) rfl (Nat.le_of_ble_eq_true rfl) rfl rfl (Nat.zero_le _) (Nat.zero_le _) ?_
        refine s_toldTogether ?_
        dsimp only [pushR]
        refine x_istore_3 cK_turn_61 rfl (Nat.le_of_ble_eq_true rfl) ?_
        refine x_aload_0 cK_turn_62 ?_
        refine x_gR (b := 8) cK_turn_63 fK_26 rfl rfl rfl ?_
        refine x_aload_0 cK_turn_66 ?_
        refine x_gR (b := 4) cK_turn_67 fK_19 rfl rfl rfl ?_
        refine x_v1 (ls0 := [some _, some _]) cK_turn_70 kK_160 okPast_remember ⟨(Nat.le_of_ble_eq_true rfl), (Nat.le_of_ble_eq_true rfl)⟩ (Nat.le_of_ble_eq_true rfl) rfl (Nat.le_of_ble_eq_true rfl) rfl ⟨_, rfl, rfl⟩ rfl rfl (Nat.zero_le _) (Nat.zero_le _) ?_
        refine s_remember hR hn hn14 hc hc5 (fun hlt I1 hO => ?_) (fun heq I1 hO => ?_)
        · dsimp only [pushR]
          have hM : RmAny I I1 P P c n := Or.inl ⟨hlt, rfl, hO⟩
          refine x_aload_0 cK_turn_73 ?_
          refine x_gR (b := 4) cK_turn_74 fK_19 rfl rfl rfl ?_
          refine x_iload_1 cK_turn_77 ?_
          refine x_pI cK_turn_78 fK_109 rfl rfl ?_
          refine x_aload_0 cK_turn_81 ?_
          refine x_gR (b := 4) cK_turn_82 fK_19 rfl rfl rfl ?_
          refine x_iload_2 cK_turn_85 ?_
          refine x_pI cK_turn_86 fK_112 rfl rfl ?_
          refine x_iload_3 cK_turn_89 ?_
          refine x_ireturn cK_turn_90 rfl rfl (Nat.zero_le _) (Nat.zero_le _) ?_
          exact hq _ _ _ ⟨fun z => absurd ⟨hw, hw2⟩ z, fun _ => ⟨fun z => absurd z.1 q27, fun _ => ⟨rfl, I1, hM, rfl⟩⟩⟩
        · dsimp only [pushR]
          have hM : RmAny I I1 P (rotP P) c n := Or.inr ⟨heq, rfl, hO⟩
          refine x_aload_0 cK_turn_73 ?_
          refine x_gR (b := 4) cK_turn_74 fK_19 rfl rfl rfl ?_
          refine x_iload_1 cK_turn_77 ?_
          refine x_pI cK_turn_78 fK_109 rfl rfl ?_
          refine x_aload_0 cK_turn_81 ?_
          refine x_gR (b := 4) cK_turn_82 fK_19 rfl rfl rfl ?_
          refine x_iload_2 cK_turn_85 ?_
          refine x_pI cK_turn_86 fK_112 rfl rfl ?_
          refine x_iload_3 cK_turn_89 ?_
          refine x_ireturn cK_turn_90 rfl rfl (Nat.zero_le _) (Nat.zero_le _) ?_
          exact hq _ _ _ ⟨fun z => absurd ⟨hw, hw2⟩ z, fun _ => ⟨fun z => absurd z.1 q27, fun _ => ⟨rfl, I1, hM, rfl⟩⟩⟩
      · refine x_iload_2 cK_turn_30 ?_
        refine x_aload_0 cK_turn_31 ?_
        refine x_gR (b := 4) cK_turn_32 fK_19 rfl rfl rfl ?_
        refine x_gI cK_turn_35 fK_112 rfl rfl ?_
        refine x_icmp_ne cK_turn_38 (fun q38 => ?_) (fun q38 => ?_)
        · refine x_aload_0 cK_turn_44 ?_
          refine x_gR (b := 4) cK_turn_45 fK_19 rfl rfl rfl ?_
          refine x_gI cK_turn_48 fK_109 rfl rfl ?_
          refine x_aload_0 cK_turn_51 ?_
          refine x_gR (b := 4) cK_turn_52 fK_19 rfl rfl rfl ?_
          refine x_gI cK_turn_55 fK_112 rfl rfl ?_
          refine x_s2 (ls0 := [some _, some _]) cK_turn_58 kK_167 okK_toldTogether ⟨(Nat.le_of_ble_eq_true rfl), (Nat.le_of_ble_eq_true rfl)⟩ (Nat.le_of_ble_eq_true rfl) rfl (Nat.le_of_ble_eq_true rfl) rfl rfl (Nat.zero_le _) (Nat.zero_le _) ?_
          refine s_toldTogether ?_
          dsimp only [pushR]
          refine x_istore_3 cK_turn_61 rfl (Nat.le_of_ble_eq_true rfl) ?_
          refine x_aload_0 cK_turn_62 ?_
          refine x_gR (b := 8) cK_turn_63 fK_26 rfl rfl rfl ?_
          refine x_aload_0 cK_turn_66 ?_
          refine x_gR (b := 4) cK_turn_67 fK_19 rfl rfl rfl ?_
          refine x_v1 (ls0 := [some _, some _]) cK_turn_70 kK_160 okPast_remember ⟨(Nat.le_of_ble_eq_true rfl), (Nat.le_of_ble_eq_true rfl)⟩ (Nat.le_of_ble_eq_true rfl) rfl (Nat.le_of_ble_eq_true rfl) rfl ⟨_, rfl, rfl⟩ rfl rfl (Nat.zero_le _) (Nat.zero_le _) ?_
          refine s_remember hR hn hn14 hc hc5 (fun hlt I1 hO => ?_) (fun heq I1 hO => ?_)
          · dsimp only [pushR]
            have hM : RmAny I I1 P P c n := Or.inl ⟨hlt, rfl, hO⟩
            refine x_aload_0 cK_turn_73 ?_
            refine x_gR (b := 4) cK_turn_74 fK_19 rfl rfl rfl ?_
            refine x_iload_1 cK_turn_77 ?_
            refine x_pI cK_turn_78 fK_109 rfl rfl ?_
            refine x_aload_0 cK_turn_81 ?_
            refine x_gR (b := 4) cK_turn_82 fK_19 rfl rfl rfl ?_
            refine x_iload_2 cK_turn_85 ?_
            refine x_pI cK_turn_86 fK_112 rfl rfl ?_
            refine x_iload_3 cK_turn_89 ?_
            refine x_ireturn cK_turn_90 rfl rfl (Nat.zero_le _) (Nat.zero_le _) ?_
            exact hq _ _ _ ⟨fun z => absurd ⟨hw, hw2⟩ z, fun _ => ⟨fun z => absurd z.2 q38, fun _ => ⟨rfl, I1, hM, rfl⟩⟩⟩
          · dsimp only [pushR]
            have hM : RmAny I I1 P (rotP P) c n := Or.inr ⟨heq, rfl, hO⟩
            refine x_aload_0 cK_turn_73 ?_
            refine x_gR (b := 4) cK_turn_74 fK_19 rfl rfl rfl ?_
            refine x_iload_1 cK_turn_77 ?_
            refine x_pI cK_turn_78 fK_109 rfl rfl ?_
            refine x_aload_0 cK_turn_81 ?_
            refine x_gR (b := 4) cK_turn_82 fK_19 rfl rfl rfl ?_
            refine x_iload_2 cK_turn_85 ?_
            refine x_pI cK_turn_86 fK_112 rfl rfl ?_
            refine x_iload_3 cK_turn_89 ?_
            refine x_ireturn cK_turn_90 rfl rfl (Nat.zero_le _) (Nat.zero_le _) ?_
            exact hq _ _ _ ⟨fun z => absurd ⟨hw, hw2⟩ z, fun _ => ⟨fun z => absurd z.2 q38, fun _ => ⟨rfl, I1, hM, rfl⟩⟩⟩
        · refine x_bipush (-3) (by decide) cK_turn_41 ?_
          refine x_ireturn cK_turn_43 rfl rfl (Nat.zero_le _) (Nat.zero_le _) ?_
          exact hq _ _ _ ⟨fun z => absurd ⟨hw, hw2⟩ z, fun _ => ⟨fun _ => ⟨rfl, rfl, rfl⟩, fun z => absurd ⟨q27, q38⟩ z⟩⟩
    · dsimp only [pushR]
      refine x_if_ne cK_turn_13 (fun q => absurd rfl q) (fun _ => ?_)
      refine x_bipush (-2) (by decide) cK_turn_16 ?_
      refine x_ireturn cK_turn_18 rfl rfl (Nat.zero_le _) (Nat.zero_le _) ?_
      exact hq _ _ _ ⟨fun _ => ⟨rfl, rfl, rfl⟩, fun z => absurd z.2 hw2⟩
  · dsimp only [pushR]
    refine x_if_eq cK_turn_5 (fun _ => ?_) (fun q => absurd rfl q)
    refine x_bipush (-2) (by decide) cK_turn_16 ?_
    refine x_ireturn cK_turn_18 rfl rfl (Nat.zero_le _) (Nat.zero_le _) ?_
    exact hq _ _ _ ⟨fun _ => ⟨rfl, rfl, rfl⟩, fun z => absurd z.1 hw⟩
def RUndo (I I' : IT) (P : PT) (n : Nat) (r : Int32) : Prop := (n = 0 → r = -3 ∧ I' = I) ∧ ∀ m, n = m + 1 → r = nI m ∧ ∃ c, c ≤ 5 ∧ I (P 9 m) 0 = nI c ∧ CpOut (u2 I 8 1 (nI m)) I' 4 (P 9 m) c
theorem k_undo {Po : Option Value → HS → Prop} {I : IT} {J : JT} {P : PT} {n : Nat} (hR : RowsOk P) (hn : I 8 1 = nI n) (hn14 : n ≤ 14) (hcs : ∀ j, j < n → ∃ c, c ≤ 5 ∧ I (P 9 j) 0 = nI c) (hq : ∀ (r : Int32) (I' : IT), RUndo I I' P n r → Po (some (.int r)) (hp I' J P)) : xj yK_undo (mG yK_undo Po) 0 [some (.ref 1)] [] (hp I J P) 0 0 := by
  refine x_aload_0 cK_undo_0 ?_
  refine x_gR (b := 8) cK_undo_1 fK_26 rfl rfl rfl ?_
  refine x_gI cK_undo_4 fK_130 rfl rfl ?_
  refine x_if_gt cK_undo_7 (fun q7 => ?_) (fun q7 => ?_)
  · have h0 : 0 < n := by
      rcases Nat.eq_zero_or_pos n with e | e
      · exact absurd q7 (by rw [hn, e]; decide)
      · exact e
    obtain ⟨m, rfl⟩ : ∃ m, n = m + 1 := ⟨n - 1, by omega⟩
    obtain ⟨c, hc5, hc⟩ := hcs m (by omega)
    refine x_aload_0 cK_undo_13 ?_
    refine x_gR (b := 8) cK_undo_14 fK_26 rfl rfl rfl ?_
    refine x_aload_0 cK_undo_17 ?_
    refine x_gR (b := 4) cK_undo_18 fK_19 rfl rfl rfl ?_
    refine x_v1 (ls0 := [some _, some _, none]) cK_undo_21 kK_171 okPast_giveBack ⟨(Nat.le_of_ble_eq_true rfl), (Nat.le_of_ble_eq_true rfl)⟩ (Nat.le_of_ble_eq_true rfl) rfl (Nat.le_of_ble_eq_true rfl) rfl ⟨_, rfl, rfl⟩ rfl rfl (Nat.zero_le _) (Nat.zero_le _) ?_
    refine s_giveBack hR hn (by omega) hc hc5 (fun I1 hC => ?_)
    dsimp only [pushR]
    refine x_aload_0 cK_undo_24 ?_
    refine x_gR (b := 8) cK_undo_25 fK_26 rfl rfl rfl ?_
    refine x_gI cK_undo_28 fK_130 rfl rfl ?_
    refine x_ireturn cK_undo_31 rfl rfl (Nat.zero_le _) (Nat.zero_le _) ?_
    refine hq _ _ ⟨fun z => absurd z (by omega), fun m' e => ?_⟩
    obtain rfl : m' = m := by omega
    refine ⟨?_, c, hc5, hc, hC⟩
    rw [hC.1 8 (by decide) (by decide) (by decide) (by decide), u2_ss]
  · have h0 : n = 0 := by
      rcases Nat.eq_zero_or_pos n with e | e
      · exact e
      · exact absurd (by rw [hn]; exact nI_lt (a := 0) e (by omega)) q7
    refine x_bipush (-3) (by decide) cK_undo_10 ?_
    refine x_ireturn cK_undo_12 rfl rfl (Nat.zero_le _) (Nat.zero_le _) ?_
    exact hq _ _ ⟨fun _ => ⟨rfl, rfl⟩, fun m e => absurd (h0.symm.trans e) (by omega)⟩
