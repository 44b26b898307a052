theorem x_v6 {y y' : YI} {G : GT} {pc nx : Nat} {ls ls0 : List (Option Value)} {st : List Value} {ix : Nat} {I : IT} {J : JT} {P : PT} {k n : Nat} {c b : Nat} {v0 v1 v2 v3 v4 v5 : Value} (d : Dc y pc (.invokevirtual ix) 3 nx) (cf : CV (yN y).cls ix y') (ok : YOK y' 6) (rm : rmOk y y') (hlen : (entl (.ref b :: [v0, v1, v2, v3, v4, v5])).length ≤ yL y') (he : ent0 y' (.ref b :: [v0, v1, v2, v3, v4, v5]) = ls0) (hst : (st.map fun v => v.category).sum ≤ 8) (hs : shp b = (0, c)) (hcc : ∃ r, kcl[c]? = some r ∧ r.1 = (yN y').cls) (hz : (yR y').cells = 0) (hz2 : (yR y').slots = 0) (hk2 : k ≤ (yR y).cells) (hn2 : n ≤ (yR y).slots) (K : xj y' (mG y' (fun r h' => xj y G nx ls (pushR r st) h' k n)) 0 ls0 [] (hp I J P) 0 0) : xj y G pc ls (v5 :: v4 :: v3 :: v2 :: v1 :: v0 :: .ref b :: st) (hp I J P) k n :=
  x_callV (As := [v0, v1, v2, v3, v4, v5]) d cf ok rm rfl hlen he hst (shp_in hs (by decide)).1 (shp_in hs (by decide)).2 (mkc_0 hs) hcc (by rw [hz]; rfl) (by rw [hz2]; rfl) hk2 hn2 K
/-- the two parts of a rest: no other bridle of the one, of the other, is nearer -/
def NN (D : LD) (i j : Nat) (p q : Int32) (a b k : Nat) : Prop := ¬ dsI (B0 D i j (lw k) (lw b)) i p < dsI (B0 D i j (lw a) (lw b)) i p ∧ ¬ dsI (B0 D i j (lw a) (lw k)) j q < dsI (B0 D i j (lw a) (lw b)) j q
theorem nn_ok {D : LD} {i j : Nat} {p q : Int32} {a b : Nat} (hij : i ≠ j) (hb : b < 5) : okRs D i j p q (5 * a + b) ↔ ∀ k, k < 5 → NN D i j p q a b k := by
  unfold okRs Near NN B0
  rw [show (5 * a + b) / 5 = a by omega, show (5 * a + b) % 5 = b by omega]
  have e1 : ∀ k, upd (upd (upd (dB D) i (lw a)) j (lw b)) i (lw k) = upd (upd (dB D) i (lw k)) j (lw b) := fun k => by
    rw [upd_cm (dB D) hij, upd_upd, upd_cm (dB D) hij]
  have e2 : ∀ k, upd (upd (upd (dB D) i (lw a)) j (lw b)) j (lw k) = upd (upd (dB D) i (lw a)) j (lw k) := fun k => upd_upd _ _ _ _
  constructor
  · intro ⟨h1, h2⟩ k hk
    have g1 := h1 k hk
    have g2 := h2 k hk
    rw [e1] at g1
    rw [e2] at g2
    exact ⟨g1, g2⟩
  · intro h
    exact ⟨fun k hk => by rw [e1]; exact (h k hk).1, fun k hk => by rw [e2]; exact (h k hk).2⟩
/-- the model's two cells of the rests beside what the class counts -/
def TMm (n f many first : Int32) (t : Nat) : Prop := many = n ∧ first = f ∧ ∃ K, K ≤ t ∧ n = nI K
theorem s_mrests_in {I : IT} {J : JT} {P : PT} {G : GT} {c i j a b : Nat} {p q : Int32} (hc : I 96 0 = nI c) (hc5 : c ≤ 5) (hi : i < c) (hj : j < c) (hij : i ≠ j) (hG : ∀ a b, a < 5 → b < 5 → Rg (B0 (mdD I 96 92) i j (lw a) (lw b)) c) (hx : ∀ a b, a < 5 → b < 5 → farI (fP (B0 (mdD I 96 92) i j (lw a) (lw b)) (i + 1)) p = dsI (B0 (mdD I 96 92) i j (lw a) (lw b)) i p ∧ farI (fP (B0 (mdD I 96 92) i j (lw a) (lw b)) (j + 1)) q = dsI (B0 (mdD I 96 92) i j (lw a) (lw b)) j q) (ha : a < 5) (hb : b < 5) {I0 : IT} (K : ∀ I' v g, SameM I I' → I' 90 35 = I0 90 35 → I' 90 36 = I0 90 36 → ((v = 1 ∧ (∀ m, m < 5 → NN (mdD I 96 92) i j p q a b m)) ∨ (v = 0 ∧ ¬ (∀ m, m < 5 → NN (mdD I 96 92) i j p q a b m))) → xj yM_findRests G 126 [some (.ref 90), some (.int (nI i)), some (.int (nI j)), some (.int p), some (.int q), some (.int (lw a)), some (.int (lw b)), some (.int (dsI (B0 (mdD I 96 92) i j (lw a) (lw b)) i p)), some (.int (dsI (B0 (mdD I 96 92) i j (lw a) (lw b)) j q)), some (.int v), some (.int g)] [] (hp I' J P) 0 0) : ∀ n k, k + n = 5 → ∀ I' v, SameM I I' → I' 90 35 = I0 90 35 → I' 90 36 = I0 90 36 → ((v = 1 ∧ (∀ m, m < k → NN (mdD I 96 92) i j p q a b m)) ∨ (v = 0 ∧ ¬ (∀ m, m < 5 → NN (mdD I 96 92) i j p q a b m))) → xj yM_findRests G 67 [some (.ref 90), some (.int (nI i)), some (.int (nI j)), some (.int p), some (.int q), some (.int (lw a)), some (.int (lw b)), some (.int (dsI (B0 (mdD I 96 92) i j (lw a) (lw b)) i p)), some (.int (dsI (B0 (mdD I 96 92) i j (lw a) (lw b)) j q)), some (.int v), some (.int (lw k))] [] (hp I' J P) 0 0 := by
  intro n
  induction n with
  | zero =>
    intro k hk I' v hS m1 m2 hv
    obtain rfl : k = 5 := by omega
    refine x_iload_10 cM_findRests_67 ?_
    refine x_iconst 2 (by decide) cM_findRests_69 ?_
    refine x_icmp_gt cM_findRests_70 (fun q70 => ?_) (fun q70 => absurd q70 (fun z => z ((lw_gt 5 (by decide)).mpr rfl)))
    exact K I' v _ hS m1 m2 hv
  | succ n ih =>
    intro k hk I' v hS m1 m2 hv
    have hk5 : k < 5 := by omega
    refine x_iload_10 cM_findRests_67 ?_
    refine x_iconst 2 (by decide) cM_findRests_69 ?_
    refine x_icmp_gt cM_findRests_70 (fun q70 => absurd q70 (fun z => absurd ((lw_gt k (by omega)).mp z) (by omega))) (fun q70 => ?_)
    refine x_iload_9 cM_findRests_73 ?_
    refine x_if_eq cM_findRests_75 (fun q75 => ?_) (fun q75 => ?_)
    · refine x_iconst 0 (by decide) cM_findRests_117 ?_
      refine x_istore_9 cM_findRests_118 rfl (Nat.le_of_ble_eq_true rfl) ?_
      refine x_iinc_10 (lw (k + 1)) cM_findRests_120 rfl (lw_inc k) (Nat.le_of_ble_eq_true rfl) ?_
      refine x_goto cM_findRests_123 ?_
      exact ih (k + 1) (by omega) I' 0 hS m1 m2 (Or.inr ⟨rfl, hv.elim (fun z => absurd (z.1.symm.trans (by simpa using q75)) (by decide)) (fun z => z.2)⟩)
    · have hv1 := hv.resolve_right (fun z => q75 z.1)
      refine x_aload_0 cM_findRests_78 ?_
      refine x_iload_1 cM_findRests_79 ?_
      refine x_iload_10 cM_findRests_80 ?_
      refine x_iload_2 cM_findRests_82 ?_
      refine x_iload_6 cM_findRests_83 ?_
      refine x_iconst 1 (by decide) cM_findRests_85 ?_
      refine x_iload_3 cM_findRests_86 ?_
      refine x_v6 (ls0 := [some _, some _, some _, some _, some _, some _, some _]) cM_findRests_87 kM_230 okM_farBy ⟨(Nat.le_of_ble_eq_true rfl), (Nat.le_of_ble_eq_true rfl)⟩ (Nat.le_of_ble_eq_true rfl) rfl (Nat.le_of_ble_eq_true rfl) rfl ⟨_, rfl, rfl⟩ rfl rfl (Nat.zero_le _) (Nat.zero_le _) ?_
      refine s_farBy (c := c) (i := i) (j := j) (kk := i) (a := lw k) (b := lw b) (by rw [hS.1 96 (by omega)]; exact hc) hc5 hi hj hij (by rw [hS.md]; exact hG _ _ (by omega) (by omega)) (Or.inl ⟨by decide, rfl⟩) (by rw [hS.md]; exact (hx _ _ (by omega) (by omega)).1) (fun I1 hS1 hK1 => ?_)
      have hT1 : SameM I I1 := hS.tr hS1
      rw [hS.md]
      dsimp only [pushR]
      refine x_iload_7 cM_findRests_90 ?_
      refine x_icmp_lt cM_findRests_92 (fun q92 => ?_) (fun q92 => ?_)
      · refine x_iconst 0 (by decide) cM_findRests_117 ?_
        refine x_istore_9 cM_findRests_118 rfl (Nat.le_of_ble_eq_true rfl) ?_
        refine x_iinc_10 (lw (k + 1)) cM_findRests_120 rfl (lw_inc k) (Nat.le_of_ble_eq_true rfl) ?_
        refine x_goto cM_findRests_123 ?_
        exact ih (k + 1) (by omega) I1 0 hT1 (by rw [hK1 35 (by decide)]; exact m1) (by rw [hK1 36 (by decide)]; exact m2) (Or.inr ⟨rfl, fun z => (z k hk5).1 q92⟩)
      · refine x_aload_0 cM_findRests_95 ?_
        refine x_iload_1 cM_findRests_96 ?_
        refine x_iload_5 cM_findRests_97 ?_
        refine x_iload_2 cM_findRests_99 ?_
        refine x_iload_10 cM_findRests_100 ?_
        refine x_iconst 0 (by decide) cM_findRests_102 ?_
        refine x_iload_4 cM_findRests_103 ?_
        refine x_v6 (ls0 := [some _, some _, some _, some _, some _, some _, some _]) cM_findRests_105 kM_230 okM_farBy ⟨(Nat.le_of_ble_eq_true rfl), (Nat.le_of_ble_eq_true rfl)⟩ (Nat.le_of_ble_eq_true rfl) rfl (Nat.le_of_ble_eq_true rfl) rfl ⟨_, rfl, rfl⟩ rfl rfl (Nat.zero_le _) (Nat.zero_le _) ?_
        refine s_farBy (c := c) (i := i) (j := j) (kk := j) (a := lw a) (b := lw k) (by rw [hT1.1 96 (by omega)]; exact hc) hc5 hi hj hij (by rw [hT1.md]; exact hG _ _ (by omega) (by omega)) (Or.inr ⟨rfl, rfl⟩) (by rw [hT1.md]; exact (hx _ _ (by omega) (by omega)).2) (fun I2 hS2 hK2 => ?_)
        have hT2 : SameM I I2 := hT1.tr hS2
        rw [hT1.md]
        dsimp only [pushR]
        refine x_iload_8 cM_findRests_108 ?_
        refine x_icmp_lt cM_findRests_110 (fun q110 => ?_) (fun q110 => ?_)
        · refine x_iconst 0 (by decide) cM_findRests_117 ?_
          refine x_istore_9 cM_findRests_118 rfl (Nat.le_of_ble_eq_true rfl) ?_
          refine x_iinc_10 (lw (k + 1)) cM_findRests_120 rfl (lw_inc k) (Nat.le_of_ble_eq_true rfl) ?_
          refine x_goto cM_findRests_123 ?_
          exact ih (k + 1) (by omega) I2 0 hT2 (by rw [hK2 35 (by decide), hK1 35 (by decide)]; exact m1) (by rw [hK2 36 (by decide), hK1 36 (by decide)]; exact m2) (Or.inr ⟨rfl, fun z => (z k hk5).2 q110⟩)
        · refine x_iconst 1 (by decide) cM_findRests_113 ?_
          refine x_goto cM_findRests_114 ?_
          refine x_istore_9 cM_findRests_118 rfl (Nat.le_of_ble_eq_true rfl) ?_
          refine x_iinc_10 (lw (k + 1)) cM_findRests_120 rfl (lw_inc k) (Nat.le_of_ble_eq_true rfl) ?_
          refine x_goto cM_findRests_123 ?_
          exact ih (k + 1) (by omega) I2 1 hT2 (by rw [hK2 35 (by decide), hK1 35 (by decide)]; exact m1) (by rw [hK2 36 (by decide), hK1 36 (by decide)]; exact m2) (Or.inl ⟨rfl, fun m hm => by
            rcases Nat.lt_or_ge m k with z | z
            · exact hv1.2 m z
            · obtain rfl : m = k := by omega
              exact ⟨q92, q110⟩⟩)
theorem s_mrests_b {I : IT} {J : JT} {P : PT} {G : GT} {c i j a : Nat} {p q : Int32} (hc : I 96 0 = nI c) (hc5 : c ≤ 5) (hi : i < c) (hj : j < c) (hij : i ≠ j) (hG : ∀ a b, a < 5 → b < 5 → Rg (B0 (mdD I 96 92) i j (lw a) (lw b)) c) (hx : ∀ a b, a < 5 → b < 5 → farI (fP (B0 (mdD I 96 92) i j (lw a) (lw b)) (i + 1)) p = dsI (B0 (mdD I 96 92) i j (lw a) (lw b)) i p ∧ farI (fP (B0 (mdD I 96 92) i j (lw a) (lw b)) (j + 1)) q = dsI (B0 (mdD I 96 92) i j (lw a) (lw b)) j q) (ha : a < 5) (K : ∀ I' g7 g8 g9 g10, SameM I I' → (∃ n f, Tl (okRs (mdD I 96 92) i j p q) (5 * a + 5) n f ∧ TMm n f (I' 90 35) (I' 90 36) (5 * a + 5)) → isC2 g7 = false → isC2 g8 = false → isC2 g9 = false → xj yM_findRests G 186 [some (.ref 90), some (.int (nI i)), some (.int (nI j)), some (.int p), some (.int q), some (.int (lw a)), some (.int (lw 5)), g7, g8, g9, g10] [] (hp I' J P) 0 0) : ∀ n b, b + n = 5 → ∀ I', SameM I I' → (∃ n f, Tl (okRs (mdD I 96 92) i j p q) (5 * a + b) n f ∧ TMm n f (I' 90 35) (I' 90 36) (5 * a + b)) → ∀ g7 g8 g9 g10, isC2 g7 = false → isC2 g8 = false → isC2 g9 = false → xj yM_findRests G 25 [some (.ref 90), some (.int (nI i)), some (.int (nI j)), some (.int p), some (.int q), some (.int (lw a)), some (.int (lw b)), g7, g8, g9, g10] [] (hp I' J P) 0 0 := by
  intro n
  induction n with
  | zero =>
    intro b hb I' hS hI g7 g8 g9 g10 h7 h8 h9
    obtain rfl : b = 5 := by omega
    refine x_iload_6 cM_findRests_25 ?_
    refine x_iconst 2 (by decide) cM_findRests_27 ?_
    refine x_icmp_gt cM_findRests_28 (fun q28 => ?_) (fun q28 => absurd q28 (fun z => z ((lw_gt 5 (by decide)).mpr rfl)))
    exact K I' _ _ _ _ hS hI h7 h8 h9
  | succ n ih =>
    intro b hb I' hS ⟨n0, f0, hTl, hTM⟩ g7 g8 g9 g10 h7 h8 h9
    have hb5 : b < 5 := by omega
    refine x_iload_6 cM_findRests_25 ?_
    refine x_iconst 2 (by decide) cM_findRests_27 ?_
    refine x_icmp_gt cM_findRests_28 (fun q28 => absurd q28 (fun z => absurd ((lw_gt b (by omega)).mp z) (by omega))) (fun q28 => ?_)
    refine x_aload_0 cM_findRests_31 ?_
    refine x_iload_1 cM_findRests_32 ?_
    refine x_iload_5 cM_findRests_33 ?_
    refine x_iload_2 cM_findRests_35 ?_
    refine x_iload_6 cM_findRests_36 ?_
    refine x_iconst 1 (by decide) cM_findRests_38 ?_
    refine x_iload_3 cM_findRests_39 ?_
    refine x_v6 (ls0 := [some _, some _, some _, some _, some _, some _, some _]) cM_findRests_40 kM_230 okM_farBy ⟨(Nat.le_of_ble_eq_true rfl), (Nat.le_of_ble_eq_true rfl)⟩ (Nat.le_of_ble_eq_true rfl) rfl (Nat.le_of_ble_eq_true rfl) rfl ⟨_, rfl, rfl⟩ rfl rfl (Nat.zero_le _) (Nat.zero_le _) ?_
    refine s_farBy (c := c) (i := i) (j := j) (kk := i) (a := lw a) (b := lw b) (by rw [hS.1 96 (by omega)]; exact hc) hc5 hi hj hij (by rw [hS.md]; exact hG _ _ (by omega) (by omega)) (Or.inl ⟨by decide, rfl⟩) (by rw [hS.md]; exact (hx _ _ (by omega) (by omega)).1) (fun I1 hS1 hK1 => ?_)
    have hT1 : SameM I I1 := hS.tr hS1
    rw [hS.md]
    dsimp only [pushR]
    refine x_istore_7 cM_findRests_43 rfl (Nat.le_of_ble_eq_true rfl) ?_
    refine x_aload_0 cM_findRests_45 ?_
    refine x_iload_1 cM_findRests_46 ?_
    refine x_iload_5 cM_findRests_47 ?_
    refine x_iload_2 cM_findRests_49 ?_
    refine x_iload_6 cM_findRests_50 ?_
    refine x_iconst 0 (by decide) cM_findRests_52 ?_
    refine x_iload_4 cM_findRests_53 ?_
    refine x_v6 (ls0 := [some _, some _, some _, some _, some _, some _, some _]) cM_findRests_55 kM_230 okM_farBy ⟨(Nat.le_of_ble_eq_true rfl), (Nat.le_of_ble_eq_true rfl)⟩ (Nat.le_of_ble_eq_true rfl) rfl (Nat.le_of_ble_eq_true rfl) rfl ⟨_, rfl, rfl⟩ rfl rfl (Nat.zero_le _) (Nat.zero_le _) ?_
    refine s_farBy (c := c) (i := i) (j := j) (kk := j) (a := lw a) (b := lw b) (by rw [hT1.1 96 (by omega)]; exact hc) hc5 hi hj hij (by rw [hT1.md]; exact hG _ _ (by omega) (by omega)) (Or.inr ⟨rfl, rfl⟩) (by rw [hT1.md]; exact (hx _ _ (by omega) (by omega)).2) (fun I2 hS2 hK2 => ?_)
    have hT2 : SameM I I2 := hT1.tr hS2
    rw [hT1.md]
    dsimp only [pushR]
    refine x_istore_8 cM_findRests_58 rfl (Nat.le_of_ble_eq_true rfl) ?_
    refine x_iconst 1 (by decide) cM_findRests_60 ?_
    refine x_istore_9 cM_findRests_61 rfl (Nat.le_of_ble_eq_true rfl) ?_
    refine x_bipush (-2) (by decide) cM_findRests_63 ?_
    refine x_top (lw 0) (by decide) ?_
    refine x_istore_10 cM_findRests_65 rfl (Nat.le_of_ble_eq_true rfl) ?_
    refine s_mrests_in (I := I) (I0 := I2) hc hc5 hi hj hij hG hx ha hb5 (fun I3 v g hS3 w1 w2 hv => ?_) 5 0 (by decide) I2 1 hT2 rfl rfl (Or.inl ⟨rfl, fun m hm => absurd hm (Nat.not_lt_zero m)⟩)
    have k35 : I3 90 35 = n0 := by rw [w1, hK2 35 (by decide), hK1 35 (by decide)]; exact hTM.1
    have k36 : I3 90 36 = f0 := by rw [w2, hK2 36 (by decide), hK1 36 (by decide)]; exact hTM.2.1
    obtain ⟨-, -, Kn, hKt, hn⟩ := hTM
    rw [← nn_ok hij hb5] at hv
    rcases hv with ⟨rfl, hok⟩ | ⟨rfl, hno⟩
    · refine x_aload_0 cM_findRests_126 ?_
      refine x_iload_9 cM_findRests_127 ?_
      refine x_if_eq cM_findRests_129 (fun q129 => absurd q129 (by decide)) (fun q129 => ?_)
      refine x_aload_0 cM_findRests_132 ?_
      refine x_gI cM_findRests_133 fM_224 rfl rfl ?_
      refine x_if_ne cM_findRests_136 (fun q136 => ?_) (fun q136 => ?_)
      · have n0n : ¬ n0 = 0 := fun z => q136 (by rw [k35]; exact z)
        refine x_aload_0 cM_findRests_154 ?_
        refine x_gI cM_findRests_155 fM_227 rfl rfl ?_
        refine x_top f0 k36 ?_
        refine x_pI cM_findRests_158 fM_227 rfl rfl ?_
        refine x_aload_0 cM_findRests_161 ?_
        refine x_dup rfl cM_findRests_162 ?_
        refine x_gI cM_findRests_163 fM_224 rfl rfl ?_
        refine x_iload_9 cM_findRests_166 ?_
        refine x_if_eq cM_findRests_168 (fun q168 => absurd q168 (by decide)) (fun q168 => ?_)
        refine x_iconst 1 (by decide) cM_findRests_171 ?_
        refine x_goto cM_findRests_172 ?_
        refine x_iadd cM_findRests_176 ?_
        refine x_pI cM_findRests_177 fM_224 rfl rfl ?_
        refine x_iinc_6 (lw (b + 1)) cM_findRests_180 rfl (lw_inc b) (Nat.le_of_ble_eq_true rfl) ?_
        refine x_goto cM_findRests_183 ?_
        refine ih (b + 1) (by omega) _ (hS3.tr ⟨fun x hx => by rw [u2_n (by omega), u2_n (by omega)], fun j hj => by rw [u2_sn (by omega), u2_sn (by omega)]⟩) ⟨n0 + 1, f0, ⟨n0, f0, hTl, fun _ => ⟨rfl, by rw [if_neg n0n]⟩, fun z => absurd hok z⟩, by rw [u2_ss, u2_sn (by decide), k35], by rw [u2_sn (by decide), u2_ss], Kn + 1, by omega, by rw [hn, nI_1]⟩ _ _ _ _ rfl rfl rfl
      · have n0z : n0 = 0 := by rw [← k35]; simpa using q136
        refine x_bipush 10 (by decide) cM_findRests_139 ?_
        refine x_iload_5 cM_findRests_141 ?_
        refine x_iconst 2 (by decide) cM_findRests_143 ?_
        refine x_iadd cM_findRests_144 ?_
        refine x_imul cM_findRests_145 ?_
        refine x_iload_6 cM_findRests_146 ?_
        refine x_iadd cM_findRests_148 ?_
        refine x_iconst 2 (by decide) cM_findRests_149 ?_
        refine x_iadd cM_findRests_150 ?_
        refine x_top (nI (10 * a + b)) (lw_told a ha b hb5) ?_
        refine x_goto cM_findRests_151 ?_
        refine x_pI cM_findRests_158 fM_227 rfl rfl ?_
        refine x_aload_0 cM_findRests_161 ?_
        refine x_dup rfl cM_findRests_162 ?_
        refine x_gI cM_findRests_163 fM_224 rfl rfl ?_
        refine x_iload_9 cM_findRests_166 ?_
        refine x_if_eq cM_findRests_168 (fun q168 => absurd q168 (by decide)) (fun q168 => ?_)
        refine x_iconst 1 (by decide) cM_findRests_171 ?_
        refine x_goto cM_findRests_172 ?_
        refine x_iadd cM_findRests_176 ?_
        refine x_pI cM_findRests_177 fM_224 rfl rfl ?_
        refine x_iinc_6 (lw (b + 1)) cM_findRests_180 rfl (lw_inc b) (Nat.le_of_ble_eq_true rfl) ?_
        refine x_goto cM_findRests_183 ?_
        refine ih (b + 1) (by omega) _ (hS3.tr ⟨fun x hx => by rw [u2_n (by omega), u2_n (by omega)], fun j hj => by rw [u2_sn (by omega), u2_sn (by omega)]⟩) ⟨n0 + 1, nI (10 * a + b), ⟨n0, f0, hTl, fun _ => ⟨rfl, by rw [if_pos n0z]; show nI (10 * a + b) = nI (10 * ((5 * a + b) / 5) + (5 * a + b) % 5); rw [show (5 * a + b) / 5 = a by omega, show (5 * a + b) % 5 = b by omega]⟩, fun z => absurd hok z⟩, by rw [u2_ss, u2_sn (by decide), k35], by rw [u2_sn (by decide), u2_ss], Kn + 1, by omega, by rw [hn, nI_1]⟩ _ _ _ _ rfl rfl rfl
    · refine x_aload_0 cM_findRests_126 ?_
      refine x_iload_9 cM_findRests_127 ?_
      refine x_if_eq cM_findRests_129 (fun q129 => ?_) (fun q129 => absurd q129 (fun z => z rfl))
      refine x_aload_0 cM_findRests_154 ?_
      refine x_gI cM_findRests_155 fM_227 rfl rfl ?_
      refine x_top f0 k36 ?_
      refine x_pI cM_findRests_158 fM_227 rfl rfl ?_
      refine x_aload_0 cM_findRests_161 ?_
      refine x_dup rfl cM_findRests_162 ?_
      refine x_gI cM_findRests_163 fM_224 rfl rfl ?_
      refine x_iload_9 cM_findRests_166 ?_
      refine x_if_eq cM_findRests_168 (fun q168 => ?_) (fun q168 => absurd q168 (fun z => z rfl))
      refine x_iconst 0 (by decide) cM_findRests_175 ?_
      refine x_iadd cM_findRests_176 ?_
      refine x_top n0 (by rw [u2_sn (by decide), k35]; exact Int32.add_zero _) ?_
      refine x_pI cM_findRests_177 fM_224 rfl rfl ?_
      refine x_iinc_6 (lw (b + 1)) cM_findRests_180 rfl (lw_inc b) (Nat.le_of_ble_eq_true rfl) ?_
      refine x_goto cM_findRests_183 ?_
      refine ih (b + 1) (by omega) _ (hS3.tr ⟨fun x hx => by rw [u2_n (by omega), u2_n (by omega)], fun j hj => by rw [u2_sn (by omega), u2_sn (by omega)]⟩) ⟨n0, f0, ⟨n0, f0, hTl, fun z => absurd z hno, fun _ => ⟨rfl, rfl⟩⟩, by rw [u2_ss], by rw [u2_sn (by decide), u2_ss], Kn, by omega, hn⟩ _ _ _ _ rfl rfl rfl
theorem s_mrests_a {Po : Option Value → HS → Prop} {I : IT} {J : JT} {P : PT} {c i j : Nat} {p q : Int32} (hc : I 96 0 = nI c) (hc5 : c ≤ 5) (hi : i < c) (hj : j < c) (hij : i ≠ j) (hG : ∀ a b, a < 5 → b < 5 → Rg (B0 (mdD I 96 92) i j (lw a) (lw b)) c) (hx : ∀ a b, a < 5 → b < 5 → farI (fP (B0 (mdD I 96 92) i j (lw a) (lw b)) (i + 1)) p = dsI (B0 (mdD I 96 92) i j (lw a) (lw b)) i p ∧ farI (fP (B0 (mdD I 96 92) i j (lw a) (lw b)) (j + 1)) q = dsI (B0 (mdD I 96 92) i j (lw a) (lw b)) j q) (hq : ∀ I' n f, SameM I I' → Tl (okRs (mdD I 96 92) i j p q) 25 n f → I' 90 35 = n → I' 90 36 = f → Po none (hp I' J P)) : ∀ n a, a + n = 5 → ∀ I', SameM I I' → (∃ n f, Tl (okRs (mdD I 96 92) i j p q) (5 * a) n f ∧ TMm n f (I' 90 35) (I' 90 36) (5 * a)) → ∀ g6 g7 g8 g9 g10, isC2 g6 = false → isC2 g7 = false → isC2 g8 = false → isC2 g9 = false → xj yM_findRests (mG yM_findRests Po) 15 [some (.ref 90), some (.int (nI i)), some (.int (nI j)), some (.int p), some (.int q), some (.int (lw a)), g6, g7, g8, g9, g10] [] (hp I' J P) 0 0 := by
  intro n
  induction n with
  | zero =>
    intro a ha I' hS ⟨n, f, hT, hM⟩ g6 g7 g8 g9 g10 _ _ _ _
    obtain rfl : a = 5 := by omega
    refine x_iload_5 cM_findRests_15 ?_
    refine x_iconst 2 (by decide) cM_findRests_17 ?_
    refine x_icmp_gt cM_findRests_18 (fun q18 => ?_) (fun q18 => absurd q18 (fun z => z ((lw_gt 5 (by decide)).mpr rfl)))
    refine x_return cM_findRests_192 rfl (Nat.zero_le _) (Nat.zero_le _) ?_
    exact hq I' n f hS hT hM.1 hM.2.1
  | succ n ih =>
    intro a ha I' hS hI g6 g7 g8 g9 g10 h6 h7 h8 h9
    have ha5 : a < 5 := by omega
    refine x_iload_5 cM_findRests_15 ?_
    refine x_iconst 2 (by decide) cM_findRests_17 ?_
    refine x_icmp_gt cM_findRests_18 (fun q18 => absurd q18 (fun z => absurd ((lw_gt a (by omega)).mp z) (by omega))) (fun q18 => ?_)
    refine x_bipush (-2) (by decide) cM_findRests_21 ?_
    refine x_top (lw 0) (by decide) ?_
    refine x_istore_6 cM_findRests_23 rfl (Nat.le_of_ble_eq_true rfl) ?_
    refine s_mrests_b (I := I) hc hc5 hi hj hij hG hx ha5 (fun I2 x7 x8 x9 x10 hS2 hI2 y7 y8 y9 => ?_) 5 0 (by decide) I' hS hI _ _ _ _ h7 h8 h9
    refine x_iinc_5 (lw (a + 1)) cM_findRests_186 rfl (lw_inc a) (Nat.le_of_ble_eq_true rfl) ?_
    refine x_goto cM_findRests_189 ?_
    exact ih (a + 1) (by omega) I2 hS2 hI2 _ _ _ _ _ rfl y7 y8 y9
theorem s_findRests {Po : Option Value → HS → Prop} {I : IT} {J : JT} {P : PT} {c i j : Nat} {p q : Int32} (hc : I 96 0 = nI c) (hc5 : c ≤ 5) (hi : i < c) (hj : j < c) (hij : i ≠ j) (hG : ∀ a b, a < 5 → b < 5 → Rg (B0 (mdD I 96 92) i j (lw a) (lw b)) c) (hx : ∀ a b, a < 5 → b < 5 → farI (fP (B0 (mdD I 96 92) i j (lw a) (lw b)) (i + 1)) p = dsI (B0 (mdD I 96 92) i j (lw a) (lw b)) i p ∧ farI (fP (B0 (mdD I 96 92) i j (lw a) (lw b)) (j + 1)) q = dsI (B0 (mdD I 96 92) i j (lw a) (lw b)) j q) (hq : ∀ I' n f, SameM I I' → Tl (okRs (mdD I 96 92) i j p q) 25 n f → I' 90 35 = n → I' 90 36 = f → Po none (hp I' J P)) : xj yM_findRests (mG yM_findRests Po) 0 [some (.ref 90), some (.int (nI i)), some (.int (nI j)), some (.int p), some (.int q), none, none, none, none, none, none] [] (hp I J P) 0 0 := by
  refine x_aload_0 cM_findRests_0 ?_
  refine x_iconst 0 (by decide) cM_findRests_1 ?_
  refine x_pI cM_findRests_2 fM_224 rfl rfl ?_
  refine x_aload_0 cM_findRests_5 ?_
  refine x_bipush (-9) (by decide) cM_findRests_6 ?_
  refine x_pI cM_findRests_8 fM_227 rfl rfl ?_
  refine x_bipush (-2) (by decide) cM_findRests_11 ?_
  refine x_top (lw 0) (by decide) ?_
  refine x_istore_5 cM_findRests_13 rfl (Nat.le_of_ble_eq_true rfl) ?_
  exact s_mrests_a (I := I) hc hc5 hi hj hij hG hx hq 5 0 (by decide) _ ⟨fun x hx => by rw [u2_n (by omega), u2_n (by omega)], fun j hj => by rw [u2_sn (by omega), u2_sn (by omega)]⟩ ⟨0, -9, ⟨rfl, rfl⟩, by rw [u2_sn (by decide), u2_ss], by rw [u2_ss], 0, by decide, rfl⟩ _ _ _ _ _ rfl rfl rfl rfl
theorem m_rests {Po : Option Value → HS → Prop} {I : IT} {J : JT} {P : PT} {c : Nat} {k o p q w : Int32} (hc : I 96 0 = nI c) (hc5 : c ≤ 5) (hG : ∀ i j a b, i < c → j < c → i ≠ j → a < 5 → b < 5 → Rg (B0 (mdD I 96 92) i j (lw a) (lw b)) c) (hx : ∀ i j a b, i < c → j < c → i ≠ j → (-20 ≤ p ∧ p ≤ 20) → (-20 ≤ q ∧ q ≤ 20) → a < 5 → b < 5 → farI (fP (B0 (mdD I 96 92) i j (lw a) (lw b)) (i + 1)) p = dsI (B0 (mdD I 96 92) i j (lw a) (lw b)) i p ∧ farI (fP (B0 (mdD I 96 92) i j (lw a) (lw b)) (j + 1)) q = dsI (B0 (mdD I 96 92) i j (lw a) (lw b)) j q) (hq : ∀ (r : Int32) (I' : IT), (RRests (mdD I 96 92) c k o p q w r ∧ SameM I I') → Po (some (.int r)) (hp I' J P)) : xj yM_rests (mG yM_rests Po) 0 [some (.ref 90), some (.int k), some (.int o), some (.int p), some (.int q), some (.int w)] [] (hp I J P) 0 0 := by
  refine x_aload_0 cM_rests_0 ?_
  refine x_iconst 0 (by decide) cM_rests_1 ?_
  refine x_pI cM_rests_2 fM_66 rfl rfl ?_
  refine x_aload_0 cM_rests_5 ?_
  refine x_iload_1 cM_rests_6 ?_
  refine x_v1 (ls0 := [some _, some _]) cM_rests_7 kM_134 okM_noKite ⟨(Nat.le_of_ble_eq_true rfl), (Nat.le_of_ble_eq_true rfl)⟩ (Nat.le_of_ble_eq_true rfl) rfl (Nat.le_of_ble_eq_true rfl) rfl ⟨_, rfl, rfl⟩ rfl rfl (Nat.zero_le _) (Nat.zero_le _) ?_
  refine s_noKite (by rw [u2_n (by decide)]; exact hc) hc5 (fun hno => ?_) (fun i hi ei => ?_)
  · dsimp only [pushR]
    refine x_if_ne cM_rests_10 (fun _ => ?_) (fun q => absurd q (by decide))
    refine x_iconst (-1) (by decide) cM_rests_21 ?_
    refine x_ireturn cM_rests_22 rfl rfl (Nat.zero_le _) (Nat.zero_le _) ?_
    exact hq _ _ ⟨⟨fun _ => rfl, fun i2 j2 hi2 hj2 ei2 ej2 => absurd ⟨i2, hi2, ei2⟩ hno⟩, SameM.th I⟩
  · dsimp only [pushR]
    subst ei
    refine x_if_ne cM_rests_10 (fun q => absurd rfl q) (fun _ => ?_)
    refine x_aload_0 cM_rests_13 ?_
    refine x_iload_2 cM_rests_14 ?_
    refine x_v1 (ls0 := [some _, some _]) cM_rests_15 kM_134 okM_noKite ⟨(Nat.le_of_ble_eq_true rfl), (Nat.le_of_ble_eq_true rfl)⟩ (Nat.le_of_ble_eq_true rfl) rfl (Nat.le_of_ble_eq_true rfl) rfl ⟨_, rfl, rfl⟩ rfl rfl (Nat.zero_le _) (Nat.zero_le _) ?_
    refine s_noKite (by rw [u2_n (by decide)]; exact hc) hc5 (fun hno => ?_) (fun j hj ej => ?_)
    · dsimp only [pushR]
      refine x_if_eq cM_rests_18 (fun q => absurd q (by decide)) (fun _ => ?_)
      refine x_iconst (-1) (by decide) cM_rests_21 ?_
      refine x_ireturn cM_rests_22 rfl rfl (Nat.zero_le _) (Nat.zero_le _) ?_
      exact hq _ _ ⟨⟨fun _ => rfl, fun i2 j2 hi2 hj2 ei2 ej2 => absurd ⟨j2, hj2, ej2⟩ hno⟩, SameM.th I⟩
    · dsimp only [pushR]
      subst ej
      refine x_if_eq cM_rests_18 (fun _ => ?_) (fun q => absurd rfl q)
      refine x_iload_1 cM_rests_23 ?_
      refine x_iload_2 cM_rests_24 ?_
      refine x_icmp_eq cM_rests_25 (fun q25 => ?_) (fun q25 => ?_)
      · have hij : i = j := (nI_eq (by omega) (by omega)).mp q25
        refine x_bipush (-2) (by decide) cM_rests_68 ?_
        refine x_ireturn cM_rests_70 rfl rfl (Nat.zero_le _) (Nat.zero_le _) ?_
        refine hq _ _ ⟨⟨fun z => absurd ⟨⟨i, hi, rfl⟩, ⟨j, hj, rfl⟩⟩ z, fun i2 j2 hi2 hj2 ei2 ej2 => ?_⟩, SameM.th I⟩
        obtain rfl := (nI_one hc5 hi rfl hi2 ei2).symm
        obtain rfl := (nI_one hc5 hj rfl hj2 ej2).symm
        exact ⟨fun _ => rfl, fun z => absurd (Or.inl hij) z⟩
      · have hij : i ≠ j := fun z => q25 (by rw [z])
        refine x_iload_3 cM_rests_28 ?_
        refine x_i2l cM_rests_29 ?_
        refine x_ldc2 cM_rests_30 qM_234 ?_
        refine x_ldc2 cM_rests_33 qM_236 ?_
        refine x_s3 (ls0 := [some _, none, some _, none, some _, none]) cM_rests_36 kM_69 okM_in ⟨(Nat.le_of_ble_eq_true rfl), (Nat.le_of_ble_eq_true rfl)⟩ (Nat.le_of_ble_eq_true rfl) rfl (Nat.le_of_ble_eq_true rfl) rfl rfl (Nat.zero_le _) (Nat.zero_le _) ?_
        refine s_in (a := -20) (b := 20) (by decide) (by decide) (fun hp => ?_) (fun hp => ?_)
        · dsimp only [pushR]
          refine x_if_eq cM_rests_39 (fun q => absurd q (by decide)) (fun _ => ?_)
          refine x_iload_4 cM_rests_42 ?_
          refine x_i2l cM_rests_44 ?_
          refine x_ldc2 cM_rests_45 qM_234 ?_
          refine x_ldc2 cM_rests_48 qM_236 ?_
          refine x_s3 (ls0 := [some _, none, some _, none, some _, none]) cM_rests_51 kM_69 okM_in ⟨(Nat.le_of_ble_eq_true rfl), (Nat.le_of_ble_eq_true rfl)⟩ (Nat.le_of_ble_eq_true rfl) rfl (Nat.le_of_ble_eq_true rfl) rfl rfl (Nat.zero_le _) (Nat.zero_le _) ?_
          refine s_in (a := -20) (b := 20) (by decide) (by decide) (fun hqq => ?_) (fun hqq => ?_)
          · dsimp only [pushR]
            refine x_if_eq cM_rests_54 (fun q => absurd q (by decide)) (fun _ => ?_)
            refine x_iload_5 cM_rests_57 ?_
            refine x_i2l cM_rests_59 ?_
            refine x_lconst 0 (by decide) cM_rests_60 ?_
            refine x_lconst 1 (by decide) cM_rests_61 ?_
            refine x_s3 (ls0 := [some _, none, some _, none, some _, none]) cM_rests_62 kM_69 okM_in ⟨(Nat.le_of_ble_eq_true rfl), (Nat.le_of_ble_eq_true rfl)⟩ (Nat.le_of_ble_eq_true rfl) rfl (Nat.le_of_ble_eq_true rfl) rfl rfl (Nat.zero_le _) (Nat.zero_le _) ?_
            refine s_in (a := 0) (b := 1) (by decide) (by decide) (fun hw => ?_) (fun hw => ?_)
            · dsimp only [pushR]
              refine x_if_ne cM_rests_65 (fun _ => ?_) (fun q => absurd q (by decide))
              refine x_aload_0 cM_rests_71 ?_
              refine x_iload_1 cM_rests_72 ?_
              refine x_iload_2 cM_rests_73 ?_
              refine x_iload_3 cM_rests_74 ?_
              refine x_iload_4 cM_rests_75 ?_
              refine x_v4 (ls0 := [some _, some _, some _, some _, some _, none, none, none, none, none, none]) cM_rests_77 kM_238 okM_findRests ⟨(Nat.le_of_ble_eq_true rfl), (Nat.le_of_ble_eq_true rfl)⟩ (Nat.le_of_ble_eq_true rfl) rfl (Nat.le_of_ble_eq_true rfl) rfl ⟨_, rfl, rfl⟩ rfl rfl (Nat.zero_le _) (Nat.zero_le _) ?_
              refine s_findRests (c := c) (i := i) (j := j) (by rw [u2_n (by decide)]; exact hc) hc5 hi hj hij (by rw [mdD_th I 0 (Or.inl rfl) (Or.inl rfl)]; exact fun a b ha hb => hG i j a b hi hj hij ha hb) (by rw [mdD_th I 0 (Or.inl rfl) (Or.inl rfl)]; exact fun a b ha hb => hx i j a b hi hj hij hp hqq ha hb) (fun I1 n f hS1 hTl e35 e36 => ?_)
              rw [mdD_th I 0 (Or.inl rfl) (Or.inl rfl)] at hTl
              dsimp only [pushR]
              refine x_iload_5 cM_rests_80 ?_
              refine x_if_ne cM_rests_82 (fun q82 => ?_) (fun q82 => ?_)
              · refine x_aload_0 cM_rests_92 ?_
                refine x_gI cM_rests_93 fM_227 rfl rfl ?_
                refine x_ireturn cM_rests_96 rfl rfl (Nat.zero_le _) (Nat.zero_le _) ?_
                refine hq _ _ ⟨⟨fun z => absurd ⟨⟨i, hi, rfl⟩, ⟨j, hj, rfl⟩⟩ z, fun i2 j2 hi2 hj2 ei2 ej2 => ?_⟩, (SameM.th I).tr hS1⟩
                obtain rfl := (nI_one hc5 hi rfl hi2 ei2).symm
                obtain rfl := (nI_one hc5 hj rfl hj2 ej2).symm
                exact ⟨fun z => absurd z (fun z => z.elim hij (fun z => z.elim (fun w => w hp) (fun z => z.elim (fun w => w hqq) (fun w => w (w01.mp hw))))), fun _ => ⟨n, f, hTl, fun z => absurd z q82, fun _ => e36⟩⟩
              · refine x_aload_0 cM_rests_85 ?_
                refine x_gI cM_rests_86 fM_224 rfl rfl ?_
                refine x_goto cM_rests_89 ?_
                refine x_ireturn cM_rests_96 rfl rfl (Nat.zero_le _) (Nat.zero_le _) ?_
                refine hq _ _ ⟨⟨fun z => absurd ⟨⟨i, hi, rfl⟩, ⟨j, hj, rfl⟩⟩ z, fun i2 j2 hi2 hj2 ei2 ej2 => ?_⟩, (SameM.th I).tr hS1⟩
                obtain rfl := (nI_one hc5 hi rfl hi2 ei2).symm
                obtain rfl := (nI_one hc5 hj rfl hj2 ej2).symm
                exact ⟨fun z => absurd z (fun z => z.elim hij (fun z => z.elim (fun w => w hp) (fun z => z.elim (fun w => w hqq) (fun w => w (w01.mp hw))))), fun _ => ⟨n, f, hTl, fun _ => e35, fun z => absurd (by simpa using q82) z⟩⟩
            · dsimp only [pushR]
              refine x_if_ne cM_rests_65 (fun q => absurd rfl q) (fun _ => ?_)
              refine x_bipush (-2) (by decide) cM_rests_68 ?_
              refine x_ireturn cM_rests_70 rfl rfl (Nat.zero_le _) (Nat.zero_le _) ?_
              refine hq _ _ ⟨⟨fun z => absurd ⟨⟨i, hi, rfl⟩, ⟨j, hj, rfl⟩⟩ z, fun i2 j2 hi2 hj2 ei2 ej2 => ?_⟩, SameM.th I⟩
              obtain rfl := (nI_one hc5 hi rfl hi2 ei2).symm
              obtain rfl := (nI_one hc5 hj rfl hj2 ej2).symm
              exact ⟨fun _ => rfl, fun z => absurd (Or.inr (Or.inr (Or.inr (fun z => hw (w01.mpr z))))) z⟩
          · dsimp only [pushR]
            refine x_if_eq cM_rests_54 (fun _ => ?_) (fun q => absurd rfl q)
            refine x_bipush (-2) (by decide) cM_rests_68 ?_
            refine x_ireturn cM_rests_70 rfl rfl (Nat.zero_le _) (Nat.zero_le _) ?_
            refine hq _ _ ⟨⟨fun z => absurd ⟨⟨i, hi, rfl⟩, ⟨j, hj, rfl⟩⟩ z, fun i2 j2 hi2 hj2 ei2 ej2 => ?_⟩, SameM.th I⟩
            obtain rfl := (nI_one hc5 hi rfl hi2 ei2).symm
            obtain rfl := (nI_one hc5 hj rfl hj2 ej2).symm
            exact ⟨fun _ => rfl, fun z => absurd (Or.inr (Or.inr (Or.inl hqq))) z⟩
        · dsimp only [pushR]
          refine x_if_eq cM_rests_39 (fun _ => ?_) (fun q => absurd rfl q)
          refine x_bipush (-2) (by decide) cM_rests_68 ?_
          refine x_ireturn cM_rests_70 rfl rfl (Nat.zero_le _) (Nat.zero_le _) ?_
          refine hq _ _ ⟨⟨fun z => absurd ⟨⟨i, hi, rfl⟩, ⟨j, hj, rfl⟩⟩ z, fun i2 j2 hi2 hj2 ei2 ej2 => ?_⟩, SameM.th I⟩
          obtain rfl := (nI_one hc5 hi rfl hi2 ei2).symm
          obtain rfl := (nI_one hc5 hj rfl hj2 ej2).symm
          exact ⟨fun _ => rfl, fun z => absurd (Or.inr (Or.inl hp)) z⟩
