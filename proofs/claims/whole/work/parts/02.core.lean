/-! THE JUDGEMENT X: a frame of a method over a heap whose cells are numbered from 1 (the script is 0) -/
def WT : List Cond := lw_tbl.filter goodWord
theorem goodT {ws : List Cond} (h : ∀ w ∈ ws, w ∈ WT) : GoodIn WT ws := fun w hw => ⟨h w hw, good_of_word (List.mem_filter.mp (h w hw)).2⟩
theorem nT {w : Cond} {i : Nat} (h : tables_1[i]? = some w) : w ∈ lw_tbl := List.mem_append_right _ (List.mem_of_getElem? h)
theorem mT {w : Cond} {i : Nat} (h : tables_1[i]? = some w) (hg : goodWord w = true) : w ∈ WT := List.mem_filter.mpr ⟨nT h, hg⟩
theorem mS {q : MethodName × Nat} (i : Nat) (h : lw_privs[i]? = some q) : Cond.selects q.1.cls q.1 q.1 ∈ WT := List.mem_filter.mpr ⟨List.mem_append_left _ (by
  have := List.mem_of_getElem? h
  simp only [k2_sels, List.mem_map]
  exact ⟨q, this, rfl⟩), rfl⟩
theorem inT {ws : List Cond} (h : ws.all (fun w => decide (w ∈ tables_1) && goodWord w) = true) : ∀ w ∈ ws, w ∈ WT := fun w hw => by
  have h1 := List.all_eq_true.mp h w hw
  simp only [Bool.and_eq_true, decide_eq_true_eq] at h1
  exact List.mem_filter.mpr ⟨List.mem_append_right _ h1.1, h1.2⟩
/-- the words of nest mates and of the arrays of lines, which are carried along -/
def NOk (U : State) : Prop := (∀ (a : String) (i : Nat) (x : MethodName) (h : String), Cond.methodLinkNest a i x h ∈ lw_tbl → va_Nw (.methodLinkNest a i x h) U) ∧ va_AO "KiteYards$Line" U
theorem NOk.warm {s U : State} (hW : s.WarmedH U.vm) (h : NOk s) : NOk U := ⟨fun a i x g hm => va_Nw.warmM hW (h.1 a i x g hm), va_AO.moved hW.alike h.2⟩
theorem NOk.same {u U : State} (e : u.vm = U.vm) (h : NOk u) : NOk U := ⟨fun a i x g hm => va_Nw.same rfl e (h.1 a i x g hm), va_AO.moved (by rw [e]; exact Vm.Alike.refl _) h.2⟩
abbrev YI : Type := MethodName × (ByteArray × (Nat × (Option FieldType × Room)))
abbrev yN (y : YI) : MethodName := y.1
abbrev yB (y : YI) : ByteArray := y.2.1
abbrev yL (y : YI) : Nat := y.2.2.1
abbrev yT (y : YI) : Option FieldType := y.2.2.2.1
abbrev yR (y : YI) : Room := y.2.2.2.2
def wsy (y : YI) : List Cond := .code (yN y) (yB y) (yL y) (yT y) :: WT
abbrev MC : Type := (Nat × vp_A) ⊕ (Nat × List Value)
abbrev HS : Type := Nat × (Nat → MC)
abbrev EV : Type := Nat × (Nat × (va_G × (Nat → ClassId)))
def trv (E : EV) : Value → Value
  | .ref a => .ref (if a = 0 then E.2.1 else E.1 + a)
  | v => v
theorem trv_cat (E : EV) (v : Value) : (trv E v).category = v.category := by cases v <;> rfl
theorem trv_ref {E : EV} {a : Nat} (h : 1 ≤ a) : trv E (.ref a) = .ref (E.1 + a) := by
  show Value.ref (if a = 0 then E.2.1 else E.1 + a) = _
  rw [if_neg (by omega)]
theorem trv_cats (E : EV) (st : List Value) : ((st.map (trv E)).map fun v => v.category) = st.map fun v => v.category := by
  rw [List.map_map]
  exact List.map_congr_left fun v _ => trv_cat E v
def trc (E : EV) : MC → va_E
  | .inl (t, (n, .inr (.inr (.inr (.inr f))))) => .inl (E.2.2.2 t, (n, .inr (.inr (.inr (.inr (fun j => (f j).map (fun a => E.1 + a)))))))
  | .inl (t, a) => .inl (E.2.2.2 t, a)
  | .inr (ci, fs) => .inr (ci, fs.map (trv E))
def wl (E : EV) (h : HS) : va_W := (List.range h.1).map (fun k => (E.1 + (k + 1), trc E (h.2 (k + 1))))
def hset (h : HS) (a : Nat) (c : MC) : HS := (h.1, fun j => if j = a then c else h.2 j)
def hpush (h : HS) (c : MC) : HS := (h.1 + 1, fun j => if j = h.1 + 1 then c else h.2 j)
theorem wl_get {E : EV} {h : HS} {a : Nat} (h1 : 1 ≤ a) (h2 : a ≤ h.1) : (wl E h)[a - 1]? = some (E.1 + a, trc E (h.2 a)) := by
  unfold wl
  rw [List.getElem?_map, List.getElem?_range (by omega)]
  simp only [Option.map_some]
  rw [show a - 1 + 1 = a by omega]
theorem wl_at {E : EV} {h : HS} {k : Nat} {q : Nat × va_E} (hk : (wl E h)[k]? = some q) : k < h.1 ∧ q = (E.1 + (k + 1), trc E (h.2 (k + 1))) := by
  unfold wl at hk
  rw [List.getElem?_map] at hk
  by_cases hl : k < h.1
  · rw [List.getElem?_range hl] at hk
    exact ⟨hl, (Option.some.inj hk).symm⟩
  · rw [List.getElem?_eq_none (by simp; omega)] at hk
    cases hk
theorem wl_set {E : EV} {h : HS} {a : Nat} {c : MC} (h1 : 1 ≤ a) (h2 : a ≤ h.1) : (wl E h).set (a - 1) (E.1 + a, trc E c) = wl E (hset h a c) := by
  apply List.ext_getElem?
  intro k
  unfold wl hset
  rw [List.getElem?_set]
  simp only [List.length_map, List.length_range, List.getElem?_map]
  by_cases hk : a - 1 = k
  · subst hk
    rw [if_pos rfl, if_pos (by omega), List.getElem?_range (by omega)]
    simp only [Option.map_some]
    rw [show a - 1 + 1 = a by omega, if_pos rfl]
  · rw [if_neg hk]
    by_cases hl : k < h.1
    · rw [List.getElem?_range hl]
      simp only [Option.map_some]
      rw [if_neg (by omega)]
    · rw [List.getElem?_eq_none (by simp; omega)]
      rfl
theorem wl_push {E : EV} {h : HS} {c : MC} : wl E h ++ [(E.1 + (h.1 + 1), trc E c)] = wl E (hpush h c) := by
  unfold wl hpush
  simp only [List.range_succ, List.map_append, List.map_cons, List.map_nil, if_true]
  congr 1
  apply List.map_congr_left
  intro k hk
  have := List.mem_range.mp hk
  rw [if_neg (by omega)]
theorem wl_D (E : EV) (h : HS) : va_D (fun q => E.1 < q) (wl E h) := by
  refine ⟨fun i j p q hi hj hpq => ?_, fun k q hk => ?_⟩
  · obtain ⟨-, rfl⟩ := wl_at hi
    obtain ⟨-, rfl⟩ := wl_at hj
    have : E.1 + (i + 1) = E.1 + (j + 1) := hpq
    omega
  · obtain ⟨-, rfl⟩ := wl_at hk
    show E.1 < E.1 + (k + 1)
    omega
def TBest : u_T := fun k => match k with
  | 0 => ("KiteYards$Best", "cost", "I", false)
  | _ => ("KiteYards$Best", "number", "I", false)
def TFlight : u_T := fun k => match k with
  | 0 => ("KiteYards$Flight", "heights", "[I", true)
  | 1 => ("KiteYards$Flight", "places", "[I", true)
  | 2 => ("KiteYards$Flight", "count", "I", false)
  | _ => ("KiteYards$Flight", "folding", "I", false)
def TLine : u_T := fun k => match k with
  | 0 => ("KiteYards$Line", "count", "I", false)
  | 1 => ("KiteYards$Line", "low", "I", false)
  | 2 => ("KiteYards$Line", "high", "I", false)
  | 3 => ("KiteYards$Line", "border", "I", false)
  | 4 => ("KiteYards$Line", "fold", "I", false)
  | 5 => ("KiteYards$Line", "yards", "[I", true)
  | 6 => ("KiteYards$Line", "bridles", "[I", true)
  | _ => ("KiteYards$Line", "tails", "[I", true)
def TPast : u_T := fun k => match k with
  | 0 => ("KiteYards$Past", "rows", "[LKiteYards$Line;", true)
  | _ => ("KiteYards$Past", "count", "I", false)
def TSightings : u_T := fun k => match k with
  | 0 => ("KiteYards$Sightings", "kites", "[I", true)
  | 1 => ("KiteYards$Sightings", "places", "[I", true)
  | _ => ("KiteYards$Sightings", "count", "I", false)
def TTally : u_T := fun k => match k with
  | 0 => ("KiteYards$Tally", "count", "I", false)
  | _ => ("KiteYards$Tally", "first", "I", false)
def TText : u_T := fun k => match k with
  | 0 => ("KiteYards$Text", "letters", "[I", true)
  | _ => ("KiteYards$Text", "length", "I", false)
def TWay : u_T := fun k => match k with
  | 0 => ("KiteYards$Way", "figures", "[I", true)
  | 1 => ("KiteYards$Way", "count", "I", false)
  | _ => ("KiteYards$Way", "highest", "I", false)
def TK : u_T := fun k => match k with
  | 0 => ("KiteYards", "text", "LKiteYards$Text;", true)
  | 1 => ("KiteYards", "now", "LKiteYards$Line;", true)
  | 2 => ("KiteYards", "past", "LKiteYards$Past;", true)
  | 3 => ("KiteYards", "kept", "[LKiteYards$Line;", true)
  | 4 => ("KiteYards", "holds", "[Z", true)
  | 5 => ("KiteYards", "sightings", "LKiteYards$Sightings;", true)
  | 6 => ("KiteYards", "seedNow", "J", false)
  | 7 => ("KiteYards", "trial", "LKiteYards$Line;", true)
  | 8 => ("KiteYards", "flight", "LKiteYards$Flight;", true)
  | 9 => ("KiteYards", "way", "LKiteYards$Way;", true)
  | 10 => ("KiteYards", "best", "LKiteYards$Best;", true)
  | _ => ("KiteYards", "tally", "LKiteYards$Tally;", true)
def TM : u_T := fun k => match k with
  | 0 => ("KiteYardsModel", "thrown", "I", false)
  | 1 => ("KiteYardsModel", "text", "[I", true)
  | 2 => ("KiteYardsModel", "textSize", "I", false)
  | 3 => ("KiteYardsModel", "place", "I", false)
  | 4 => ("KiteYardsModel", "border", "I", false)
  | 5 => ("KiteYardsModel", "fold", "I", false)
  | 6 => ("KiteYardsModel", "tail", "[I", true)
  | 7 => ("KiteYardsModel", "readKites", "I", false)
  | 8 => ("KiteYardsModel", "readLow", "I", false)
  | 9 => ("KiteYardsModel", "readHigh", "I", false)
  | 10 => ("KiteYardsModel", "readBorder", "I", false)
  | 11 => ("KiteYardsModel", "readFold", "I", false)
  | 12 => ("KiteYardsModel", "readYards", "[I", true)
  | 13 => ("KiteYardsModel", "readBridle", "[I", true)
  | 14 => ("KiteYardsModel", "readTail", "[I", true)
  | 15 => ("KiteYardsModel", "page", "[I", true)
  | 16 => ("KiteYardsModel", "trial", "[I", true)
  | 17 => ("KiteYardsModel", "book", "[I", true)
  | 18 => ("KiteYardsModel", "acts", "I", false)
  | 19 => ("KiteYardsModel", "kept", "[I", true)
  | 20 => ("KiteYardsModel", "isKept", "[Z", true)
  | 21 => ("KiteYardsModel", "seen", "I", false)
  | 22 => ("KiteYardsModel", "seenKite", "[I", true)
  | 23 => ("KiteYardsModel", "seenPlace", "[I", true)
  | 24 => ("KiteYardsModel", "seed", "J", false)
  | 25 => ("KiteYardsModel", "height", "[I", true)
  | 26 => ("KiteYardsModel", "lean", "[I", true)
  | 27 => ("KiteYardsModel", "at", "[I", true)
  | 28 => ("KiteYardsModel", "trialTail", "[I", true)
  | 29 => ("KiteYardsModel", "folds", "I", false)
  | 30 => ("KiteYardsModel", "wayBest", "I", false)
  | 31 => ("KiteYardsModel", "wayCost", "I", false)
  | 32 => ("KiteYardsModel", "windMany", "I", false)
  | 33 => ("KiteYardsModel", "windFirst", "I", false)
  | 34 => ("KiteYardsModel", "windLow", "I", false)
  | 35 => ("KiteYardsModel", "restMany", "I", false)
  | 36 => ("KiteYardsModel", "restFirst", "I", false)
  | _ => ("KiteYardsModel", "worth", "[I", true)
/-- the classes, in the order of their numbers -/
abbrev kcl : List vw_C := [("KiteYards$Best", TBest, 2), ("KiteYards$Flight", TFlight, 4), ("KiteYards$Line", TLine, 8), ("KiteYards$Past", TPast, 2), ("KiteYards$Sightings", TSightings, 3), ("KiteYards$Tally", TTally, 2), ("KiteYards$Text", TText, 2), ("KiteYards$Way", TWay, 3), ("KiteYards", TK, 12), ("KiteYardsModel", TM, 38)]
def dty (d : String) : FieldType := (parseFieldDescriptor d).getD .int
def dfl (r : vw_C) : List Value := (List.range r.2.2).map fun j => defaultValue (dty (r.2.1 j).2.2.1)
def ClsOk (r : vw_C) : Prop := (∀ w ∈ u_ws r.1 r.2.1 r.2.2, w ∈ WT) ∧ (∀ a, a < r.2.2 → ∀ b, b < r.2.2 → a ≠ b → (r.2.1 a).2.1 ≠ (r.2.1 b).2.1) ∧ ∀ k, k < r.2.2 → parseFieldDescriptor (r.2.1 k).2.2.1 = some (dty (r.2.1 k).2.2.1)
theorem clsOk_Best : ClsOk ("KiteYards$Best", TBest, 2) := ⟨inT (by decide +kernel), by decide +kernel, by decide +kernel⟩
theorem clsOk_Flight : ClsOk ("KiteYards$Flight", TFlight, 4) := ⟨inT (by decide +kernel), by decide +kernel, by decide +kernel⟩
theorem clsOk_Line : ClsOk ("KiteYards$Line", TLine, 8) := ⟨inT (by decide +kernel), by decide +kernel, by decide +kernel⟩
theorem clsOk_Past : ClsOk ("KiteYards$Past", TPast, 2) := ⟨inT (by decide +kernel), by decide +kernel, by decide +kernel⟩
theorem clsOk_Sightings : ClsOk ("KiteYards$Sightings", TSightings, 3) := ⟨inT (by decide +kernel), by decide +kernel, by decide +kernel⟩
theorem clsOk_Tally : ClsOk ("KiteYards$Tally", TTally, 2) := ⟨inT (by decide +kernel), by decide +kernel, by decide +kernel⟩
theorem clsOk_Text : ClsOk ("KiteYards$Text", TText, 2) := ⟨inT (by decide +kernel), by decide +kernel, by decide +kernel⟩
theorem clsOk_Way : ClsOk ("KiteYards$Way", TWay, 3) := ⟨inT (by decide +kernel), by decide +kernel, by decide +kernel⟩
theorem clsOk_K : ClsOk ("KiteYards", TK, 12) := ⟨inT (by decide +kernel), by decide +kernel, by decide +kernel⟩
theorem clsOk_M : ClsOk ("KiteYardsModel", TM, 38) := ⟨inT (by decide +kernel), by decide +kernel, by decide +kernel⟩
theorem cls_ok {ci : Nat} {r : vw_C} (h : kcl[ci]? = some r) : ClsOk r := by
  match ci, h with
  | 0, h => cases h; exact clsOk_Best
  | 1, h => cases h; exact clsOk_Flight
  | 2, h => cases h; exact clsOk_Line
  | 3, h => cases h; exact clsOk_Past
  | 4, h => cases h; exact clsOk_Sightings
  | 5, h => cases h; exact clsOk_Tally
  | 6, h => cases h; exact clsOk_Text
  | 7, h => cases h; exact clsOk_Way
  | 8, h => cases h; exact clsOk_K
  | 9, h => cases h; exact clsOk_M
  | ci + 10, h => simp [kcl] at h
theorem obj_inst : Cond.instanceMethod Lib.objectInit ∈ WT := mT (i := 19) (by decide +kernel) rfl
theorem obj_code : Cond.code Lib.objectInit ⟨#[0xb1]⟩ 1 none ∈ WT := mT (i := 20) (by decide +kernel) rfl
abbrev tyl (E : EV) : List (ClassId × FieldType) := [(E.2.2.2 0, .int), (E.2.2.2 1, .boolean), (E.2.2.2 2, .object "KiteYards$Line")]
def HH (E : EV) (h : HS) (H : Heap) : Prop := va_P E.2.2.1 kcl (wl E h) H ∧ H.size = E.1 + 1 + h.1
def lvl (E : EV) : Nat → List (Option Value) → List (Nat × Value)
  | _, [] => []
  | i, none :: r => lvl E (i + 1) r
  | i, some v :: r => (i, trv E v) :: lvl E (i + 1) r
theorem lvl_mem {E : EV} : ∀ (ls : List (Option Value)) (i0 i : Nat) (v : Value), ls[i]? = some (some v) → (i0 + i, trv E v) ∈ lvl E i0 ls := by
  intro ls
  induction ls with
  | nil => intro i0 i v h; simp at h
  | cons a r ih =>
    intro i0 i v h
    cases i with
    | zero =>
      simp only [List.getElem?_cons_zero, Option.some.injEq] at h
      subst h
      simp [lvl]
    | succ i =>
      simp only [List.getElem?_cons_succ] at h
      have := ih (i0 + 1) i v h
      rw [show i0 + 1 + i = i0 + (i + 1) by omega] at this
      cases a with
      | none => simpa [lvl] using this
      | some w => simp only [lvl]; exact List.mem_cons_of_mem _ this
theorem lvl_of {E : EV} : ∀ (ls : List (Option Value)) (i0 : Nat) (q : Nat × Value), q ∈ lvl E i0 ls → ∃ (j : Nat) (v : Value), q = (i0 + j, trv E v) ∧ ls[j]? = some (some v) := by
  intro ls
  induction ls with
  | nil => intro i0 q h; simp [lvl] at h
  | cons a r ih =>
    intro i0 q h
    cases a with
    | none =>
      simp only [lvl] at h
      obtain ⟨j, v, rfl, h2⟩ := ih (i0 + 1) q h
      exact ⟨j + 1, v, by rw [show i0 + 1 + j = i0 + (j + 1) by omega], by simpa using h2⟩
    | some w =>
      simp only [lvl, List.mem_cons] at h
      rcases h with rfl | h
      · exact ⟨0, w, rfl, by simp⟩
      · obtain ⟨j, v, rfl, h2⟩ := ih (i0 + 1) q h
        exact ⟨j + 1, v, by rw [show i0 + 1 + j = i0 + (j + 1) by omega], by simpa using h2⟩
theorem la_get {E : EV} {la : Array Slot} {nL : Nat} {ls : List (Option Value)} (hl : lv_has la nL (lvl E 0 ls)) {i : Nat} {v : Value} (h : ls[i]? = some (some v)) : la[i]? = some (.val (trv E v)) := by
  have := hl.2.2 _ (lvl_mem (E := E) ls 0 i v h)
  simpa using this
theorem lv_mono {la : Array Slot} {nL : Nat} {l l' : List (Nat × Value)} (h : lv_has la nL l) (hm : ∀ q ∈ l', q ∈ l) : lv_has la nL l' := ⟨h.1, h.2.1, fun q hq => h.2.2 q (hm q hq)⟩
def isC2 : Option Value → Bool
  | some (.long _) => true
  | some (.double _) => true
  | _ => false
theorem isC2_cat {v : Value} (h : isC2 (some v) = false) : ¬ v.category = 2 := by
  cases v <;> simp_all [isC2, Value.category]
/-- behind a store of one slot -/
theorem la_set1 {E : EV} {la : Array Slot} {nL i : Nat} {ls : List (Option Value)} {w : Value} (hp : ∀ j, j + 1 = i → isC2 (ls.getD j none) = false) (hi : i < ls.length)
    (h : lv_has la nL ((i, trv E w) :: (lvl E 0 ls).filter (fun q => !(q.1 == i) && !(q.1 + 1 == i && q.2.category == 2)))) : lv_has la nL (lvl E 0 (ls.set i (some w))) := by
  refine lv_mono h fun q hq => ?_
  obtain ⟨j, v, hq0, hj⟩ := lvl_of _ _ _ hq
  rw [Nat.zero_add] at hq0
  subst hq0
  by_cases hji : j = i
  · subst hji
    rw [List.getElem?_set_self hi] at hj
    cases hj
    exact List.mem_cons_self
  · rw [List.getElem?_set_ne (Ne.symm hji)] at hj
    refine List.mem_cons_of_mem _ (List.mem_filter.mpr ⟨by simpa using lvl_mem (E := E) ls 0 j v hj, ?_⟩)
    have h1 : ¬ (j + 1 = i ∧ (trv E v).category = 2) := by
      rintro ⟨q1, q2⟩
      have := hp j q1
      rw [List.getD_eq_getElem?_getD, hj] at this
      rw [trv_cat] at q2
      exact isC2_cat this q2
    simp only [Bool.and_eq_true, Bool.not_eq_true', beq_eq_false_iff_ne, ne_eq, Bool.and_eq_false_iff]
    refine ⟨hji, ?_⟩
    by_cases q : j + 1 = i
    · exact Or.inr (by simpa using fun z => h1 ⟨q, z⟩)
    · exact Or.inl q
theorem la_set2 {E : EV} {la : Array Slot} {nL i : Nat} {ls : List (Option Value)} {w : Value} (hp : ∀ j, j + 1 = i → isC2 (ls.getD j none) = false) (hi : i + 1 < ls.length)
    (h : lv_has la nL ((i, trv E w) :: (lvl E 0 ls).filter (fun q => !(q.1 == i) && (!(q.1 == i + 1) && !(q.1 + 1 == i && q.2.category == 2))))) : lv_has la nL (lvl E 0 ((ls.set i (some w)).set (i + 1) none)) := by
  refine lv_mono h fun q hq => ?_
  obtain ⟨j, v, hq0, hj⟩ := lvl_of _ _ _ hq
  rw [Nat.zero_add] at hq0
  subst hq0
  by_cases hji1 : j = i + 1
  · subst hji1
    rw [List.getElem?_set_self (by simpa using hi)] at hj
    cases hj
  · rw [List.getElem?_set_ne (Ne.symm hji1)] at hj
    by_cases hji : j = i
    · subst hji
      rw [List.getElem?_set_self (by omega)] at hj
      cases hj
      exact List.mem_cons_self
    · rw [List.getElem?_set_ne (Ne.symm hji)] at hj
      refine List.mem_cons_of_mem _ (List.mem_filter.mpr ⟨by simpa using lvl_mem (E := E) ls 0 j v hj, ?_⟩)
      have h1 : ¬ (j + 1 = i ∧ (trv E v).category = 2) := by
        rintro ⟨q1, q2⟩
        have := hp j q1
        rw [List.getD_eq_getElem?_getD, hj] at this
        rw [trv_cat] at q2
        exact isC2_cat this q2
      simp only [Bool.and_eq_true, Bool.not_eq_true', beq_eq_false_iff_ne, ne_eq, Bool.and_eq_false_iff]
      refine ⟨hji, hji1, ?_⟩
      by_cases q : j + 1 = i
      · exact Or.inr (by simpa using fun z => h1 ⟨q, z⟩)
      · exact Or.inl q
/-- a frame's surroundings -/
def Cx (y : YI) (E : EV) (Ex : EV → State → Array Value → Prop) (p : Program) (s : State) (m : MethodId) (args : Array Value) (meth : Method) (c : Code) : Prop :=
  p.tables.exec = Jvm.exec ∧ c.code = yB y ∧ meth.sig.returnType = yT y ∧ c.maxLocals = yL y ∧ s.vm.findClass (yN y).cls = some m.cls ∧ (∀ w ∈ WT, w.before args s = true) ∧ meth.locks = false ∧ va_K E.2.2.1 kcl (tyl E) s ∧ E.1 < s.heap.size ∧ meth.name = (yN y).name ∧ NOk s ∧ Ex E s args
abbrev GT : Type := (EV → State → Array Value → Prop) × (EV → State → Array Value → List Frame → State → Prop)
def xj (y : YI) (G : GT) (pc : Nat) (ls : List (Option Value)) (st : List Value) (h : HS) (k n : Nat) : Prop :=
  ∀ (E : EV) (p : Program) (l : Launch) (e : Env) (s : State) (m : MethodId) (args : Array Value) (below : List Frame) (meth : Method) (c : Code) (H : Heap) (locs : List Loc) (la : Array Slot),
    Cx y E G.1 p s m args meth c → HH E h H → va_S (fun q => E.1 < q) s.heap H locs → lv_has la (yL y) (lvl E 0 ls) →
    W p l e (yR y) s m args below meth c H locs k n (G.2 E s args below) (F0 m pc la (st.map (trv E)))
def QQ (E : EV) (Po : Option Value → HS → Prop) : Array Value → State → Outcome → State → Prop := fun _ st oc t =>
  (∃ (r : Option Value) (h' : HS), oc = .returned (r.map (trv E)) ∧ Po r h' ∧ HH E h' t.heap ∧ va_K E.2.2.1 kcl (tyl E) t) ∧ va_F (fun q => E.1 < q) st t
def mG (y : YI) (Po : Option Value → HS → Prop) : GT := (fun _ _ _ => True, fun E s args below => MQ below (QQ E Po) args s (yR y).cells (yR y).slots (fun q => E.1 < q))
abbrev Dc (y : YI) (pc : Nat) (i : Instr) (len nx : Nat) : Prop := decode (yB y) pc = .ok (i, len) ∧ pc + len = nx
abbrev Db (y : YI) (pc : Nat) (i : Instr) (len nx : Nat) (off : Int) (tg : Nat) : Prop := decode (yB y) pc = .ok (i, len) ∧ pc + len = nx ∧ (pc : Int) + off = (tg : Int)
def FL (own : String) (ix ci j : Nat) (fin : Bool) (ty : FieldType) : Prop := ∃ r : vw_C, kcl[ci]? = some r ∧ j < r.2.2 ∧ Cond.fieldLink own ix (r.2.1 j).1 (r.2.1 j).2.1 (r.2.1 j).2.2.1 ∈ WT ∧ (r.2.1 j).2.2.2 = fin ∧ parseFieldDescriptor (r.2.1 j).2.2.1 = some ty ∧ (r.2.1 j).1 = r.1
def NW (own : String) (ix ci : Nat) (fs : List Value) (nn : Nat) : Prop := ∃ r : vw_C, kcl[ci]? = some r ∧ dfl r = fs ∧ r.2.2 = nn ∧ Cond.classLink own ix r.1 ∈ WT ∧ Cond.instantiable r.1 r.2.2 ∈ WT ∧ Cond.initialized r.1 ∈ WT
def noMH (s : String) : Prop := s ≠ "java/lang/invoke/MethodHandle" ∧ s ≠ "java/lang/invoke/VarHandle"
/-- what the tables say of a method: 'np' parameters (the receiver apart) -/
def YOK (y : YI) (np : Nat) : Prop := plainFor (yN y) = true ∧ Cond.code (yN y) (yB y) (yL y) (yT y) ∈ WT ∧ noMH (yN y).cls ∧ (parseMethodDescriptor (yN y).desc).map (fun d => d.parameters.length) = some np ∧ Cond.initialized (yN y).cls ∈ WT
def CV (own : String) (ix : Nat) (y : YI) : Prop := Cond.methodLink own ix (yN y) ∈ WT ∧ Cond.instanceMethod (yN y) ∈ WT ∧ Cond.selects (yN y).cls (yN y) (yN y) ∈ WT
def CS (own : String) (ix : Nat) (y : YI) : Prop := Cond.methodLink own ix (yN y) ∈ WT ∧ Cond.static (yN y) ∈ WT
def CSN (own : String) (ix : Nat) (y : YI) : Prop := ∃ host : String, Cond.methodLinkNest own ix (yN y) host ∈ lw_tbl ∧ Cond.static (yN y) ∈ WT
def CIN (own : String) (ix : Nat) (y : YI) : Prop := ∃ host : String, Cond.methodLinkNest own ix (yN y) host ∈ lw_tbl ∧ Cond.instanceMethod (yN y) ∈ WT ∧ (yN y).name = "<init>"
def CI (own : String) (ix : Nat) (y : YI) : Prop := Cond.methodLink own ix (yN y) ∈ WT ∧ Cond.instanceMethod (yN y) ∈ WT ∧ (yN y).name = "<init>"
def rmOk (y y' : YI) : Prop := (yR y').frames + 1 ≤ (yR y).frames ∧ 8 + (yL y' + 11) + (yR y').locals ≤ (yR y).locals
def entl : List Value → List (Option Value)
  | [] => []
  | v :: r => if v.category = 2 then some v :: none :: entl r else some v :: entl r
def ent0 (y : YI) (av : List Value) : List (Option Value) := entl av ++ List.replicate (yL y - (entl av).length) none
def pushR : Option Value → List Value → List Value
  | none, st => st
  | some v, st => v :: st
theorem pushR_eq (E : EV) (r : Option Value) (st : List Value) : (pushR r st).map (trv E) = (r.map (trv E)).toList ++ st.map (trv E) := by cases r <;> rfl
theorem lvl_none {E : EV} : ∀ (m i0 : Nat), lvl E i0 (List.replicate m none) = [] := by
  intro m
  induction m with
  | zero => intro i0; rfl
  | succ m ih => intro i0; rw [List.replicate_succ]; exact ih (i0 + 1)
theorem lvl_app_none {E : EV} (m : Nat) : ∀ (ls : List (Option Value)) (i0 : Nat), lvl E i0 (ls ++ List.replicate m none) = lvl E i0 ls := by
  intro ls
  induction ls with
  | nil => intro i0; exact lvl_none m i0
  | cons a r ih =>
    intro i0
    cases a with
    | none => exact ih (i0 + 1)
    | some v => show (i0, trv E v) :: lvl E (i0 + 1) (r ++ _) = _; rw [ih]; rfl
theorem lvl_entl {E : EV} : ∀ (av : List Value) (i0 : Nat), lvl E i0 (entl av) = lv_args i0 (av.map (trv E)) := by
  intro av
  induction av with
  | nil => intro i0; rfl
  | cons v r ih =>
    intro i0
    simp only [entl, List.map_cons, lv_args, trv_cat]
    by_cases hc : v.category = 2
    · simp only [hc, if_true]
      show (i0, trv E v) :: lvl E (i0 + 1 + 1) (entl r) = _
      rw [ih]
    · simp only [hc, if_false]
      show (i0, trv E v) :: lvl E (i0 + 1) (entl r) = _
      rw [ih]
theorem entl_len {E : EV} : ∀ (av : List Value), (lg_sl (av.map (trv E))).length = (entl av).length := by
  intro av
  induction av with
  | nil => rfl
  | cons v r ih =>
    simp only [lg_sl] at ih
    simp only [lg_sl, entl, List.map_cons, List.flatMap_cons, List.length_append, trv_cat, ih]
    by_cases hc : v.category = 2
    · simp only [hc, if_true, List.length_cons, List.length_nil]; omega
    · simp only [hc, if_false, List.length_cons, List.length_nil]; omega
set_option maxHeartbeats 1000000 in
/-- a walk of a method's body from its entry is its contract -/
theorem met_of_X {y : YI} {np : Nat} {Po : Option Value → HS → Prop} {av : List Value} {ls0 : List (Option Value)} {h : HS} (E : EV) (l : Launch) (ok : YOK y np) (he : ent0 y av = ls0) (hlen : (entl av).length ≤ yL y) (hX : xj y (mG y Po) 0 ls0 [] h 0 0) :
    Met l (yN y) (wsy y) (yR y) (va_Pc (av.map (trv E)) (fun U => HH E h U.heap ∧ va_K E.2.2.1 kcl (tyl E) U ∧ NOk U)) (QQ E Po) (yR y).cells (yR y).slots (fun q => E.1 < q) := by
  refine va_MetF (cc := yB y) (maxL := yL y) (ret := yT y) ok.1 rfl ?_
  intro p e s m args below meth c s₁ B hml hv
  obtain ⟨rfl, hH, hK, hNo⟩ := hv
  have hl := lv_entry (av.map (trv E)) (n := yL y) (by rw [entl_len]; exact hlen)
  rw [lg_entry_eq]
  have hts := atoms_spec (ws := wsy y) B.pre
  refine hX E p l e s m _ below meth c s.heap [] _ ⟨B.exec, B.bytes, B.returns, hml, findClass_of_methodNamed B.named, fun w hw => hts w (List.mem_cons_of_mem _ hw), B.notSynchronized, hK, ?_, (name_of_methodNamed B.named B.method).1, hNo, trivial⟩ hH va_S.rf ?_
  · have := hH.2
    omega
  · subst he
    unfold ent0
    rw [lvl_app_none, lvl_entl]
    exact hl
