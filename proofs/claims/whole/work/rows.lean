section
-- ===== PART A: goes FIRST, ahead of the names: the tables' words, and 'selects' of the private methods out of them =====
/-- a private method of a class that the tables say can be made, by its rows of tables_1 -/
def lw_okq (q : MethodName × Nat) : Prop := (q.1.cls ≠ "java/lang/invoke/MethodHandle" ∧ q.1.cls ≠ "java/lang/invoke/VarHandle") ∧ Cond.instantiable q.1.cls q.2 ∈ tables_1 ∧ Cond.privateMethod q.1 ∈ tables_1 ∧ Cond.instanceMethod q.1 ∈ tables_1
theorem lw_p0 : lw_okq (⟨"KiteYards$Text", "fits", "(II)Z"⟩, 2) := ⟨⟨by decide +kernel, by decide +kernel⟩, List.mem_of_getElem? (i := 22) (by decide +kernel), List.mem_of_getElem? (i := 266) (by decide +kernel), List.mem_of_getElem? (i := 267) (by decide +kernel)⟩
theorem lw_p1 : lw_okq (⟨"KiteYards$Text", "fitsPart", "(II)Z"⟩, 2) := ⟨⟨by decide +kernel, by decide +kernel⟩, List.mem_of_getElem? (i := 22) (by decide +kernel), List.mem_of_getElem? (i := 270) (by decide +kernel), List.mem_of_getElem? (i := 271) (by decide +kernel)⟩
theorem lw_p2 : lw_okq (⟨"KiteYards$Text", "figure", "(I)I"⟩, 2) := ⟨⟨by decide +kernel, by decide +kernel⟩, List.mem_of_getElem? (i := 22) (by decide +kernel), List.mem_of_getElem? (i := 282) (by decide +kernel), List.mem_of_getElem? (i := 283) (by decide +kernel)⟩
theorem lw_p3 : lw_okq (⟨"KiteYards", "forgetKept", "()V"⟩, 12) := ⟨⟨by decide +kernel, by decide +kernel⟩, List.mem_of_getElem? (i := 14) (by decide +kernel), List.mem_of_getElem? (i := 293) (by decide +kernel), List.mem_of_getElem? (i := 294) (by decide +kernel)⟩
theorem lw_p4 : lw_okq (⟨"KiteYards$Past", "forgetFirst", "()V"⟩, 2) := ⟨⟨by decide +kernel, by decide +kernel⟩, List.mem_of_getElem? (i := 92) (by decide +kernel), List.mem_of_getElem? (i := 337) (by decide +kernel), List.mem_of_getElem? (i := 338) (by decide +kernel)⟩
theorem lw_p5 : lw_okq (⟨"KiteYards$Flight", "sight", "()I"⟩, 4) := ⟨⟨by decide +kernel, by decide +kernel⟩, List.mem_of_getElem? (i := 132) (by decide +kernel), List.mem_of_getElem? (i := 382) (by decide +kernel), List.mem_of_getElem? (i := 383) (by decide +kernel)⟩
theorem lw_p6 : lw_okq (⟨"KiteYards", "seekYards", "(I)V"⟩, 12) := ⟨⟨by decide +kernel, by decide +kernel⟩, List.mem_of_getElem? (i := 14) (by decide +kernel), List.mem_of_getElem? (i := 393) (by decide +kernel), List.mem_of_getElem? (i := 394) (by decide +kernel)⟩
theorem lw_p7 : lw_okq (⟨"KiteYards", "letOutByWay", "()Z"⟩, 12) := ⟨⟨by decide +kernel, by decide +kernel⟩, List.mem_of_getElem? (i := 14) (by decide +kernel), List.mem_of_getElem? (i := 419) (by decide +kernel), List.mem_of_getElem? (i := 420) (by decide +kernel)⟩
theorem lw_p8 : lw_okq (⟨"KiteYards", "trialViews", "(I)Z"⟩, 12) := ⟨⟨by decide +kernel, by decide +kernel⟩, List.mem_of_getElem? (i := 14) (by decide +kernel), List.mem_of_getElem? (i := 423) (by decide +kernel), List.mem_of_getElem? (i := 424) (by decide +kernel)⟩
theorem lw_p9 : lw_okq (⟨"KiteYards", "seekBridles", "(I)V"⟩, 12) := ⟨⟨by decide +kernel, by decide +kernel⟩, List.mem_of_getElem? (i := 14) (by decide +kernel), List.mem_of_getElem? (i := 444) (by decide +kernel), List.mem_of_getElem? (i := 445) (by decide +kernel)⟩
theorem lw_p10 : lw_okq (⟨"KiteYards", "setByWay", "()I"⟩, 12) := ⟨⟨by decide +kernel, by decide +kernel⟩, List.mem_of_getElem? (i := 14) (by decide +kernel), List.mem_of_getElem? (i := 448) (by decide +kernel), List.mem_of_getElem? (i := 449) (by decide +kernel)⟩
theorem lw_p11 : lw_okq (⟨"KiteYards", "viewOf", "(I)I"⟩, 12) := ⟨⟨by decide +kernel, by decide +kernel⟩, List.mem_of_getElem? (i := 14) (by decide +kernel), List.mem_of_getElem? (i := 473) (by decide +kernel), List.mem_of_getElem? (i := 474) (by decide +kernel)⟩
theorem lw_p12 : lw_okq (⟨"KiteYards", "seekWinds", "()I"⟩, 12) := ⟨⟨by decide +kernel, by decide +kernel⟩, List.mem_of_getElem? (i := 14) (by decide +kernel), List.mem_of_getElem? (i := 535) (by decide +kernel), List.mem_of_getElem? (i := 536) (by decide +kernel)⟩
theorem lw_p13 : lw_okq (⟨"KiteYards", "seekRests", "(IIII)V"⟩, 12) := ⟨⟨by decide +kernel, by decide +kernel⟩, List.mem_of_getElem? (i := 14) (by decide +kernel), List.mem_of_getElem? (i := 556) (by decide +kernel), List.mem_of_getElem? (i := 557) (by decide +kernel)⟩
theorem lw_p14 : lw_okq (⟨"KiteYards", "isNearest", "(II)Z"⟩, 12) := ⟨⟨by decide +kernel, by decide +kernel⟩, List.mem_of_getElem? (i := 14) (by decide +kernel), List.mem_of_getElem? (i := 560) (by decide +kernel), List.mem_of_getElem? (i := 561) (by decide +kernel)⟩
theorem lw_p15 : lw_okq (⟨"KiteYards", "distanceBy", "(III)I"⟩, 12) := ⟨⟨by decide +kernel, by decide +kernel⟩, List.mem_of_getElem? (i := 14) (by decide +kernel), List.mem_of_getElem? (i := 564) (by decide +kernel), List.mem_of_getElem? (i := 565) (by decide +kernel)⟩
def lw_privs_1 : List (MethodName × Nat) := [(⟨"KiteYards$Text", "fits", "(II)Z"⟩, 2), (⟨"KiteYards$Text", "fitsPart", "(II)Z"⟩, 2), (⟨"KiteYards$Text", "figure", "(I)I"⟩, 2), (⟨"KiteYards", "forgetKept", "()V"⟩, 12), (⟨"KiteYards$Past", "forgetFirst", "()V"⟩, 2), (⟨"KiteYards$Flight", "sight", "()I"⟩, 4), (⟨"KiteYards", "seekYards", "(I)V"⟩, 12), (⟨"KiteYards", "letOutByWay", "()Z"⟩, 12), (⟨"KiteYards", "trialViews", "(I)Z"⟩, 12), (⟨"KiteYards", "seekBridles", "(I)V"⟩, 12), (⟨"KiteYards", "setByWay", "()I"⟩, 12), (⟨"KiteYards", "viewOf", "(I)I"⟩, 12), (⟨"KiteYards", "seekWinds", "()I"⟩, 12), (⟨"KiteYards", "seekRests", "(IIII)V"⟩, 12), (⟨"KiteYards", "isNearest", "(II)Z"⟩, 12), (⟨"KiteYards", "distanceBy", "(III)I"⟩, 12)]
theorem lw_r1 : ∀ q ∈ lw_privs_1, lw_okq q := List.forall_mem_cons.mpr ⟨lw_p0, List.forall_mem_cons.mpr ⟨lw_p1, List.forall_mem_cons.mpr ⟨lw_p2, List.forall_mem_cons.mpr ⟨lw_p3, List.forall_mem_cons.mpr ⟨lw_p4, List.forall_mem_cons.mpr ⟨lw_p5, List.forall_mem_cons.mpr ⟨lw_p6, List.forall_mem_cons.mpr ⟨lw_p7, List.forall_mem_cons.mpr ⟨lw_p8, List.forall_mem_cons.mpr ⟨lw_p9, List.forall_mem_cons.mpr ⟨lw_p10, List.forall_mem_cons.mpr ⟨lw_p11, List.forall_mem_cons.mpr ⟨lw_p12, List.forall_mem_cons.mpr ⟨lw_p13, List.forall_mem_cons.mpr ⟨lw_p14, List.forall_mem_cons.mpr ⟨lw_p15, fun _ h => absurd h List.not_mem_nil⟩⟩⟩⟩⟩⟩⟩⟩⟩⟩⟩⟩⟩⟩⟩⟩
theorem lw_p16 : lw_okq (⟨"KiteYards", "calmIn", "(II)I"⟩, 12) := ⟨⟨by decide +kernel, by decide +kernel⟩, List.mem_of_getElem? (i := 14) (by decide +kernel), List.mem_of_getElem? (i := 572) (by decide +kernel), List.mem_of_getElem? (i := 573) (by decide +kernel)⟩
theorem lw_p17 : lw_okq (⟨"KiteYards", "slotLine", "(I)LKiteYards$Line;"⟩, 12) := ⟨⟨by decide +kernel, by decide +kernel⟩, List.mem_of_getElem? (i := 14) (by decide +kernel), List.mem_of_getElem? (i := 591) (by decide +kernel), List.mem_of_getElem? (i := 592) (by decide +kernel)⟩
theorem lw_p18 : lw_okq (⟨"KiteYardsModel", "readString", "()I"⟩, 38) := ⟨⟨by decide +kernel, by decide +kernel⟩, List.mem_of_getElem? (i := 599) (by decide +kernel), List.mem_of_getElem? (i := 736) (by decide +kernel), List.mem_of_getElem? (i := 737) (by decide +kernel)⟩
theorem lw_p19 : lw_okq (⟨"KiteYardsModel", "readHead", "()Z"⟩, 38) := ⟨⟨by decide +kernel, by decide +kernel⟩, List.mem_of_getElem? (i := 599) (by decide +kernel), List.mem_of_getElem? (i := 740) (by decide +kernel), List.mem_of_getElem? (i := 741) (by decide +kernel)⟩
theorem lw_p20 : lw_okq (⟨"KiteYardsModel", "figure", "(II)I"⟩, 38) := ⟨⟨by decide +kernel, by decide +kernel⟩, List.mem_of_getElem? (i := 599) (by decide +kernel), List.mem_of_getElem? (i := 744) (by decide +kernel), List.mem_of_getElem? (i := 745) (by decide +kernel)⟩
theorem lw_p21 : lw_okq (⟨"KiteYardsModel", "layPage", "()V"⟩, 38) := ⟨⟨by decide +kernel, by decide +kernel⟩, List.mem_of_getElem? (i := 599) (by decide +kernel), List.mem_of_getElem? (i := 756) (by decide +kernel), List.mem_of_getElem? (i := 757) (by decide +kernel)⟩
theorem lw_p22 : lw_okq (⟨"KiteYardsModel", "lay", "([I[I)V"⟩, 38) := ⟨⟨by decide +kernel, by decide +kernel⟩, List.mem_of_getElem? (i := 599) (by decide +kernel), List.mem_of_getElem? (i := 760) (by decide +kernel), List.mem_of_getElem? (i := 761) (by decide +kernel)⟩
theorem lw_p23 : lw_okq (⟨"KiteYardsModel", "yardsFrom", "(I)I"⟩, 38) := ⟨⟨by decide +kernel, by decide +kernel⟩, List.mem_of_getElem? (i := 599) (by decide +kernel), List.mem_of_getElem? (i := 767) (by decide +kernel), List.mem_of_getElem? (i := 768) (by decide +kernel)⟩
theorem lw_p24 : lw_okq (⟨"KiteYardsModel", "noKite", "(I)Z"⟩, 38) := ⟨⟨by decide +kernel, by decide +kernel⟩, List.mem_of_getElem? (i := 599) (by decide +kernel), List.mem_of_getElem? (i := 775) (by decide +kernel), List.mem_of_getElem? (i := 776) (by decide +kernel)⟩
theorem lw_p25 : lw_okq (⟨"KiteYardsModel", "note", "()V"⟩, 38) := ⟨⟨by decide +kernel, by decide +kernel⟩, List.mem_of_getElem? (i := 599) (by decide +kernel), List.mem_of_getElem? (i := 786) (by decide +kernel), List.mem_of_getElem? (i := 787) (by decide +kernel)⟩
theorem lw_p26 : lw_okq (⟨"KiteYardsModel", "doesSee", "([II)Z"⟩, 38) := ⟨⟨by decide +kernel, by decide +kernel⟩, List.mem_of_getElem? (i := 599) (by decide +kernel), List.mem_of_getElem? (i := 814) (by decide +kernel), List.mem_of_getElem? (i := 815) (by decide +kernel)⟩
theorem lw_p27 : lw_okq (⟨"KiteYardsModel", "findWay", "(IZ)V"⟩, 38) := ⟨⟨by decide +kernel, by decide +kernel⟩, List.mem_of_getElem? (i := 599) (by decide +kernel), List.mem_of_getElem? (i := 825) (by decide +kernel), List.mem_of_getElem? (i := 826) (by decide +kernel)⟩
theorem lw_p28 : lw_okq (⟨"KiteYardsModel", "begin", "()V"⟩, 38) := ⟨⟨by decide +kernel, by decide +kernel⟩, List.mem_of_getElem? (i := 599) (by decide +kernel), List.mem_of_getElem? (i := 832) (by decide +kernel), List.mem_of_getElem? (i := 833) (by decide +kernel)⟩
theorem lw_p29 : lw_okq (⟨"KiteYardsModel", "worthOf", "(I)I"⟩, 38) := ⟨⟨by decide +kernel, by decide +kernel⟩, List.mem_of_getElem? (i := 599) (by decide +kernel), List.mem_of_getElem? (i := 852) (by decide +kernel), List.mem_of_getElem? (i := 853) (by decide +kernel)⟩
theorem lw_p30 : lw_okq (⟨"KiteYardsModel", "bridles", "()I"⟩, 38) := ⟨⟨by decide +kernel, by decide +kernel⟩, List.mem_of_getElem? (i := 599) (by decide +kernel), List.mem_of_getElem? (i := 879) (by decide +kernel), List.mem_of_getElem? (i := 880) (by decide +kernel)⟩
theorem lw_p31 : lw_okq (⟨"KiteYardsModel", "findWinds", "()V"⟩, 38) := ⟨⟨by decide +kernel, by decide +kernel⟩, List.mem_of_getElem? (i := 599) (by decide +kernel), List.mem_of_getElem? (i := 907) (by decide +kernel), List.mem_of_getElem? (i := 908) (by decide +kernel)⟩
def lw_privs_2 : List (MethodName × Nat) := [(⟨"KiteYards", "calmIn", "(II)I"⟩, 12), (⟨"KiteYards", "slotLine", "(I)LKiteYards$Line;"⟩, 12), (⟨"KiteYardsModel", "readString", "()I"⟩, 38), (⟨"KiteYardsModel", "readHead", "()Z"⟩, 38), (⟨"KiteYardsModel", "figure", "(II)I"⟩, 38), (⟨"KiteYardsModel", "layPage", "()V"⟩, 38), (⟨"KiteYardsModel", "lay", "([I[I)V"⟩, 38), (⟨"KiteYardsModel", "yardsFrom", "(I)I"⟩, 38), (⟨"KiteYardsModel", "noKite", "(I)Z"⟩, 38), (⟨"KiteYardsModel", "note", "()V"⟩, 38), (⟨"KiteYardsModel", "doesSee", "([II)Z"⟩, 38), (⟨"KiteYardsModel", "findWay", "(IZ)V"⟩, 38), (⟨"KiteYardsModel", "begin", "()V"⟩, 38), (⟨"KiteYardsModel", "worthOf", "(I)I"⟩, 38), (⟨"KiteYardsModel", "bridles", "()I"⟩, 38), (⟨"KiteYardsModel", "findWinds", "()V"⟩, 38)]
theorem lw_r2 : ∀ q ∈ lw_privs_2, lw_okq q := List.forall_mem_cons.mpr ⟨lw_p16, List.forall_mem_cons.mpr ⟨lw_p17, List.forall_mem_cons.mpr ⟨lw_p18, List.forall_mem_cons.mpr ⟨lw_p19, List.forall_mem_cons.mpr ⟨lw_p20, List.forall_mem_cons.mpr ⟨lw_p21, List.forall_mem_cons.mpr ⟨lw_p22, List.forall_mem_cons.mpr ⟨lw_p23, List.forall_mem_cons.mpr ⟨lw_p24, List.forall_mem_cons.mpr ⟨lw_p25, List.forall_mem_cons.mpr ⟨lw_p26, List.forall_mem_cons.mpr ⟨lw_p27, List.forall_mem_cons.mpr ⟨lw_p28, List.forall_mem_cons.mpr ⟨lw_p29, List.forall_mem_cons.mpr ⟨lw_p30, List.forall_mem_cons.mpr ⟨lw_p31, fun _ h => absurd h List.not_mem_nil⟩⟩⟩⟩⟩⟩⟩⟩⟩⟩⟩⟩⟩⟩⟩⟩
theorem lw_p32 : lw_okq (⟨"KiteYardsModel", "findRests", "(IIII)V"⟩, 38) := ⟨⟨by decide +kernel, by decide +kernel⟩, List.mem_of_getElem? (i := 599) (by decide +kernel), List.mem_of_getElem? (i := 917) (by decide +kernel), List.mem_of_getElem? (i := 918) (by decide +kernel)⟩
theorem lw_p33 : lw_okq (⟨"KiteYardsModel", "farBy", "(IIIIZI)I"⟩, 38) := ⟨⟨by decide +kernel, by decide +kernel⟩, List.mem_of_getElem? (i := 599) (by decide +kernel), List.mem_of_getElem? (i := 921) (by decide +kernel), List.mem_of_getElem? (i := 922) (by decide +kernel)⟩
def lw_privs_3 : List (MethodName × Nat) := [(⟨"KiteYardsModel", "findRests", "(IIII)V"⟩, 38), (⟨"KiteYardsModel", "farBy", "(IIIIZI)I"⟩, 38)]
theorem lw_r3 : ∀ q ∈ lw_privs_3, lw_okq q := List.forall_mem_cons.mpr ⟨lw_p32, List.forall_mem_cons.mpr ⟨lw_p33, fun _ h => absurd h List.not_mem_nil⟩⟩
def lw_privs : List (MethodName × Nat) := lw_privs_1 ++ (lw_privs_2 ++ (lw_privs_3))
def lw_tbl : List Cond := k2_sels lw_privs ++ tables_1
theorem lw_privs_ok : ∀ q ∈ lw_privs, lw_okq q := by
  show ∀ q ∈ lw_privs_1 ++ (lw_privs_2 ++ (lw_privs_3)), lw_okq q
  exact List.forall_mem_append.mpr ⟨lw_r1, List.forall_mem_append.mpr ⟨lw_r2, lw_r3⟩⟩
end
section
/-! THE JUDGEMENT X: a frame of a method over a heap whose cells are numbered from 1 (the script is 0) -/
def WT : List Cond := lw_tbl.filter goodWord
theorem goodT {ws : List Cond} (h : ∀ w ∈ ws, w ∈ WT) : GoodIn WT ws := fun w hw => ⟨h w hw, good_of_word (List.mem_filter.mp (h w hw)).2⟩
theorem nT {w : Cond} {i : Nat} (h : tables_1[i]? = some w) : w ∈ lw_tbl := List.mem_append_right _ (List.mem_of_getElem? h)
theorem mT {w : Cond} {i : Nat} (h : tables_1[i]? = some w) (hg : goodWord w = true) : w ∈ WT := List.mem_filter.mpr ⟨nT h, hg⟩
theorem mS {q : MethodName × Nat} (i : Nat) (h : lw_privs[i]? = some q) : Cond.selects q.1.cls q.1 q.1 ∈ WT := List.mem_filter.mpr ⟨List.mem_append_left _ (by
  have := List.mem_of_getElem? h
  simp only [k2_sels, List.mem_map]
  exact ⟨q, this, rfl⟩), rfl⟩
theorem inT {ws : List Cond} (h : ws.all (fun w => decide (w ∈ tables_1) && goodWord w) = true) : ∀ w ∈ ws, w ∈ WT := fun w hw => by
  have h1 := List.all_eq_true.mp h w hw
  simp only [Bool.and_eq_true, decide_eq_true_eq] at h1
  exact List.mem_filter.mpr ⟨List.mem_append_right _ h1.1, h1.2⟩
/-- the words of nest mates and of the arrays of lines, which are carried along -/
def NOk (U : State) : Prop := (∀ (a : String) (i : Nat) (x : MethodName) (h : String), Cond.methodLinkNest a i x h ∈ lw_tbl → va_Nw (.methodLinkNest a i x h) U) ∧ va_AO "KiteYards$Line" U
theorem NOk.warm {s U : State} (hW : s.WarmedH U.vm) (h : NOk s) : NOk U := ⟨fun a i x g hm => va_Nw.warmM hW (h.1 a i x g hm), va_AO.moved hW.alike h.2⟩
theorem NOk.same {u U : State} (e : u.vm = U.vm) (h : NOk u) : NOk U := ⟨fun a i x g hm => va_Nw.same rfl e (h.1 a i x g hm), va_AO.moved (by rw [e]; exact Vm.Alike.refl _) h.2⟩
abbrev YI : Type := MethodName × (ByteArray × (Nat × (Option FieldType × Room)))
abbrev yN (y : YI) : MethodName := y.1
abbrev yB (y : YI) : ByteArray := y.2.1
abbrev yL (y : YI) : Nat := y.2.2.1
abbrev yT (y : YI) : Option FieldType := y.2.2.2.1
abbrev yR (y : YI) : Room := y.2.2.2.2
def wsy (y : YI) : List Cond := .code (yN y) (yB y) (yL y) (yT y) :: WT
abbrev MC : Type := (Nat × vp_A) ⊕ (Nat × List Value)
abbrev HS : Type := Nat × (Nat → MC)
abbrev EV : Type := Nat × (Nat × (va_G × (Nat → ClassId)))
def trv (E : EV) : Value → Value
  | .ref a => .ref (if a = 0 then E.2.1 else E.1 + a)
  | v => v
theorem trv_cat (E : EV) (v : Value) : (trv E v).category = v.category := by cases v <;> rfl
theorem trv_ref {E : EV} {a : Nat} (h : 1 ≤ a) : trv E (.ref a) = .ref (E.1 + a) := by
  show Value.ref (if a = 0 then E.2.1 else E.1 + a) = _
  rw [if_neg (by omega)]
theorem trv_cats (E : EV) (st : List Value) : ((st.map (trv E)).map fun v => v.category) = st.map fun v => v.category := by
  rw [List.map_map]
  exact List.map_congr_left fun v _ => trv_cat E v
def trc (E : EV) : MC → va_E
  | .inl (t, (n, .inr (.inr (.inr (.inr f))))) => .inl (E.2.2.2 t, (n, .inr (.inr (.inr (.inr (fun j => (f j).map (fun a => E.1 + a)))))))
  | .inl (t, a) => .inl (E.2.2.2 t, a)
  | .inr (ci, fs) => .inr (ci, fs.map (trv E))
def wl (E : EV) (h : HS) : va_W := (List.range h.1).map (fun k => (E.1 + (k + 1), trc E (h.2 (k + 1))))
def hset (h : HS) (a : Nat) (c : MC) : HS := (h.1, fun j => if j = a then c else h.2 j)
def hpush (h : HS) (c : MC) : HS := (h.1 + 1, fun j => if j = h.1 + 1 then c else h.2 j)
theorem wl_get {E : EV} {h : HS} {a : Nat} (h1 : 1 ≤ a) (h2 : a ≤ h.1) : (wl E h)[a - 1]? = some (E.1 + a, trc E (h.2 a)) := by
  unfold wl
  rw [List.getElem?_map, List.getElem?_range (by omega)]
  simp only [Option.map_some]
  rw [show a - 1 + 1 = a by omega]
theorem wl_at {E : EV} {h : HS} {k : Nat} {q : Nat × va_E} (hk : (wl E h)[k]? = some q) : k < h.1 ∧ q = (E.1 + (k + 1), trc E (h.2 (k + 1))) := by
  unfold wl at hk
  rw [List.getElem?_map] at hk
  by_cases hl : k < h.1
  · rw [List.getElem?_range hl] at hk
    exact ⟨hl, (Option.some.inj hk).symm⟩
  · rw [List.getElem?_eq_none (by simp; omega)] at hk
    cases hk
theorem wl_set {E : EV} {h : HS} {a : Nat} {c : MC} (h1 : 1 ≤ a) (h2 : a ≤ h.1) : (wl E h).set (a - 1) (E.1 + a, trc E c) = wl E (hset h a c) := by
  apply List.ext_getElem?
  intro k
  unfold wl hset
  rw [List.getElem?_set]
  simp only [List.length_map, List.length_range, List.getElem?_map]
  by_cases hk : a - 1 = k
  · subst hk
    rw [if_pos rfl, if_pos (by omega), List.getElem?_range (by omega)]
    simp only [Option.map_some]
    rw [show a - 1 + 1 = a by omega, if_pos rfl]
  · rw [if_neg hk]
    by_cases hl : k < h.1
    · rw [List.getElem?_range hl]
      simp only [Option.map_some]
      rw [if_neg (by omega)]
    · rw [List.getElem?_eq_none (by simp; omega)]
      rfl
theorem wl_push {E : EV} {h : HS} {c : MC} : wl E h ++ [(E.1 + (h.1 + 1), trc E c)] = wl E (hpush h c) := by
  unfold wl hpush
  simp only [List.range_succ, List.map_append, List.map_cons, List.map_nil, if_true]
  congr 1
  apply List.map_congr_left
  intro k hk
  have := List.mem_range.mp hk
  rw [if_neg (by omega)]
theorem wl_D (E : EV) (h : HS) : va_D (fun q => E.1 < q) (wl E h) := by
  refine ⟨fun i j p q hi hj hpq => ?_, fun k q hk => ?_⟩
  · obtain ⟨-, rfl⟩ := wl_at hi
    obtain ⟨-, rfl⟩ := wl_at hj
    have : E.1 + (i + 1) = E.1 + (j + 1) := hpq
    omega
  · obtain ⟨-, rfl⟩ := wl_at hk
    show E.1 < E.1 + (k + 1)
    omega
def TBest : u_T := fun k => match k with
  | 0 => ("KiteYards$Best", "cost", "I", false)
  | _ => ("KiteYards$Best", "number", "I", false)
def TFlight : u_T := fun k => match k with
  | 0 => ("KiteYards$Flight", "heights", "[I", true)
  | 1 => ("KiteYards$Flight", "places", "[I", true)
  | 2 => ("KiteYards$Flight", "count", "I", false)
  | _ => ("KiteYards$Flight", "folding", "I", false)
def TLine : u_T := fun k => match k with
  | 0 => ("KiteYards$Line", "count", "I", false)
  | 1 => ("KiteYards$Line", "low", "I", false)
  | 2 => ("KiteYards$Line", "high", "I", false)
  | 3 => ("KiteYards$Line", "border", "I", false)
  | 4 => ("KiteYards$Line", "fold", "I", false)
  | 5 => ("KiteYards$Line", "yards", "[I", true)
  | 6 => ("KiteYards$Line", "bridles", "[I", true)
  | _ => ("KiteYards$Line", "tails", "[I", true)
def TPast : u_T := fun k => match k with
  | 0 => ("KiteYards$Past", "rows", "[LKiteYards$Line;", true)
  | _ => ("KiteYards$Past", "count", "I", false)
def TSightings : u_T := fun k => match k with
  | 0 => ("KiteYards$Sightings", "kites", "[I", true)
  | 1 => ("KiteYards$Sightings", "places", "[I", true)
  | _ => ("KiteYards$Sightings", "count", "I", false)
def TTally : u_T := fun k => match k with
  | 0 => ("KiteYards$Tally", "count", "I", false)
  | _ => ("KiteYards$Tally", "first", "I", false)
def TText : u_T := fun k => match k with
  | 0 => ("KiteYards$Text", "letters", "[I", true)
  | _ => ("KiteYards$Text", "length", "I", false)
def TWay : u_T := fun k => match k with
  | 0 => ("KiteYards$Way", "figures", "[I", true)
  | 1 => ("KiteYards$Way", "count", "I", false)
  | _ => ("KiteYards$Way", "highest", "I", false)
def TK : u_T := fun k => match k with
  | 0 => ("KiteYards", "text", "LKiteYards$Text;", true)
  | 1 => ("KiteYards", "now", "LKiteYards$Line;", true)
  | 2 => ("KiteYards", "past", "LKiteYards$Past;", true)
  | 3 => ("KiteYards", "kept", "[LKiteYards$Line;", true)
  | 4 => ("KiteYards", "holds", "[Z", true)
  | 5 => ("KiteYards", "sightings", "LKiteYards$Sightings;", true)
  | 6 => ("KiteYards", "seedNow", "J", false)
  | 7 => ("KiteYards", "trial", "LKiteYards$Line;", true)
  | 8 => ("KiteYards", "flight", "LKiteYards$Flight;", true)
  | 9 => ("KiteYards", "way", "LKiteYards$Way;", true)
  | 10 => ("KiteYards", "best", "LKiteYards$Best;", true)
  | _ => ("KiteYards", "tally", "LKiteYards$Tally;", true)
def TM : u_T := fun k => match k with
  | 0 => ("KiteYardsModel", "thrown", "I", false)
  | 1 => ("KiteYardsModel", "text", "[I", true)
  | 2 => ("KiteYardsModel", "textSize", "I", false)
  | 3 => ("KiteYardsModel", "place", "I", false)
  | 4 => ("KiteYardsModel", "border", "I", false)
  | 5 => ("KiteYardsModel", "fold", "I", false)
  | 6 => ("KiteYardsModel", "tail", "[I", true)
  | 7 => ("KiteYardsModel", "readKites", "I", false)
  | 8 => ("KiteYardsModel", "readLow", "I", false)
  | 9 => ("KiteYardsModel", "readHigh", "I", false)
  | 10 => ("KiteYardsModel", "readBorder", "I", false)
  | 11 => ("KiteYardsModel", "readFold", "I", false)
  | 12 => ("KiteYardsModel", "readYards", "[I", true)
  | 13 => ("KiteYardsModel", "readBridle", "[I", true)
  | 14 => ("KiteYardsModel", "readTail", "[I", true)
  | 15 => ("KiteYardsModel", "page", "[I", true)
  | 16 => ("KiteYardsModel", "trial", "[I", true)
  | 17 => ("KiteYardsModel", "book", "[I", true)
  | 18 => ("KiteYardsModel", "acts", "I", false)
  | 19 => ("KiteYardsModel", "kept", "[I", true)
  | 20 => ("KiteYardsModel", "isKept", "[Z", true)
  | 21 => ("KiteYardsModel", "seen", "I", false)
  | 22 => ("KiteYardsModel", "seenKite", "[I", true)
  | 23 => ("KiteYardsModel", "seenPlace", "[I", true)
  | 24 => ("KiteYardsModel", "seed", "J", false)
  | 25 => ("KiteYardsModel", "height", "[I", true)
  | 26 => ("KiteYardsModel", "lean", "[I", true)
  | 27 => ("KiteYardsModel", "at", "[I", true)
  | 28 => ("KiteYardsModel", "trialTail", "[I", true)
  | 29 => ("KiteYardsModel", "folds", "I", false)
  | 30 => ("KiteYardsModel", "wayBest", "I", false)
  | 31 => ("KiteYardsModel", "wayCost", "I", false)
  | 32 => ("KiteYardsModel", "windMany", "I", false)
  | 33 => ("KiteYardsModel", "windFirst", "I", false)
  | 34 => ("KiteYardsModel", "windLow", "I", false)
  | 35 => ("KiteYardsModel", "restMany", "I", false)
  | 36 => ("KiteYardsModel", "restFirst", "I", false)
  | _ => ("KiteYardsModel", "worth", "[I", true)
/-- the classes, in the order of their numbers -/
abbrev kcl : List vw_C := [("KiteYards$Best", TBest, 2), ("KiteYards$Flight", TFlight, 4), ("KiteYards$Line", TLine, 8), ("KiteYards$Past", TPast, 2), ("KiteYards$Sightings", TSightings, 3), ("KiteYards$Tally", TTally, 2), ("KiteYards$Text", TText, 2), ("KiteYards$Way", TWay, 3), ("KiteYards", TK, 12), ("KiteYardsModel", TM, 38)]
def dty (d : String) : FieldType := (parseFieldDescriptor d).getD .int
def dfl (r : vw_C) : List Value := (List.range r.2.2).map fun j => defaultValue (dty (r.2.1 j).2.2.1)
def ClsOk (r : vw_C) : Prop := (∀ w ∈ u_ws r.1 r.2.1 r.2.2, w ∈ WT) ∧ (∀ a, a < r.2.2 → ∀ b, b < r.2.2 → a ≠ b → (r.2.1 a).2.1 ≠ (r.2.1 b).2.1) ∧ ∀ k, k < r.2.2 → parseFieldDescriptor (r.2.1 k).2.2.1 = some (dty (r.2.1 k).2.2.1)
theorem clsOk_Best : ClsOk ("KiteYards$Best", TBest, 2) := ⟨inT (by decide +kernel), by decide +kernel, by decide +kernel⟩
theorem clsOk_Flight : ClsOk ("KiteYards$Flight", TFlight, 4) := ⟨inT (by decide +kernel), by decide +kernel, by decide +kernel⟩
theorem clsOk_Line : ClsOk ("KiteYards$Line", TLine, 8) := ⟨inT (by decide +kernel), by decide +kernel, by decide +kernel⟩
theorem clsOk_Past : ClsOk ("KiteYards$Past", TPast, 2) := ⟨inT (by decide +kernel), by decide +kernel, by decide +kernel⟩
theorem clsOk_Sightings : ClsOk ("KiteYards$Sightings", TSightings, 3) := ⟨inT (by decide +kernel), by decide +kernel, by decide +kernel⟩
theorem clsOk_Tally : ClsOk ("KiteYards$Tally", TTally, 2) := ⟨inT (by decide +kernel), by decide +kernel, by decide +kernel⟩
theorem clsOk_Text : ClsOk ("KiteYards$Text", TText, 2) := ⟨inT (by decide +kernel), by decide +kernel, by decide +kernel⟩
theorem clsOk_Way : ClsOk ("KiteYards$Way", TWay, 3) := ⟨inT (by decide +kernel), by decide +kernel, by decide +kernel⟩
theorem clsOk_K : ClsOk ("KiteYards", TK, 12) := ⟨inT (by decide +kernel), by decide +kernel, by decide +kernel⟩
theorem clsOk_M : ClsOk ("KiteYardsModel", TM, 38) := ⟨inT (by decide +kernel), by decide +kernel, by decide +kernel⟩
theorem cls_ok {ci : Nat} {r : vw_C} (h : kcl[ci]? = some r) : ClsOk r := by
  match ci, h with
  | 0, h => cases h; exact clsOk_Best
  | 1, h => cases h; exact clsOk_Flight
  | 2, h => cases h; exact clsOk_Line
  | 3, h => cases h; exact clsOk_Past
  | 4, h => cases h; exact clsOk_Sightings
  | 5, h => cases h; exact clsOk_Tally
  | 6, h => cases h; exact clsOk_Text
  | 7, h => cases h; exact clsOk_Way
  | 8, h => cases h; exact clsOk_K
  | 9, h => cases h; exact clsOk_M
  | ci + 10, h => simp [kcl] at h
theorem obj_inst : Cond.instanceMethod Lib.objectInit ∈ WT := mT (i := 19) (by decide +kernel) rfl
theorem obj_code : Cond.code Lib.objectInit ⟨#[0xb1]⟩ 1 none ∈ WT := mT (i := 20) (by decide +kernel) rfl
abbrev tyl (E : EV) : List (ClassId × FieldType) := [(E.2.2.2 0, .int), (E.2.2.2 1, .boolean), (E.2.2.2 2, .object "KiteYards$Line")]
def HH (E : EV) (h : HS) (H : Heap) : Prop := va_P E.2.2.1 kcl (wl E h) H ∧ H.size = E.1 + 1 + h.1
def lvl (E : EV) : Nat → List (Option Value) → List (Nat × Value)
  | _, [] => []
  | i, none :: r => lvl E (i + 1) r
  | i, some v :: r => (i, trv E v) :: lvl E (i + 1) r
theorem lvl_mem {E : EV} : ∀ (ls : List (Option Value)) (i0 i : Nat) (v : Value), ls[i]? = some (some v) → (i0 + i, trv E v) ∈ lvl E i0 ls := by
  intro ls
  induction ls with
  | nil => intro i0 i v h; simp at h
  | cons a r ih =>
    intro i0 i v h
    cases i with
    | zero =>
      simp only [List.getElem?_cons_zero, Option.some.injEq] at h
      subst h
      simp [lvl]
    | succ i =>
      simp only [List.getElem?_cons_succ] at h
      have := ih (i0 + 1) i v h
      rw [show i0 + 1 + i = i0 + (i + 1) by omega] at this
      cases a with
      | none => simpa [lvl] using this
      | some w => simp only [lvl]; exact List.mem_cons_of_mem _ this
theorem lvl_of {E : EV} : ∀ (ls : List (Option Value)) (i0 : Nat) (q : Nat × Value), q ∈ lvl E i0 ls → ∃ (j : Nat) (v : Value), q = (i0 + j, trv E v) ∧ ls[j]? = some (some v) := by
  intro ls
  induction ls with
  | nil => intro i0 q h; simp [lvl] at h
  | cons a r ih =>
    intro i0 q h
    cases a with
    | none =>
      simp only [lvl] at h
      obtain ⟨j, v, rfl, h2⟩ := ih (i0 + 1) q h
      exact ⟨j + 1, v, by rw [show i0 + 1 + j = i0 + (j + 1) by omega], by simpa using h2⟩
    | some w =>
      simp only [lvl, List.mem_cons] at h
      rcases h with rfl | h
      · exact ⟨0, w, rfl, by simp⟩
      · obtain ⟨j, v, rfl, h2⟩ := ih (i0 + 1) q h
        exact ⟨j + 1, v, by rw [show i0 + 1 + j = i0 + (j + 1) by omega], by simpa using h2⟩
theorem la_get {E : EV} {la : Array Slot} {nL : Nat} {ls : List (Option Value)} (hl : lv_has la nL (lvl E 0 ls)) {i : Nat} {v : Value} (h : ls[i]? = some (some v)) : la[i]? = some (.val (trv E v)) := by
  have := hl.2.2 _ (lvl_mem (E := E) ls 0 i v h)
  simpa using this
theorem lv_mono {la : Array Slot} {nL : Nat} {l l' : List (Nat × Value)} (h : lv_has la nL l) (hm : ∀ q ∈ l', q ∈ l) : lv_has la nL l' := ⟨h.1, h.2.1, fun q hq => h.2.2 q (hm q hq)⟩
def isC2 : Option Value → Bool
  | some (.long _) => true
  | some (.double _) => true
  | _ => false
theorem isC2_cat {v : Value} (h : isC2 (some v) = false) : ¬ v.category = 2 := by
  cases v <;> simp_all [isC2, Value.category]
/-- behind a store of one slot -/
theorem la_set1 {E : EV} {la : Array Slot} {nL i : Nat} {ls : List (Option Value)} {w : Value} (hp : ∀ j, j + 1 = i → isC2 (ls.getD j none) = false) (hi : i < ls.length)
    (h : lv_has la nL ((i, trv E w) :: (lvl E 0 ls).filter (fun q => !(q.1 == i) && !(q.1 + 1 == i && q.2.category == 2)))) : lv_has la nL (lvl E 0 (ls.set i (some w))) := by
  refine lv_mono h fun q hq => ?_
  obtain ⟨j, v, hq0, hj⟩ := lvl_of _ _ _ hq
  rw [Nat.zero_add] at hq0
  subst hq0
  by_cases hji : j = i
  · subst hji
    rw [List.getElem?_set_self hi] at hj
    cases hj
    exact List.mem_cons_self
  · rw [List.getElem?_set_ne (Ne.symm hji)] at hj
    refine List.mem_cons_of_mem _ (List.mem_filter.mpr ⟨by simpa using lvl_mem (E := E) ls 0 j v hj, ?_⟩)
    have h1 : ¬ (j + 1 = i ∧ (trv E v).category = 2) := by
      rintro ⟨q1, q2⟩
      have := hp j q1
      rw [List.getD_eq_getElem?_getD, hj] at this
      rw [trv_cat] at q2
      exact isC2_cat this q2
    simp only [Bool.and_eq_true, Bool.not_eq_true', beq_eq_false_iff_ne, ne_eq, Bool.and_eq_false_iff]
    refine ⟨hji, ?_⟩
    by_cases q : j + 1 = i
    · exact Or.inr (by simpa using fun z => h1 ⟨q, z⟩)
    · exact Or.inl q
theorem la_set2 {E : EV} {la : Array Slot} {nL i : Nat} {ls : List (Option Value)} {w : Value} (hp : ∀ j, j + 1 = i → isC2 (ls.getD j none) = false) (hi : i + 1 < ls.length)
    (h : lv_has la nL ((i, trv E w) :: (lvl E 0 ls).filter (fun q => !(q.1 == i) && (!(q.1 == i + 1) && !(q.1 + 1 == i && q.2.category == 2))))) : lv_has la nL (lvl E 0 ((ls.set i (some w)).set (i + 1) none)) := by
  refine lv_mono h fun q hq => ?_
  obtain ⟨j, v, hq0, hj⟩ := lvl_of _ _ _ hq
  rw [Nat.zero_add] at hq0
  subst hq0
  by_cases hji1 : j = i + 1
  · subst hji1
    rw [List.getElem?_set_self (by simpa using hi)] at hj
    cases hj
  · rw [List.getElem?_set_ne (Ne.symm hji1)] at hj
    by_cases hji : j = i
    · subst hji
      rw [List.getElem?_set_self (by omega)] at hj
      cases hj
      exact List.mem_cons_self
    · rw [List.getElem?_set_ne (Ne.symm hji)] at hj
      refine List.mem_cons_of_mem _ (List.mem_filter.mpr ⟨by simpa using lvl_mem (E := E) ls 0 j v hj, ?_⟩)
      have h1 : ¬ (j + 1 = i ∧ (trv E v).category = 2) := by
        rintro ⟨q1, q2⟩
        have := hp j q1
        rw [List.getD_eq_getElem?_getD, hj] at this
        rw [trv_cat] at q2
        exact isC2_cat this q2
      simp only [Bool.and_eq_true, Bool.not_eq_true', beq_eq_false_iff_ne, ne_eq, Bool.and_eq_false_iff]
      refine ⟨hji, hji1, ?_⟩
      by_cases q : j + 1 = i
      · exact Or.inr (by simpa using fun z => h1 ⟨q, z⟩)
      · exact Or.inl q
/-- a frame's surroundings -/
def Cx (y : YI) (E : EV) (Ex : EV → State → Array Value → Prop) (p : Program) (s : State) (m : MethodId) (args : Array Value) (meth : Method) (c : Code) : Prop :=
  p.tables.exec = Jvm.exec ∧ c.code = yB y ∧ meth.sig.returnType = yT y ∧ c.maxLocals = yL y ∧ s.vm.findClass (yN y).cls = some m.cls ∧ (∀ w ∈ WT, w.before args s = true) ∧ meth.locks = false ∧ va_K E.2.2.1 kcl (tyl E) s ∧ E.1 < s.heap.size ∧ meth.name = (yN y).name ∧ NOk s ∧ Ex E s args
abbrev GT : Type := (EV → State → Array Value → Prop) × (EV → State → Array Value → List Frame → State → Prop)
def xj (y : YI) (G : GT) (pc : Nat) (ls : List (Option Value)) (st : List Value) (h : HS) (k n : Nat) : Prop :=
  ∀ (E : EV) (p : Program) (l : Launch) (e : Env) (s : State) (m : MethodId) (args : Array Value) (below : List Frame) (meth : Method) (c : Code) (H : Heap) (locs : List Loc) (la : Array Slot),
    Cx y E G.1 p s m args meth c → HH E h H → va_S (fun q => E.1 < q) s.heap H locs → lv_has la (yL y) (lvl E 0 ls) →
    W p l e (yR y) s m args below meth c H locs k n (G.2 E s args below) (F0 m pc la (st.map (trv E)))
def QQ (E : EV) (Po : Option Value → HS → Prop) : Array Value → State → Outcome → State → Prop := fun _ st oc t =>
  (∃ (r : Option Value) (h' : HS), oc = .returned (r.map (trv E)) ∧ Po r h' ∧ HH E h' t.heap ∧ va_K E.2.2.1 kcl (tyl E) t) ∧ va_F (fun q => E.1 < q) st t
def mG (y : YI) (Po : Option Value → HS → Prop) : GT := (fun _ _ _ => True, fun E s args below => MQ below (QQ E Po) args s (yR y).cells (yR y).slots (fun q => E.1 < q))
abbrev Dc (y : YI) (pc : Nat) (i : Instr) (len nx : Nat) : Prop := decode (yB y) pc = .ok (i, len) ∧ pc + len = nx
abbrev Db (y : YI) (pc : Nat) (i : Instr) (len nx : Nat) (off : Int) (tg : Nat) : Prop := decode (yB y) pc = .ok (i, len) ∧ pc + len = nx ∧ (pc : Int) + off = (tg : Int)
def FL (own : String) (ix ci j : Nat) (fin : Bool) (ty : FieldType) : Prop := ∃ r : vw_C, kcl[ci]? = some r ∧ j < r.2.2 ∧ Cond.fieldLink own ix (r.2.1 j).1 (r.2.1 j).2.1 (r.2.1 j).2.2.1 ∈ WT ∧ (r.2.1 j).2.2.2 = fin ∧ parseFieldDescriptor (r.2.1 j).2.2.1 = some ty ∧ (r.2.1 j).1 = r.1
def NW (own : String) (ix ci : Nat) (fs : List Value) (nn : Nat) : Prop := ∃ r : vw_C, kcl[ci]? = some r ∧ dfl r = fs ∧ r.2.2 = nn ∧ Cond.classLink own ix r.1 ∈ WT ∧ Cond.instantiable r.1 r.2.2 ∈ WT ∧ Cond.initialized r.1 ∈ WT
def noMH (s : String) : Prop := s ≠ "java/lang/invoke/MethodHandle" ∧ s ≠ "java/lang/invoke/VarHandle"
/-- what the tables say of a method: 'np' parameters (the receiver apart) -/
def YOK (y : YI) (np : Nat) : Prop := plainFor (yN y) = true ∧ Cond.code (yN y) (yB y) (yL y) (yT y) ∈ WT ∧ noMH (yN y).cls ∧ (parseMethodDescriptor (yN y).desc).map (fun d => d.parameters.length) = some np ∧ Cond.initialized (yN y).cls ∈ WT
def CV (own : String) (ix : Nat) (y : YI) : Prop := Cond.methodLink own ix (yN y) ∈ WT ∧ Cond.instanceMethod (yN y) ∈ WT ∧ Cond.selects (yN y).cls (yN y) (yN y) ∈ WT
def CS (own : String) (ix : Nat) (y : YI) : Prop := Cond.methodLink own ix (yN y) ∈ WT ∧ Cond.static (yN y) ∈ WT
def CSN (own : String) (ix : Nat) (y : YI) : Prop := ∃ host : String, Cond.methodLinkNest own ix (yN y) host ∈ lw_tbl ∧ Cond.static (yN y) ∈ WT
def CIN (own : String) (ix : Nat) (y : YI) : Prop := ∃ host : String, Cond.methodLinkNest own ix (yN y) host ∈ lw_tbl ∧ Cond.instanceMethod (yN y) ∈ WT ∧ (yN y).name = "<init>"
def CI (own : String) (ix : Nat) (y : YI) : Prop := Cond.methodLink own ix (yN y) ∈ WT ∧ Cond.instanceMethod (yN y) ∈ WT ∧ (yN y).name = "<init>"
def rmOk (y y' : YI) : Prop := (yR y').frames + 1 ≤ (yR y).frames ∧ 8 + (yL y' + 11) + (yR y').locals ≤ (yR y).locals
def entl : List Value → List (Option Value)
  | [] => []
  | v :: r => if v.category = 2 then some v :: none :: entl r else some v :: entl r
def ent0 (y : YI) (av : List Value) : List (Option Value) := entl av ++ List.replicate (yL y - (entl av).length) none
def pushR : Option Value → List Value → List Value
  | none, st => st
  | some v, st => v :: st
theorem pushR_eq (E : EV) (r : Option Value) (st : List Value) : (pushR r st).map (trv E) = (r.map (trv E)).toList ++ st.map (trv E) := by cases r <;> rfl
theorem lvl_none {E : EV} : ∀ (m i0 : Nat), lvl E i0 (List.replicate m none) = [] := by
  intro m
  induction m with
  | zero => intro i0; rfl
  | succ m ih => intro i0; rw [List.replicate_succ]; exact ih (i0 + 1)
theorem lvl_app_none {E : EV} (m : Nat) : ∀ (ls : List (Option Value)) (i0 : Nat), lvl E i0 (ls ++ List.replicate m none) = lvl E i0 ls := by
  intro ls
  induction ls with
  | nil => intro i0; exact lvl_none m i0
  | cons a r ih =>
    intro i0
    cases a with
    | none => exact ih (i0 + 1)
    | some v => show (i0, trv E v) :: lvl E (i0 + 1) (r ++ _) = _; rw [ih]; rfl
theorem lvl_entl {E : EV} : ∀ (av : List Value) (i0 : Nat), lvl E i0 (entl av) = lv_args i0 (av.map (trv E)) := by
  intro av
  induction av with
  | nil => intro i0; rfl
  | cons v r ih =>
    intro i0
    simp only [entl, List.map_cons, lv_args, trv_cat]
    by_cases hc : v.category = 2
    · simp only [hc, if_true]
      show (i0, trv E v) :: lvl E (i0 + 1 + 1) (entl r) = _
      rw [ih]
    · simp only [hc, if_false]
      show (i0, trv E v) :: lvl E (i0 + 1) (entl r) = _
      rw [ih]
theorem entl_len {E : EV} : ∀ (av : List Value), (lg_sl (av.map (trv E))).length = (entl av).length := by
  intro av
  induction av with
  | nil => rfl
  | cons v r ih =>
    simp only [lg_sl] at ih
    simp only [lg_sl, entl, List.map_cons, List.flatMap_cons, List.length_append, trv_cat, ih]
    by_cases hc : v.category = 2
    · simp only [hc, if_true, List.length_cons, List.length_nil]; omega
    · simp only [hc, if_false, List.length_cons, List.length_nil]; omega
set_option maxHeartbeats 1000000 in
/-- a walk of a method's body from its entry is its contract -/
theorem met_of_X {y : YI} {np : Nat} {Po : Option Value → HS → Prop} {av : List Value} {ls0 : List (Option Value)} {h : HS} (E : EV) (l : Launch) (ok : YOK y np) (he : ent0 y av = ls0) (hlen : (entl av).length ≤ yL y) (hX : xj y (mG y Po) 0 ls0 [] h 0 0) :
    Met l (yN y) (wsy y) (yR y) (va_Pc (av.map (trv E)) (fun U => HH E h U.heap ∧ va_K E.2.2.1 kcl (tyl E) U ∧ NOk U)) (QQ E Po) (yR y).cells (yR y).slots (fun q => E.1 < q) := by
  refine va_MetF (cc := yB y) (maxL := yL y) (ret := yT y) ok.1 rfl ?_
  intro p e s m args below meth c s₁ B hml hv
  obtain ⟨rfl, hH, hK, hNo⟩ := hv
  have hl := lv_entry (av.map (trv E)) (n := yL y) (by rw [entl_len]; exact hlen)
  rw [lg_entry_eq]
  have hts := atoms_spec (ws := wsy y) B.pre
  refine hX E p l e s m _ below meth c s.heap [] _ ⟨B.exec, B.bytes, B.returns, hml, findClass_of_methodNamed B.named, fun w hw => hts w (List.mem_cons_of_mem _ hw), B.notSynchronized, hK, ?_, (name_of_methodNamed B.named B.method).1, hNo, trivial⟩ hH va_S.rf ?_
  · have := hH.2
    omega
  · subst he
    unfold ent0
    rw [lvl_app_none, lvl_entl]
    exact hl
end
section
theorem x_iconst {y : YI} {G : GT} {pc nx : Nat} {ls : List (Option Value)} {st : List Value} {h : HS} {k n : Nat} {i : Int} (v : Int32) (hv : Int32.ofInt i = v) (d : Dc y pc (.iconst i) 1 nx) (K : xj y G nx ls (.int v :: st) h k n) : xj y G pc ls (st) h k n := by
  intro E p l e s m args below meth c H locs la C hH hS hl
  obtain ⟨hx, hb, -⟩ := id C
  obtain ⟨d, rfl⟩ := d
  exact lv_iconst hx hb d hv (K E p l e s m args below meth c H locs la C hH hS hl)
theorem x_bipush {y : YI} {G : GT} {pc nx : Nat} {ls : List (Option Value)} {st : List Value} {h : HS} {k n : Nat} {i : Int} (v : Int32) (hv : (Int8.ofInt i).toInt32 = v) (d : Dc y pc (.bipush i) 2 nx) (K : xj y G nx ls (.int v :: st) h k n) : xj y G pc ls (st) h k n := by
  intro E p l e s m args below meth c H locs la C hH hS hl
  obtain ⟨hx, hb, -⟩ := id C
  obtain ⟨d, rfl⟩ := d
  exact lv_bipush hx hb d hv (K E p l e s m args below meth c H locs la C hH hS hl)
theorem x_sipush {y : YI} {G : GT} {pc nx : Nat} {ls : List (Option Value)} {st : List Value} {h : HS} {k n : Nat} {i : Int} (v : Int32) (hv : (Int16.ofInt i).toInt32 = v) (d : Dc y pc (.sipush i) 3 nx) (K : xj y G nx ls (.int v :: st) h k n) : xj y G pc ls (st) h k n := by
  intro E p l e s m args below meth c H locs la C hH hS hl
  obtain ⟨hx, hb, -⟩ := id C
  obtain ⟨d, rfl⟩ := d
  exact lv_sipush hx hb d hv (K E p l e s m args below meth c H locs la C hH hS hl)
theorem x_lconst {y : YI} {G : GT} {pc nx : Nat} {ls : List (Option Value)} {st : List Value} {h : HS} {k n : Nat} {i : Fin 2} (v : Int64) (hv : Int64.ofNat i = v) (d : Dc y pc (.lconst i) 1 nx) (K : xj y G nx ls (.long v :: st) h k n) : xj y G pc ls (st) h k n := by
  intro E p l e s m args below meth c H locs la C hH hS hl
  obtain ⟨hx, hb, -⟩ := id C
  obtain ⟨d, rfl⟩ := d
  exact lv_lconst hx hb d hv (K E p l e s m args below meth c H locs la C hH hS hl)
theorem x_iadd {y : YI} {G : GT} {pc nx : Nat} {ls : List (Option Value)} {st : List Value} {h : HS} {k n : Nat} {a b : Int32} (d : Dc y pc .iadd 1 nx) (K : xj y G nx ls (.int (a + b) :: st) h k n) : xj y G pc ls (.int b :: .int a :: st) h k n := by
  intro E p l e s m args below meth c H locs la C hH hS hl
  obtain ⟨hx, hb, -⟩ := id C
  obtain ⟨d, rfl⟩ := d
  exact lv_iadd hx hb d (K E p l e s m args below meth c H locs la C hH hS hl)
theorem x_isub {y : YI} {G : GT} {pc nx : Nat} {ls : List (Option Value)} {st : List Value} {h : HS} {k n : Nat} {a b : Int32} (d : Dc y pc .isub 1 nx) (K : xj y G nx ls (.int (a - b) :: st) h k n) : xj y G pc ls (.int b :: .int a :: st) h k n := by
  intro E p l e s m args below meth c H locs la C hH hS hl
  obtain ⟨hx, hb, -⟩ := id C
  obtain ⟨d, rfl⟩ := d
  exact lv_isub hx hb d (K E p l e s m args below meth c H locs la C hH hS hl)
theorem x_imul {y : YI} {G : GT} {pc nx : Nat} {ls : List (Option Value)} {st : List Value} {h : HS} {k n : Nat} {a b : Int32} (d : Dc y pc .imul 1 nx) (K : xj y G nx ls (.int (a * b) :: st) h k n) : xj y G pc ls (.int b :: .int a :: st) h k n := by
  intro E p l e s m args below meth c H locs la C hH hS hl
  obtain ⟨hx, hb, -⟩ := id C
  obtain ⟨d, rfl⟩ := d
  exact lv_imul hx hb d (K E p l e s m args below meth c H locs la C hH hS hl)
theorem x_iand {y : YI} {G : GT} {pc nx : Nat} {ls : List (Option Value)} {st : List Value} {h : HS} {k n : Nat} {a b : Int32} (d : Dc y pc .iand 1 nx) (K : xj y G nx ls (.int (a &&& b) :: st) h k n) : xj y G pc ls (.int b :: .int a :: st) h k n := by
  intro E p l e s m args below meth c H locs la C hH hS hl
  obtain ⟨hx, hb, -⟩ := id C
  obtain ⟨d, rfl⟩ := d
  exact lv_iand hx hb d (K E p l e s m args below meth c H locs la C hH hS hl)
theorem x_ior {y : YI} {G : GT} {pc nx : Nat} {ls : List (Option Value)} {st : List Value} {h : HS} {k n : Nat} {a b : Int32} (d : Dc y pc .ior 1 nx) (K : xj y G nx ls (.int (a ||| b) :: st) h k n) : xj y G pc ls (.int b :: .int a :: st) h k n := by
  intro E p l e s m args below meth c H locs la C hH hS hl
  obtain ⟨hx, hb, -⟩ := id C
  obtain ⟨d, rfl⟩ := d
  exact lv_ior hx hb d (K E p l e s m args below meth c H locs la C hH hS hl)
theorem x_ixor {y : YI} {G : GT} {pc nx : Nat} {ls : List (Option Value)} {st : List Value} {h : HS} {k n : Nat} {a b : Int32} (d : Dc y pc .ixor 1 nx) (K : xj y G nx ls (.int (a ^^^ b) :: st) h k n) : xj y G pc ls (.int b :: .int a :: st) h k n := by
  intro E p l e s m args below meth c H locs la C hH hS hl
  obtain ⟨hx, hb, -⟩ := id C
  obtain ⟨d, rfl⟩ := d
  exact lv_ixor hx hb d (K E p l e s m args below meth c H locs la C hH hS hl)
theorem x_idiv {y : YI} {G : GT} {pc nx : Nat} {ls : List (Option Value)} {st : List Value} {h : HS} {k n : Nat} {a b : Int32} (hne : ¬ b = 0) (d : Dc y pc .idiv 1 nx) (K : xj y G nx ls (.int (a / b) :: st) h k n) : xj y G pc ls (.int b :: .int a :: st) h k n := by
  intro E p l e s m args below meth c H locs la C hH hS hl
  obtain ⟨hx, hb, -⟩ := id C
  obtain ⟨d, rfl⟩ := d
  exact lv_idiv hx hb d hne (K E p l e s m args below meth c H locs la C hH hS hl)
theorem x_irem {y : YI} {G : GT} {pc nx : Nat} {ls : List (Option Value)} {st : List Value} {h : HS} {k n : Nat} {a b : Int32} (hne : ¬ b = 0) (d : Dc y pc .irem 1 nx) (K : xj y G nx ls (.int (a - a / b * b) :: st) h k n) : xj y G pc ls (.int b :: .int a :: st) h k n := by
  intro E p l e s m args below meth c H locs la C hH hS hl
  obtain ⟨hx, hb, -⟩ := id C
  obtain ⟨d, rfl⟩ := d
  exact lv_irem hx hb d hne (K E p l e s m args below meth c H locs la C hH hS hl)
theorem x_ineg {y : YI} {G : GT} {pc nx : Nat} {ls : List (Option Value)} {st : List Value} {h : HS} {k n : Nat} {a : Int32} (d : Dc y pc .ineg 1 nx) (K : xj y G nx ls (.int (-a) :: st) h k n) : xj y G pc ls (.int a :: st) h k n := by
  intro E p l e s m args below meth c H locs la C hH hS hl
  obtain ⟨hx, hb, -⟩ := id C
  obtain ⟨d, rfl⟩ := d
  exact lv_ineg hx hb d (K E p l e s m args below meth c H locs la C hH hS hl)
theorem x_ishl {y : YI} {G : GT} {pc nx : Nat} {ls : List (Option Value)} {st : List Value} {h : HS} {k n : Nat} {a b : Int32} (d : Dc y pc .ishl 1 nx) (K : xj y G nx ls (.int (a <<< (b &&& 31)) :: st) h k n) : xj y G pc ls (.int b :: .int a :: st) h k n := by
  intro E p l e s m args below meth c H locs la C hH hS hl
  obtain ⟨hx, hb, -⟩ := id C
  obtain ⟨d, rfl⟩ := d
  exact lv_ishl hx hb d (K E p l e s m args below meth c H locs la C hH hS hl)
theorem x_ishr {y : YI} {G : GT} {pc nx : Nat} {ls : List (Option Value)} {st : List Value} {h : HS} {k n : Nat} {a b : Int32} (d : Dc y pc .ishr 1 nx) (K : xj y G nx ls (.int (a >>> (b &&& 31)) :: st) h k n) : xj y G pc ls (.int b :: .int a :: st) h k n := by
  intro E p l e s m args below meth c H locs la C hH hS hl
  obtain ⟨hx, hb, -⟩ := id C
  obtain ⟨d, rfl⟩ := d
  exact lv_ishr hx hb d (K E p l e s m args below meth c H locs la C hH hS hl)
theorem x_iushr {y : YI} {G : GT} {pc nx : Nat} {ls : List (Option Value)} {st : List Value} {h : HS} {k n : Nat} {a b : Int32} (d : Dc y pc .iushr 1 nx) (K : xj y G nx ls (.int (a.toUInt32 >>> (b.toUInt32 &&& Int32.toUInt32 31)).toInt32 :: st) h k n) : xj y G pc ls (.int b :: .int a :: st) h k n := by
  intro E p l e s m args below meth c H locs la C hH hS hl
  obtain ⟨hx, hb, -⟩ := id C
  obtain ⟨d, rfl⟩ := d
  exact lv_iushr hx hb d rfl (K E p l e s m args below meth c H locs la C hH hS hl)
theorem x_ladd {y : YI} {G : GT} {pc nx : Nat} {ls : List (Option Value)} {st : List Value} {h : HS} {k n : Nat} {a b : Int64} (d : Dc y pc .ladd 1 nx) (K : xj y G nx ls (.long (a + b) :: st) h k n) : xj y G pc ls (.long b :: .long a :: st) h k n := by
  intro E p l e s m args below meth c H locs la C hH hS hl
  obtain ⟨hx, hb, -⟩ := id C
  obtain ⟨d, rfl⟩ := d
  exact lv_ladd hx hb d (K E p l e s m args below meth c H locs la C hH hS hl)
theorem x_lmul {y : YI} {G : GT} {pc nx : Nat} {ls : List (Option Value)} {st : List Value} {h : HS} {k n : Nat} {a b : Int64} (d : Dc y pc .lmul 1 nx) (K : xj y G nx ls (.long (a * b) :: st) h k n) : xj y G pc ls (.long b :: .long a :: st) h k n := by
  intro E p l e s m args below meth c H locs la C hH hS hl
  obtain ⟨hx, hb, -⟩ := id C
  obtain ⟨d, rfl⟩ := d
  exact lv_lmul hx hb d (K E p l e s m args below meth c H locs la C hH hS hl)
theorem x_land {y : YI} {G : GT} {pc nx : Nat} {ls : List (Option Value)} {st : List Value} {h : HS} {k n : Nat} {a b : Int64} (d : Dc y pc .land 1 nx) (K : xj y G nx ls (.long (a &&& b) :: st) h k n) : xj y G pc ls (.long b :: .long a :: st) h k n := by
  intro E p l e s m args below meth c H locs la C hH hS hl
  obtain ⟨hx, hb, -⟩ := id C
  obtain ⟨d, rfl⟩ := d
  exact lv_land hx hb d (K E p l e s m args below meth c H locs la C hH hS hl)
theorem x_lor {y : YI} {G : GT} {pc nx : Nat} {ls : List (Option Value)} {st : List Value} {h : HS} {k n : Nat} {a b : Int64} (d : Dc y pc .lor 1 nx) (K : xj y G nx ls (.long (a ||| b) :: st) h k n) : xj y G pc ls (.long b :: .long a :: st) h k n := by
  intro E p l e s m args below meth c H locs la C hH hS hl
  obtain ⟨hx, hb, -⟩ := id C
  obtain ⟨d, rfl⟩ := d
  exact lv_lor hx hb d (K E p l e s m args below meth c H locs la C hH hS hl)
theorem x_lrem {y : YI} {G : GT} {pc nx : Nat} {ls : List (Option Value)} {st : List Value} {h : HS} {k n : Nat} {a b : Int64} (hne : ¬ b = 0) (d : Dc y pc .lrem 1 nx) (K : xj y G nx ls (.long (a - a / b * b) :: st) h k n) : xj y G pc ls (.long b :: .long a :: st) h k n := by
  intro E p l e s m args below meth c H locs la C hH hS hl
  obtain ⟨hx, hb, -⟩ := id C
  obtain ⟨d, rfl⟩ := d
  exact lv_lrem hx hb d hne (K E p l e s m args below meth c H locs la C hH hS hl)
theorem x_i2l {y : YI} {G : GT} {pc nx : Nat} {ls : List (Option Value)} {st : List Value} {h : HS} {k n : Nat} {a : Int32} (d : Dc y pc .i2l 1 nx) (K : xj y G nx ls (.long a.toInt64 :: st) h k n) : xj y G pc ls (.int a :: st) h k n := by
  intro E p l e s m args below meth c H locs la C hH hS hl
  obtain ⟨hx, hb, -⟩ := id C
  obtain ⟨d, rfl⟩ := d
  exact lv_i2l hx hb d rfl (K E p l e s m args below meth c H locs la C hH hS hl)
theorem x_l2i {y : YI} {G : GT} {pc nx : Nat} {ls : List (Option Value)} {st : List Value} {h : HS} {k n : Nat} {a : Int64} (d : Dc y pc .l2i 1 nx) (K : xj y G nx ls (.int a.toInt32 :: st) h k n) : xj y G pc ls (.long a :: st) h k n := by
  intro E p l e s m args below meth c H locs la C hH hS hl
  obtain ⟨hx, hb, -⟩ := id C
  obtain ⟨d, rfl⟩ := d
  exact lv_l2i hx hb d rfl (K E p l e s m args below meth c H locs la C hH hS hl)
theorem x_lushr {y : YI} {G : GT} {pc nx : Nat} {ls : List (Option Value)} {st : List Value} {h : HS} {k n : Nat} {a : Int64} {b : Int32} (d : Dc y pc .lushr 1 nx) (K : xj y G nx ls (.long (a.toUInt64 >>> (b.toInt64.toUInt64 &&& Int64.toUInt64 63)).toInt64 :: st) h k n) : xj y G pc ls (.int b :: .long a :: st) h k n := by
  intro E p l e s m args below meth c H locs la C hH hS hl
  obtain ⟨hx, hb, -⟩ := id C
  obtain ⟨d, rfl⟩ := d
  exact lv_lushr hx hb d rfl (K E p l e s m args below meth c H locs la C hH hS hl)
theorem x_lshl {y : YI} {G : GT} {pc nx : Nat} {ls : List (Option Value)} {st : List Value} {h : HS} {k n : Nat} {a : Int64} {b : Int32} (d : Dc y pc .lshl 1 nx) (K : xj y G nx ls (.long (a <<< (b.toInt64 &&& 63)) :: st) h k n) : xj y G pc ls (.int b :: .long a :: st) h k n := by
  intro E p l e s m args below meth c H locs la C hH hS hl
  obtain ⟨hx, hb, -⟩ := id C
  obtain ⟨d, rfl⟩ := d
  exact lv_lshl hx hb d rfl (K E p l e s m args below meth c H locs la C hH hS hl)
theorem x_lcmp {y : YI} {G : GT} {pc nx : Nat} {ls : List (Option Value)} {st : List Value} {h : HS} {k n : Nat} {a b : Int64} (d : Dc y pc .lcmp 1 nx) (K : xj y G nx ls (.int (lg_cmp a b) :: st) h k n) : xj y G pc ls (.long b :: .long a :: st) h k n := by
  intro E p l e s m args below meth c H locs la C hH hS hl
  obtain ⟨hx, hb, -⟩ := id C
  obtain ⟨d, rfl⟩ := d
  exact W.lcmp hx hb d (K E p l e s m args below meth c H locs la C hH hS hl)
theorem x_dup {y : YI} {G : GT} {pc nx : Nat} {ls : List (Option Value)} {st : List Value} {h : HS} {k n : Nat} {v : Value} (hv : v.category = 1) (d : Dc y pc .dup 1 nx) (K : xj y G nx ls (v :: v :: st) h k n) : xj y G pc ls (v :: st) h k n := by
  intro E p l e s m args below meth c H locs la C hH hS hl
  obtain ⟨hx, hb, -⟩ := id C
  obtain ⟨d, rfl⟩ := d
  exact lv_dup hx hb d (by rw [trv_cat]; exact hv) (K E p l e s m args below meth c H locs la C hH hS hl)
theorem x_dup2 {y : YI} {G : GT} {pc nx : Nat} {ls : List (Option Value)} {st : List Value} {h : HS} {k n : Nat} {v w : Value} (hv : v.category = 1) (hw : w.category = 1) (d : Dc y pc .dup2 1 nx) (K : xj y G nx ls (v :: w :: v :: w :: st) h k n) : xj y G pc ls (v :: w :: st) h k n := by
  intro E p l e s m args below meth c H locs la C hH hS hl
  obtain ⟨hx, hb, -⟩ := id C
  obtain ⟨d, rfl⟩ := d
  exact lv_dup2_11 hx hb d (by rw [trv_cat]; exact hv) (by rw [trv_cat]; exact hw) (K E p l e s m args below meth c H locs la C hH hS hl)
theorem x_null {y : YI} {G : GT} {pc nx : Nat} {ls : List (Option Value)} {st : List Value} {h : HS} {k n : Nat}  (d : Dc y pc .aconst_null 1 nx) (K : xj y G nx ls (.null :: st) h k n) : xj y G pc ls (st) h k n := by
  intro E p l e s m args below meth c H locs la C hH hS hl
  obtain ⟨hx, hb, -⟩ := id C
  obtain ⟨d, rfl⟩ := d
  exact lv_null hx hb d (K E p l e s m args below meth c H locs la C hH hS hl)
theorem x_if_eq {y : YI} {G : GT} {pc nx : Nat} {ls : List (Option Value)} {st : List Value} {h : HS} {k n : Nat} {off : Int} {tg : Nat} {a : Int32} (d : Db y pc (.ifCond .eq off) 3 nx off tg) (kt : a = 0 → xj y G tg ls st h k n) (kf : ¬ (a = 0) → xj y G nx ls st h k n) : xj y G pc ls (.int a :: st) h k n := by
  intro E p l e s m args below meth c H locs la C hH hS hl
  obtain ⟨hx, hb, -⟩ := id C
  obtain ⟨d, rfl, ht⟩ := d
  exact lv_if_eq hx hb d ht (fun q => kt q E p l e s m args below meth c H locs la C hH hS hl) (fun q => kf q E p l e s m args below meth c H locs la C hH hS hl)
theorem x_icmp_eq {y : YI} {G : GT} {pc nx : Nat} {ls : List (Option Value)} {st : List Value} {h : HS} {k n : Nat} {off : Int} {tg : Nat} {a b : Int32} (d : Db y pc (.if_icmp .eq off) 3 nx off tg) (kt : a = b → xj y G tg ls st h k n) (kf : ¬ (a = b) → xj y G nx ls st h k n) : xj y G pc ls (.int b :: .int a :: st) h k n := by
  intro E p l e s m args below meth c H locs la C hH hS hl
  obtain ⟨hx, hb, -⟩ := id C
  obtain ⟨d, rfl, ht⟩ := d
  exact lv_icmp_eq hx hb d ht (fun q => kt q E p l e s m args below meth c H locs la C hH hS hl) (fun q => kf q E p l e s m args below meth c H locs la C hH hS hl)
theorem x_if_ne {y : YI} {G : GT} {pc nx : Nat} {ls : List (Option Value)} {st : List Value} {h : HS} {k n : Nat} {off : Int} {tg : Nat} {a : Int32} (d : Db y pc (.ifCond .ne off) 3 nx off tg) (kt : ¬ a = 0 → xj y G tg ls st h k n) (kf : a = 0 → xj y G nx ls st h k n) : xj y G pc ls (.int a :: st) h k n := by
  intro E p l e s m args below meth c H locs la C hH hS hl
  obtain ⟨hx, hb, -⟩ := id C
  obtain ⟨d, rfl, ht⟩ := d
  exact lv_if_ne hx hb d ht (fun q => kt q E p l e s m args below meth c H locs la C hH hS hl) (fun q => kf q E p l e s m args below meth c H locs la C hH hS hl)
theorem x_icmp_ne {y : YI} {G : GT} {pc nx : Nat} {ls : List (Option Value)} {st : List Value} {h : HS} {k n : Nat} {off : Int} {tg : Nat} {a b : Int32} (d : Db y pc (.if_icmp .ne off) 3 nx off tg) (kt : ¬ a = b → xj y G tg ls st h k n) (kf : a = b → xj y G nx ls st h k n) : xj y G pc ls (.int b :: .int a :: st) h k n := by
  intro E p l e s m args below meth c H locs la C hH hS hl
  obtain ⟨hx, hb, -⟩ := id C
  obtain ⟨d, rfl, ht⟩ := d
  exact lv_icmp_ne hx hb d ht (fun q => kt q E p l e s m args below meth c H locs la C hH hS hl) (fun q => kf q E p l e s m args below meth c H locs la C hH hS hl)
theorem x_if_lt {y : YI} {G : GT} {pc nx : Nat} {ls : List (Option Value)} {st : List Value} {h : HS} {k n : Nat} {off : Int} {tg : Nat} {a : Int32} (d : Db y pc (.ifCond .lt off) 3 nx off tg) (kt : a < 0 → xj y G tg ls st h k n) (kf : ¬ (a < 0) → xj y G nx ls st h k n) : xj y G pc ls (.int a :: st) h k n := by
  intro E p l e s m args below meth c H locs la C hH hS hl
  obtain ⟨hx, hb, -⟩ := id C
  obtain ⟨d, rfl, ht⟩ := d
  exact lv_if_lt hx hb d ht (fun q => kt q E p l e s m args below meth c H locs la C hH hS hl) (fun q => kf q E p l e s m args below meth c H locs la C hH hS hl)
theorem x_icmp_lt {y : YI} {G : GT} {pc nx : Nat} {ls : List (Option Value)} {st : List Value} {h : HS} {k n : Nat} {off : Int} {tg : Nat} {a b : Int32} (d : Db y pc (.if_icmp .lt off) 3 nx off tg) (kt : a < b → xj y G tg ls st h k n) (kf : ¬ (a < b) → xj y G nx ls st h k n) : xj y G pc ls (.int b :: .int a :: st) h k n := by
  intro E p l e s m args below meth c H locs la C hH hS hl
  obtain ⟨hx, hb, -⟩ := id C
  obtain ⟨d, rfl, ht⟩ := d
  exact lv_icmp_lt hx hb d ht (fun q => kt q E p l e s m args below meth c H locs la C hH hS hl) (fun q => kf q E p l e s m args below meth c H locs la C hH hS hl)
theorem x_if_ge {y : YI} {G : GT} {pc nx : Nat} {ls : List (Option Value)} {st : List Value} {h : HS} {k n : Nat} {off : Int} {tg : Nat} {a : Int32} (d : Db y pc (.ifCond .ge off) 3 nx off tg) (kt : 0 ≤ a → xj y G tg ls st h k n) (kf : ¬ (0 ≤ a) → xj y G nx ls st h k n) : xj y G pc ls (.int a :: st) h k n := by
  intro E p l e s m args below meth c H locs la C hH hS hl
  obtain ⟨hx, hb, -⟩ := id C
  obtain ⟨d, rfl, ht⟩ := d
  exact lv_if_ge hx hb d ht (fun q => kt q E p l e s m args below meth c H locs la C hH hS hl) (fun q => kf q E p l e s m args below meth c H locs la C hH hS hl)
theorem x_icmp_ge {y : YI} {G : GT} {pc nx : Nat} {ls : List (Option Value)} {st : List Value} {h : HS} {k n : Nat} {off : Int} {tg : Nat} {a b : Int32} (d : Db y pc (.if_icmp .ge off) 3 nx off tg) (kt : b ≤ a → xj y G tg ls st h k n) (kf : ¬ (b ≤ a) → xj y G nx ls st h k n) : xj y G pc ls (.int b :: .int a :: st) h k n := by
  intro E p l e s m args below meth c H locs la C hH hS hl
  obtain ⟨hx, hb, -⟩ := id C
  obtain ⟨d, rfl, ht⟩ := d
  exact lv_icmp_ge hx hb d ht (fun q => kt q E p l e s m args below meth c H locs la C hH hS hl) (fun q => kf q E p l e s m args below meth c H locs la C hH hS hl)
theorem x_if_gt {y : YI} {G : GT} {pc nx : Nat} {ls : List (Option Value)} {st : List Value} {h : HS} {k n : Nat} {off : Int} {tg : Nat} {a : Int32} (d : Db y pc (.ifCond .gt off) 3 nx off tg) (kt : 0 < a → xj y G tg ls st h k n) (kf : ¬ (0 < a) → xj y G nx ls st h k n) : xj y G pc ls (.int a :: st) h k n := by
  intro E p l e s m args below meth c H locs la C hH hS hl
  obtain ⟨hx, hb, -⟩ := id C
  obtain ⟨d, rfl, ht⟩ := d
  exact lv_if_gt hx hb d ht (fun q => kt q E p l e s m args below meth c H locs la C hH hS hl) (fun q => kf q E p l e s m args below meth c H locs la C hH hS hl)
theorem x_icmp_gt {y : YI} {G : GT} {pc nx : Nat} {ls : List (Option Value)} {st : List Value} {h : HS} {k n : Nat} {off : Int} {tg : Nat} {a b : Int32} (d : Db y pc (.if_icmp .gt off) 3 nx off tg) (kt : b < a → xj y G tg ls st h k n) (kf : ¬ (b < a) → xj y G nx ls st h k n) : xj y G pc ls (.int b :: .int a :: st) h k n := by
  intro E p l e s m args below meth c H locs la C hH hS hl
  obtain ⟨hx, hb, -⟩ := id C
  obtain ⟨d, rfl, ht⟩ := d
  exact lv_icmp_gt hx hb d ht (fun q => kt q E p l e s m args below meth c H locs la C hH hS hl) (fun q => kf q E p l e s m args below meth c H locs la C hH hS hl)
theorem x_if_le {y : YI} {G : GT} {pc nx : Nat} {ls : List (Option Value)} {st : List Value} {h : HS} {k n : Nat} {off : Int} {tg : Nat} {a : Int32} (d : Db y pc (.ifCond .le off) 3 nx off tg) (kt : a ≤ 0 → xj y G tg ls st h k n) (kf : ¬ (a ≤ 0) → xj y G nx ls st h k n) : xj y G pc ls (.int a :: st) h k n := by
  intro E p l e s m args below meth c H locs la C hH hS hl
  obtain ⟨hx, hb, -⟩ := id C
  obtain ⟨d, rfl, ht⟩ := d
  exact lv_if_le hx hb d ht (fun q => kt q E p l e s m args below meth c H locs la C hH hS hl) (fun q => kf q E p l e s m args below meth c H locs la C hH hS hl)
theorem x_icmp_le {y : YI} {G : GT} {pc nx : Nat} {ls : List (Option Value)} {st : List Value} {h : HS} {k n : Nat} {off : Int} {tg : Nat} {a b : Int32} (d : Db y pc (.if_icmp .le off) 3 nx off tg) (kt : a ≤ b → xj y G tg ls st h k n) (kf : ¬ (a ≤ b) → xj y G nx ls st h k n) : xj y G pc ls (.int b :: .int a :: st) h k n := by
  intro E p l e s m args below meth c H locs la C hH hS hl
  obtain ⟨hx, hb, -⟩ := id C
  obtain ⟨d, rfl, ht⟩ := d
  exact lv_icmp_le hx hb d ht (fun q => kt q E p l e s m args below meth c H locs la C hH hS hl) (fun q => kf q E p l e s m args below meth c H locs la C hH hS hl)
theorem x_goto {y : YI} {G : GT} {pc nx : Nat} {ls : List (Option Value)} {st : List Value} {h : HS} {k n : Nat} {off : Int} {tg : Nat} (d : Db y pc (.goto off) 3 nx off tg) (K : xj y G tg ls st h k n) : xj y G pc ls st h k n := by
  intro E p l e s m args below meth c H locs la C hH hS hl
  obtain ⟨hx, hb, -⟩ := id C
  obtain ⟨d, rfl, ht⟩ := d
  exact lv_goto hx hb d ht (K E p l e s m args below meth c H locs la C hH hS hl)
theorem x_ifnull {y : YI} {G : GT} {pc nx : Nat} {ls : List (Option Value)} {st : List Value} {h : HS} {k n : Nat} {off : Int} {tg a : Nat} (d : Db y pc (.ifnull off) 3 nx off tg) (K : xj y G nx ls st h k n) : xj y G pc ls (.ref a :: st) h k n := by
  intro E p l e s m args below meth c H locs la C hH hS hl
  obtain ⟨hx, hb, -⟩ := id C
  obtain ⟨d, rfl, ht⟩ := d
  exact lv_ifnull hx hb d (K E p l e s m args below meth c H locs la C hH hS hl)
theorem x_ifnullN {y : YI} {G : GT} {pc nx : Nat} {ls : List (Option Value)} {st : List Value} {h : HS} {k n : Nat} {off : Int} {tg : Nat} (d : Db y pc (.ifnull off) 3 nx off tg) (K : xj y G tg ls st h k n) : xj y G pc ls (.null :: st) h k n := by
  intro E p l e s m args below meth c H locs la C hH hS hl
  obtain ⟨hx, hb, -⟩ := id C
  obtain ⟨d, rfl, ht⟩ := d
  exact lv_ifnullN hx hb d ht (K E p l e s m args below meth c H locs la C hH hS hl)
theorem x_tblOut {y : YI} {G : GT} {pc nx : Nat} {ls : List (Option Value)} {st : List Value} {h : HS} {k n : Nat} {df lo hi : Int} {of : Array Int} {len tg : Nat} {a : Int32} (d : decode (yB y) pc = .ok (.tableswitch df lo hi of, len)) (ho : a.toInt < lo ∨ hi < a.toInt) (ht : (pc : Int) + df = (tg : Int)) (K : xj y G tg ls st h k n) : xj y G pc ls (.int a :: st) h k n := by
  intro E p l e s m args below meth c H locs la C hH hS hl
  obtain ⟨hx, hb, -⟩ := id C
  exact lv_tableOut hx hb d ho ht (K E p l e s m args below meth c H locs la C hH hS hl)
theorem x_tblIn {y : YI} {G : GT} {pc nx : Nat} {ls : List (Option Value)} {st : List Value} {h : HS} {k n : Nat} {df lo hi off : Int} {of : Array Int} {len tg : Nat} {a : Int32} (d : decode (yB y) pc = .ok (.tableswitch df lo hi of, len)) (h1 : ¬ a.toInt < lo) (h2 : ¬ hi < a.toInt) (ho : of[(a.toInt - lo).toNat]? = some off) (ht : (pc : Int) + off = (tg : Int)) (K : xj y G tg ls st h k n) : xj y G pc ls (.int a :: st) h k n := by
  intro E p l e s m args below meth c H locs la C hH hS hl
  obtain ⟨hx, hb, -⟩ := id C
  exact lv_tableIn hx hb d h1 h2 ho ht (K E p l e s m args below meth c H locs la C hH hS hl)
theorem x_lookup {y : YI} {G : GT} {pc nx : Nat} {ls : List (Option Value)} {st : List Value} {h : HS} {k n : Nat} {df off : Int} {ps : Array (Int × Int)} {len tg : Nat} {a : Int32} (d : decode (yB y) pc = .ok (.lookupswitch df ps, len)) (hp : (ps.toList.zip (ps.toList.drop 1)).all (fun (a, next) => a.1 < next.1) = true) (ho : Op.lookupswitch.offset ps.toList df a.toInt = off) (ht : (pc : Int) + off = (tg : Int)) (K : xj y G tg ls st h k n) : xj y G pc ls (.int a :: st) h k n := by
  intro E p l e s m args below meth c H locs la C hH hS hl
  obtain ⟨hx, hb, -⟩ := id C
  exact lv_lookup hx hb d hp ho ht (K E p l e s m args below meth c H locs la C hH hS hl)
theorem x_iload_0 {y : YI} {G : GT} {pc nx : Nat} {st : List Value} {h : HS} {k n : Nat} {r : List (Option Value)} {x : Int32} (d : Dc y pc (.iload_n 0) 1 nx) (K : xj y G nx (some (.int x) :: r) (.int x :: st) h k n) : xj y G pc (some (.int x) :: r) st h k n := by
  intro E p l e s m args below meth c H locs la C hH hS hl
  obtain ⟨hx, hb, -⟩ := id C
  obtain ⟨d, rfl⟩ := d
  exact lv_iload_n hx hb d rfl (la_get hl (i := 0) (v := .int x) rfl) (K E p l e s m args below meth c H locs la C hH hS hl)
theorem x_istore_0 {y : YI} {G : GT} {pc nx : Nat} {st : List Value} {h : HS} {k n : Nat} {b : Option Value} {r : List (Option Value)} {x : Int32} (d : Dc y pc (.istore_n 0) 1 nx) (hi : 0 < yL y) (K : xj y G nx (some (.int x) :: r) st h k n) : xj y G pc (b :: r) (.int x :: st) h k n := by
  intro E p l e s m args below meth c H locs la C hH hS hl
  obtain ⟨hx, hb, -⟩ := id C
  obtain ⟨d, rfl⟩ := d
  exact lv_istore_n hx hb d rfl hl hi rfl (fun la2 hl2 => K E p l e s m args below meth c H locs la2 C hH hS (la_set1 (E := E) (i := 0) (ls := b :: r) (w := .int x) (fun j q => absurd q (by omega)) (by simp) hl2))
theorem x_lload_0 {y : YI} {G : GT} {pc nx : Nat} {st : List Value} {h : HS} {k n : Nat} {r : List (Option Value)} {x : Int64} (d : Dc y pc (.lload_n 0) 1 nx) (K : xj y G nx (some (.long x) :: r) (.long x :: st) h k n) : xj y G pc (some (.long x) :: r) st h k n := by
  intro E p l e s m args below meth c H locs la C hH hS hl
  obtain ⟨hx, hb, -⟩ := id C
  obtain ⟨d, rfl⟩ := d
  exact lv_lload_n hx hb d rfl (la_get hl (i := 0) (v := .long x) rfl) (K E p l e s m args below meth c H locs la C hH hS hl)
theorem x_lstore_0 {y : YI} {G : GT} {pc nx : Nat} {st : List Value} {h : HS} {k n : Nat} {b b1 : Option Value} {r : List (Option Value)} {x : Int64} (d : Dc y pc (.lstore_n 0) 1 nx) (hi : 0 + 1 < yL y) (K : xj y G nx (some (.long x) :: none :: r) st h k n) : xj y G pc (b :: b1 :: r) (.long x :: st) h k n := by
  intro E p l e s m args below meth c H locs la C hH hS hl
  obtain ⟨hx, hb, -⟩ := id C
  obtain ⟨d, rfl⟩ := d
  exact lv_lstore_n hx hb d rfl hl hi rfl (fun la2 hl2 => K E p l e s m args below meth c H locs la2 C hH hS (la_set2 (E := E) (i := 0) (ls := b :: b1 :: r) (w := .long x) (fun j q => absurd q (by omega)) (by simp) hl2))
theorem x_aload_0 {y : YI} {G : GT} {pc nx : Nat} {st : List Value} {h : HS} {k n : Nat} {r : List (Option Value)} {x : Nat} (d : Dc y pc (.aload_n 0) 1 nx) (K : xj y G nx (some (.ref x) :: r) (.ref x :: st) h k n) : xj y G pc (some (.ref x) :: r) st h k n := by
  intro E p l e s m args below meth c H locs la C hH hS hl
  obtain ⟨hx, hb, -⟩ := id C
  obtain ⟨d, rfl⟩ := d
  exact lv_aload_n hx hb d rfl (la_get hl (i := 0) (v := .ref x) rfl) (K E p l e s m args below meth c H locs la C hH hS hl)
theorem x_astore_0 {y : YI} {G : GT} {pc nx : Nat} {st : List Value} {h : HS} {k n : Nat} {b : Option Value} {r : List (Option Value)} {x : Nat} (d : Dc y pc (.astore_n 0) 1 nx) (hi : 0 < yL y) (K : xj y G nx (some (.ref x) :: r) st h k n) : xj y G pc (b :: r) (.ref x :: st) h k n := by
  intro E p l e s m args below meth c H locs la C hH hS hl
  obtain ⟨hx, hb, -⟩ := id C
  obtain ⟨d, rfl⟩ := d
  exact lv_astore_n hx hb d rfl hl hi rfl (fun la2 hl2 => K E p l e s m args below meth c H locs la2 C hH hS (la_set1 (E := E) (i := 0) (ls := b :: r) (w := .ref x) (fun j q => absurd q (by omega)) (by simp) hl2))
theorem x_iinc_0 {y : YI} {G : GT} {pc nx : Nat} {st : List Value} {h : HS} {k n : Nat} {r : List (Option Value)} {x : Int32} {ic : Int} (v : Int32) (d : Dc y pc (.iinc 0 ic) 3 nx) (hv : x + Int32.ofInt ic = v) (hi : 0 < yL y) (K : xj y G nx (some (.int v) :: r) st h k n) : xj y G pc (some (.int x) :: r) st h k n := by
  intro E p l e s m args below meth c H locs la C hH hS hl
  obtain ⟨hx, hb, -⟩ := id C
  obtain ⟨d, rfl⟩ := d
  obtain ⟨q, hq⟩ := List.getElem?_of_mem (lvl_mem (E := E) (some (.int x) :: r) 0 0 (.int x) rfl)
  rw [Nat.zero_add] at hq
  exact lv_iinc hx hb d hl hq hv hi rfl (fun la2 hl2 => K E p l e s m args below meth c H locs la2 C hH hS (la_set1 (E := E) (i := 0) (ls := some (.int x) :: r) (w := .int v) (fun j q => absurd q (by omega)) (by simp) hl2))
theorem x_iload_1 {y : YI} {G : GT} {pc nx : Nat} {st : List Value} {h : HS} {k n : Nat} {a0 : Option Value} {r : List (Option Value)} {x : Int32} (d : Dc y pc (.iload_n 1) 1 nx) (K : xj y G nx (a0 :: some (.int x) :: r) (.int x :: st) h k n) : xj y G pc (a0 :: some (.int x) :: r) st h k n := by
  intro E p l e s m args below meth c H locs la C hH hS hl
  obtain ⟨hx, hb, -⟩ := id C
  obtain ⟨d, rfl⟩ := d
  exact lv_iload_n hx hb d rfl (la_get hl (i := 1) (v := .int x) rfl) (K E p l e s m args below meth c H locs la C hH hS hl)
theorem x_istore_1 {y : YI} {G : GT} {pc nx : Nat} {st : List Value} {h : HS} {k n : Nat} {a0 : Option Value} {b : Option Value} {r : List (Option Value)} {x : Int32} (d : Dc y pc (.istore_n 1) 1 nx) (hp : isC2 a0 = false) (hi : 1 < yL y) (K : xj y G nx (a0 :: some (.int x) :: r) st h k n) : xj y G pc (a0 :: b :: r) (.int x :: st) h k n := by
  intro E p l e s m args below meth c H locs la C hH hS hl
  obtain ⟨hx, hb, -⟩ := id C
  obtain ⟨d, rfl⟩ := d
  exact lv_istore_n hx hb d rfl hl hi rfl (fun la2 hl2 => K E p l e s m args below meth c H locs la2 C hH hS (la_set1 (E := E) (i := 1) (ls := a0 :: b :: r) (w := .int x) (fun j q => by (obtain rfl : j = 0 := by omega); exact hp) (by simp) hl2))
theorem x_lload_1 {y : YI} {G : GT} {pc nx : Nat} {st : List Value} {h : HS} {k n : Nat} {a0 : Option Value} {r : List (Option Value)} {x : Int64} (d : Dc y pc (.lload_n 1) 1 nx) (K : xj y G nx (a0 :: some (.long x) :: r) (.long x :: st) h k n) : xj y G pc (a0 :: some (.long x) :: r) st h k n := by
  intro E p l e s m args below meth c H locs la C hH hS hl
  obtain ⟨hx, hb, -⟩ := id C
  obtain ⟨d, rfl⟩ := d
  exact lv_lload_n hx hb d rfl (la_get hl (i := 1) (v := .long x) rfl) (K E p l e s m args below meth c H locs la C hH hS hl)
theorem x_lstore_1 {y : YI} {G : GT} {pc nx : Nat} {st : List Value} {h : HS} {k n : Nat} {a0 : Option Value} {b b1 : Option Value} {r : List (Option Value)} {x : Int64} (d : Dc y pc (.lstore_n 1) 1 nx) (hp : isC2 a0 = false) (hi : 1 + 1 < yL y) (K : xj y G nx (a0 :: some (.long x) :: none :: r) st h k n) : xj y G pc (a0 :: b :: b1 :: r) (.long x :: st) h k n := by
  intro E p l e s m args below meth c H locs la C hH hS hl
  obtain ⟨hx, hb, -⟩ := id C
  obtain ⟨d, rfl⟩ := d
  exact lv_lstore_n hx hb d rfl hl hi rfl (fun la2 hl2 => K E p l e s m args below meth c H locs la2 C hH hS (la_set2 (E := E) (i := 1) (ls := a0 :: b :: b1 :: r) (w := .long x) (fun j q => by (obtain rfl : j = 0 := by omega); exact hp) (by simp) hl2))
theorem x_aload_1 {y : YI} {G : GT} {pc nx : Nat} {st : List Value} {h : HS} {k n : Nat} {a0 : Option Value} {r : List (Option Value)} {x : Nat} (d : Dc y pc (.aload_n 1) 1 nx) (K : xj y G nx (a0 :: some (.ref x) :: r) (.ref x :: st) h k n) : xj y G pc (a0 :: some (.ref x) :: r) st h k n := by
  intro E p l e s m args below meth c H locs la C hH hS hl
  obtain ⟨hx, hb, -⟩ := id C
  obtain ⟨d, rfl⟩ := d
  exact lv_aload_n hx hb d rfl (la_get hl (i := 1) (v := .ref x) rfl) (K E p l e s m args below meth c H locs la C hH hS hl)
theorem x_astore_1 {y : YI} {G : GT} {pc nx : Nat} {st : List Value} {h : HS} {k n : Nat} {a0 : Option Value} {b : Option Value} {r : List (Option Value)} {x : Nat} (d : Dc y pc (.astore_n 1) 1 nx) (hp : isC2 a0 = false) (hi : 1 < yL y) (K : xj y G nx (a0 :: some (.ref x) :: r) st h k n) : xj y G pc (a0 :: b :: r) (.ref x :: st) h k n := by
  intro E p l e s m args below meth c H locs la C hH hS hl
  obtain ⟨hx, hb, -⟩ := id C
  obtain ⟨d, rfl⟩ := d
  exact lv_astore_n hx hb d rfl hl hi rfl (fun la2 hl2 => K E p l e s m args below meth c H locs la2 C hH hS (la_set1 (E := E) (i := 1) (ls := a0 :: b :: r) (w := .ref x) (fun j q => by (obtain rfl : j = 0 := by omega); exact hp) (by simp) hl2))
theorem x_iinc_1 {y : YI} {G : GT} {pc nx : Nat} {st : List Value} {h : HS} {k n : Nat} {a0 : Option Value} {r : List (Option Value)} {x : Int32} {ic : Int} (v : Int32) (d : Dc y pc (.iinc 1 ic) 3 nx) (hp : isC2 a0 = false) (hv : x + Int32.ofInt ic = v) (hi : 1 < yL y) (K : xj y G nx (a0 :: some (.int v) :: r) st h k n) : xj y G pc (a0 :: some (.int x) :: r) st h k n := by
  intro E p l e s m args below meth c H locs la C hH hS hl
  obtain ⟨hx, hb, -⟩ := id C
  obtain ⟨d, rfl⟩ := d
  obtain ⟨q, hq⟩ := List.getElem?_of_mem (lvl_mem (E := E) (a0 :: some (.int x) :: r) 0 1 (.int x) rfl)
  rw [Nat.zero_add] at hq
  exact lv_iinc hx hb d hl hq hv hi rfl (fun la2 hl2 => K E p l e s m args below meth c H locs la2 C hH hS (la_set1 (E := E) (i := 1) (ls := a0 :: some (.int x) :: r) (w := .int v) (fun j q => by (obtain rfl : j = 0 := by omega); exact hp) (by simp) hl2))
theorem x_iload_2 {y : YI} {G : GT} {pc nx : Nat} {st : List Value} {h : HS} {k n : Nat} {a0 a1 : Option Value} {r : List (Option Value)} {x : Int32} (d : Dc y pc (.iload_n 2) 1 nx) (K : xj y G nx (a0 :: a1 :: some (.int x) :: r) (.int x :: st) h k n) : xj y G pc (a0 :: a1 :: some (.int x) :: r) st h k n := by
  intro E p l e s m args below meth c H locs la C hH hS hl
  obtain ⟨hx, hb, -⟩ := id C
  obtain ⟨d, rfl⟩ := d
  exact lv_iload_n hx hb d rfl (la_get hl (i := 2) (v := .int x) rfl) (K E p l e s m args below meth c H locs la C hH hS hl)
theorem x_istore_2 {y : YI} {G : GT} {pc nx : Nat} {st : List Value} {h : HS} {k n : Nat} {a0 a1 : Option Value} {b : Option Value} {r : List (Option Value)} {x : Int32} (d : Dc y pc (.istore_n 2) 1 nx) (hp : isC2 a1 = false) (hi : 2 < yL y) (K : xj y G nx (a0 :: a1 :: some (.int x) :: r) st h k n) : xj y G pc (a0 :: a1 :: b :: r) (.int x :: st) h k n := by
  intro E p l e s m args below meth c H locs la C hH hS hl
  obtain ⟨hx, hb, -⟩ := id C
  obtain ⟨d, rfl⟩ := d
  exact lv_istore_n hx hb d rfl hl hi rfl (fun la2 hl2 => K E p l e s m args below meth c H locs la2 C hH hS (la_set1 (E := E) (i := 2) (ls := a0 :: a1 :: b :: r) (w := .int x) (fun j q => by (obtain rfl : j = 1 := by omega); exact hp) (by simp) hl2))
theorem x_lload_2 {y : YI} {G : GT} {pc nx : Nat} {st : List Value} {h : HS} {k n : Nat} {a0 a1 : Option Value} {r : List (Option Value)} {x : Int64} (d : Dc y pc (.lload_n 2) 1 nx) (K : xj y G nx (a0 :: a1 :: some (.long x) :: r) (.long x :: st) h k n) : xj y G pc (a0 :: a1 :: some (.long x) :: r) st h k n := by
  intro E p l e s m args below meth c H locs la C hH hS hl
  obtain ⟨hx, hb, -⟩ := id C
  obtain ⟨d, rfl⟩ := d
  exact lv_lload_n hx hb d rfl (la_get hl (i := 2) (v := .long x) rfl) (K E p l e s m args below meth c H locs la C hH hS hl)
theorem x_lstore_2 {y : YI} {G : GT} {pc nx : Nat} {st : List Value} {h : HS} {k n : Nat} {a0 a1 : Option Value} {b b1 : Option Value} {r : List (Option Value)} {x : Int64} (d : Dc y pc (.lstore_n 2) 1 nx) (hp : isC2 a1 = false) (hi : 2 + 1 < yL y) (K : xj y G nx (a0 :: a1 :: some (.long x) :: none :: r) st h k n) : xj y G pc (a0 :: a1 :: b :: b1 :: r) (.long x :: st) h k n := by
  intro E p l e s m args below meth c H locs la C hH hS hl
  obtain ⟨hx, hb, -⟩ := id C
  obtain ⟨d, rfl⟩ := d
  exact lv_lstore_n hx hb d rfl hl hi rfl (fun la2 hl2 => K E p l e s m args below meth c H locs la2 C hH hS (la_set2 (E := E) (i := 2) (ls := a0 :: a1 :: b :: b1 :: r) (w := .long x) (fun j q => by (obtain rfl : j = 1 := by omega); exact hp) (by simp) hl2))
theorem x_aload_2 {y : YI} {G : GT} {pc nx : Nat} {st : List Value} {h : HS} {k n : Nat} {a0 a1 : Option Value} {r : List (Option Value)} {x : Nat} (d : Dc y pc (.aload_n 2) 1 nx) (K : xj y G nx (a0 :: a1 :: some (.ref x) :: r) (.ref x :: st) h k n) : xj y G pc (a0 :: a1 :: some (.ref x) :: r) st h k n := by
  intro E p l e s m args below meth c H locs la C hH hS hl
  obtain ⟨hx, hb, -⟩ := id C
  obtain ⟨d, rfl⟩ := d
  exact lv_aload_n hx hb d rfl (la_get hl (i := 2) (v := .ref x) rfl) (K E p l e s m args below meth c H locs la C hH hS hl)
theorem x_astore_2 {y : YI} {G : GT} {pc nx : Nat} {st : List Value} {h : HS} {k n : Nat} {a0 a1 : Option Value} {b : Option Value} {r : List (Option Value)} {x : Nat} (d : Dc y pc (.astore_n 2) 1 nx) (hp : isC2 a1 = false) (hi : 2 < yL y) (K : xj y G nx (a0 :: a1 :: some (.ref x) :: r) st h k n) : xj y G pc (a0 :: a1 :: b :: r) (.ref x :: st) h k n := by
  intro E p l e s m args below meth c H locs la C hH hS hl
  obtain ⟨hx, hb, -⟩ := id C
  obtain ⟨d, rfl⟩ := d
  exact lv_astore_n hx hb d rfl hl hi rfl (fun la2 hl2 => K E p l e s m args below meth c H locs la2 C hH hS (la_set1 (E := E) (i := 2) (ls := a0 :: a1 :: b :: r) (w := .ref x) (fun j q => by (obtain rfl : j = 1 := by omega); exact hp) (by simp) hl2))
theorem x_iinc_2 {y : YI} {G : GT} {pc nx : Nat} {st : List Value} {h : HS} {k n : Nat} {a0 a1 : Option Value} {r : List (Option Value)} {x : Int32} {ic : Int} (v : Int32) (d : Dc y pc (.iinc 2 ic) 3 nx) (hp : isC2 a1 = false) (hv : x + Int32.ofInt ic = v) (hi : 2 < yL y) (K : xj y G nx (a0 :: a1 :: some (.int v) :: r) st h k n) : xj y G pc (a0 :: a1 :: some (.int x) :: r) st h k n := by
  intro E p l e s m args below meth c H locs la C hH hS hl
  obtain ⟨hx, hb, -⟩ := id C
  obtain ⟨d, rfl⟩ := d
  obtain ⟨q, hq⟩ := List.getElem?_of_mem (lvl_mem (E := E) (a0 :: a1 :: some (.int x) :: r) 0 2 (.int x) rfl)
  rw [Nat.zero_add] at hq
  exact lv_iinc hx hb d hl hq hv hi rfl (fun la2 hl2 => K E p l e s m args below meth c H locs la2 C hH hS (la_set1 (E := E) (i := 2) (ls := a0 :: a1 :: some (.int x) :: r) (w := .int v) (fun j q => by (obtain rfl : j = 1 := by omega); exact hp) (by simp) hl2))
theorem x_iload_3 {y : YI} {G : GT} {pc nx : Nat} {st : List Value} {h : HS} {k n : Nat} {a0 a1 a2 : Option Value} {r : List (Option Value)} {x : Int32} (d : Dc y pc (.iload_n 3) 1 nx) (K : xj y G nx (a0 :: a1 :: a2 :: some (.int x) :: r) (.int x :: st) h k n) : xj y G pc (a0 :: a1 :: a2 :: some (.int x) :: r) st h k n := by
  intro E p l e s m args below meth c H locs la C hH hS hl
  obtain ⟨hx, hb, -⟩ := id C
  obtain ⟨d, rfl⟩ := d
  exact lv_iload_n hx hb d rfl (la_get hl (i := 3) (v := .int x) rfl) (K E p l e s m args below meth c H locs la C hH hS hl)
theorem x_istore_3 {y : YI} {G : GT} {pc nx : Nat} {st : List Value} {h : HS} {k n : Nat} {a0 a1 a2 : Option Value} {b : Option Value} {r : List (Option Value)} {x : Int32} (d : Dc y pc (.istore_n 3) 1 nx) (hp : isC2 a2 = false) (hi : 3 < yL y) (K : xj y G nx (a0 :: a1 :: a2 :: some (.int x) :: r) st h k n) : xj y G pc (a0 :: a1 :: a2 :: b :: r) (.int x :: st) h k n := by
  intro E p l e s m args below meth c H locs la C hH hS hl
  obtain ⟨hx, hb, -⟩ := id C
  obtain ⟨d, rfl⟩ := d
  exact lv_istore_n hx hb d rfl hl hi rfl (fun la2 hl2 => K E p l e s m args below meth c H locs la2 C hH hS (la_set1 (E := E) (i := 3) (ls := a0 :: a1 :: a2 :: b :: r) (w := .int x) (fun j q => by (obtain rfl : j = 2 := by omega); exact hp) (by simp) hl2))
theorem x_lload_3 {y : YI} {G : GT} {pc nx : Nat} {st : List Value} {h : HS} {k n : Nat} {a0 a1 a2 : Option Value} {r : List (Option Value)} {x : Int64} (d : Dc y pc (.lload_n 3) 1 nx) (K : xj y G nx (a0 :: a1 :: a2 :: some (.long x) :: r) (.long x :: st) h k n) : xj y G pc (a0 :: a1 :: a2 :: some (.long x) :: r) st h k n := by
  intro E p l e s m args below meth c H locs la C hH hS hl
  obtain ⟨hx, hb, -⟩ := id C
  obtain ⟨d, rfl⟩ := d
  exact lv_lload_n hx hb d rfl (la_get hl (i := 3) (v := .long x) rfl) (K E p l e s m args below meth c H locs la C hH hS hl)
theorem x_lstore_3 {y : YI} {G : GT} {pc nx : Nat} {st : List Value} {h : HS} {k n : Nat} {a0 a1 a2 : Option Value} {b b1 : Option Value} {r : List (Option Value)} {x : Int64} (d : Dc y pc (.lstore_n 3) 1 nx) (hp : isC2 a2 = false) (hi : 3 + 1 < yL y) (K : xj y G nx (a0 :: a1 :: a2 :: some (.long x) :: none :: r) st h k n) : xj y G pc (a0 :: a1 :: a2 :: b :: b1 :: r) (.long x :: st) h k n := by
  intro E p l e s m args below meth c H locs la C hH hS hl
  obtain ⟨hx, hb, -⟩ := id C
  obtain ⟨d, rfl⟩ := d
  exact lv_lstore_n hx hb d rfl hl hi rfl (fun la2 hl2 => K E p l e s m args below meth c H locs la2 C hH hS (la_set2 (E := E) (i := 3) (ls := a0 :: a1 :: a2 :: b :: b1 :: r) (w := .long x) (fun j q => by (obtain rfl : j = 2 := by omega); exact hp) (by simp) hl2))
theorem x_aload_3 {y : YI} {G : GT} {pc nx : Nat} {st : List Value} {h : HS} {k n : Nat} {a0 a1 a2 : Option Value} {r : List (Option Value)} {x : Nat} (d : Dc y pc (.aload_n 3) 1 nx) (K : xj y G nx (a0 :: a1 :: a2 :: some (.ref x) :: r) (.ref x :: st) h k n) : xj y G pc (a0 :: a1 :: a2 :: some (.ref x) :: r) st h k n := by
  intro E p l e s m args below meth c H locs la C hH hS hl
  obtain ⟨hx, hb, -⟩ := id C
  obtain ⟨d, rfl⟩ := d
  exact lv_aload_n hx hb d rfl (la_get hl (i := 3) (v := .ref x) rfl) (K E p l e s m args below meth c H locs la C hH hS hl)
theorem x_astore_3 {y : YI} {G : GT} {pc nx : Nat} {st : List Value} {h : HS} {k n : Nat} {a0 a1 a2 : Option Value} {b : Option Value} {r : List (Option Value)} {x : Nat} (d : Dc y pc (.astore_n 3) 1 nx) (hp : isC2 a2 = false) (hi : 3 < yL y) (K : xj y G nx (a0 :: a1 :: a2 :: some (.ref x) :: r) st h k n) : xj y G pc (a0 :: a1 :: a2 :: b :: r) (.ref x :: st) h k n := by
  intro E p l e s m args below meth c H locs la C hH hS hl
  obtain ⟨hx, hb, -⟩ := id C
  obtain ⟨d, rfl⟩ := d
  exact lv_astore_n hx hb d rfl hl hi rfl (fun la2 hl2 => K E p l e s m args below meth c H locs la2 C hH hS (la_set1 (E := E) (i := 3) (ls := a0 :: a1 :: a2 :: b :: r) (w := .ref x) (fun j q => by (obtain rfl : j = 2 := by omega); exact hp) (by simp) hl2))
theorem x_iinc_3 {y : YI} {G : GT} {pc nx : Nat} {st : List Value} {h : HS} {k n : Nat} {a0 a1 a2 : Option Value} {r : List (Option Value)} {x : Int32} {ic : Int} (v : Int32) (d : Dc y pc (.iinc 3 ic) 3 nx) (hp : isC2 a2 = false) (hv : x + Int32.ofInt ic = v) (hi : 3 < yL y) (K : xj y G nx (a0 :: a1 :: a2 :: some (.int v) :: r) st h k n) : xj y G pc (a0 :: a1 :: a2 :: some (.int x) :: r) st h k n := by
  intro E p l e s m args below meth c H locs la C hH hS hl
  obtain ⟨hx, hb, -⟩ := id C
  obtain ⟨d, rfl⟩ := d
  obtain ⟨q, hq⟩ := List.getElem?_of_mem (lvl_mem (E := E) (a0 :: a1 :: a2 :: some (.int x) :: r) 0 3 (.int x) rfl)
  rw [Nat.zero_add] at hq
  exact lv_iinc hx hb d hl hq hv hi rfl (fun la2 hl2 => K E p l e s m args below meth c H locs la2 C hH hS (la_set1 (E := E) (i := 3) (ls := a0 :: a1 :: a2 :: some (.int x) :: r) (w := .int v) (fun j q => by (obtain rfl : j = 2 := by omega); exact hp) (by simp) hl2))
theorem x_iload_4 {y : YI} {G : GT} {pc nx : Nat} {st : List Value} {h : HS} {k n : Nat} {a0 a1 a2 a3 : Option Value} {r : List (Option Value)} {x : Int32} (d : Dc y pc (.iload 4) 2 nx) (K : xj y G nx (a0 :: a1 :: a2 :: a3 :: some (.int x) :: r) (.int x :: st) h k n) : xj y G pc (a0 :: a1 :: a2 :: a3 :: some (.int x) :: r) st h k n := by
  intro E p l e s m args below meth c H locs la C hH hS hl
  obtain ⟨hx, hb, -⟩ := id C
  obtain ⟨d, rfl⟩ := d
  exact lv_iload hx hb d (la_get hl (i := 4) (v := .int x) rfl) (K E p l e s m args below meth c H locs la C hH hS hl)
theorem x_istore_4 {y : YI} {G : GT} {pc nx : Nat} {st : List Value} {h : HS} {k n : Nat} {a0 a1 a2 a3 : Option Value} {b : Option Value} {r : List (Option Value)} {x : Int32} (d : Dc y pc (.istore 4) 2 nx) (hp : isC2 a3 = false) (hi : 4 < yL y) (K : xj y G nx (a0 :: a1 :: a2 :: a3 :: some (.int x) :: r) st h k n) : xj y G pc (a0 :: a1 :: a2 :: a3 :: b :: r) (.int x :: st) h k n := by
  intro E p l e s m args below meth c H locs la C hH hS hl
  obtain ⟨hx, hb, -⟩ := id C
  obtain ⟨d, rfl⟩ := d
  exact lv_istore hx hb d hl hi rfl (fun la2 hl2 => K E p l e s m args below meth c H locs la2 C hH hS (la_set1 (E := E) (i := 4) (ls := a0 :: a1 :: a2 :: a3 :: b :: r) (w := .int x) (fun j q => by (obtain rfl : j = 3 := by omega); exact hp) (by simp) hl2))
theorem x_lload_4 {y : YI} {G : GT} {pc nx : Nat} {st : List Value} {h : HS} {k n : Nat} {a0 a1 a2 a3 : Option Value} {r : List (Option Value)} {x : Int64} (d : Dc y pc (.lload 4) 2 nx) (K : xj y G nx (a0 :: a1 :: a2 :: a3 :: some (.long x) :: r) (.long x :: st) h k n) : xj y G pc (a0 :: a1 :: a2 :: a3 :: some (.long x) :: r) st h k n := by
  intro E p l e s m args below meth c H locs la C hH hS hl
  obtain ⟨hx, hb, -⟩ := id C
  obtain ⟨d, rfl⟩ := d
  exact lv_lload hx hb d (la_get hl (i := 4) (v := .long x) rfl) (K E p l e s m args below meth c H locs la C hH hS hl)
theorem x_lstore_4 {y : YI} {G : GT} {pc nx : Nat} {st : List Value} {h : HS} {k n : Nat} {a0 a1 a2 a3 : Option Value} {b b1 : Option Value} {r : List (Option Value)} {x : Int64} (d : Dc y pc (.lstore 4) 2 nx) (hp : isC2 a3 = false) (hi : 4 + 1 < yL y) (K : xj y G nx (a0 :: a1 :: a2 :: a3 :: some (.long x) :: none :: r) st h k n) : xj y G pc (a0 :: a1 :: a2 :: a3 :: b :: b1 :: r) (.long x :: st) h k n := by
  intro E p l e s m args below meth c H locs la C hH hS hl
  obtain ⟨hx, hb, -⟩ := id C
  obtain ⟨d, rfl⟩ := d
  exact lv_lstore hx hb d hl hi rfl (fun la2 hl2 => K E p l e s m args below meth c H locs la2 C hH hS (la_set2 (E := E) (i := 4) (ls := a0 :: a1 :: a2 :: a3 :: b :: b1 :: r) (w := .long x) (fun j q => by (obtain rfl : j = 3 := by omega); exact hp) (by simp) hl2))
theorem x_aload_4 {y : YI} {G : GT} {pc nx : Nat} {st : List Value} {h : HS} {k n : Nat} {a0 a1 a2 a3 : Option Value} {r : List (Option Value)} {x : Nat} (d : Dc y pc (.aload 4) 2 nx) (K : xj y G nx (a0 :: a1 :: a2 :: a3 :: some (.ref x) :: r) (.ref x :: st) h k n) : xj y G pc (a0 :: a1 :: a2 :: a3 :: some (.ref x) :: r) st h k n := by
  intro E p l e s m args below meth c H locs la C hH hS hl
  obtain ⟨hx, hb, -⟩ := id C
  obtain ⟨d, rfl⟩ := d
  exact lv_aload hx hb d (la_get hl (i := 4) (v := .ref x) rfl) (K E p l e s m args below meth c H locs la C hH hS hl)
theorem x_astore_4 {y : YI} {G : GT} {pc nx : Nat} {st : List Value} {h : HS} {k n : Nat} {a0 a1 a2 a3 : Option Value} {b : Option Value} {r : List (Option Value)} {x : Nat} (d : Dc y pc (.astore 4) 2 nx) (hp : isC2 a3 = false) (hi : 4 < yL y) (K : xj y G nx (a0 :: a1 :: a2 :: a3 :: some (.ref x) :: r) st h k n) : xj y G pc (a0 :: a1 :: a2 :: a3 :: b :: r) (.ref x :: st) h k n := by
  intro E p l e s m args below meth c H locs la C hH hS hl
  obtain ⟨hx, hb, -⟩ := id C
  obtain ⟨d, rfl⟩ := d
  exact lv_astore hx hb d hl hi rfl (fun la2 hl2 => K E p l e s m args below meth c H locs la2 C hH hS (la_set1 (E := E) (i := 4) (ls := a0 :: a1 :: a2 :: a3 :: b :: r) (w := .ref x) (fun j q => by (obtain rfl : j = 3 := by omega); exact hp) (by simp) hl2))
theorem x_iinc_4 {y : YI} {G : GT} {pc nx : Nat} {st : List Value} {h : HS} {k n : Nat} {a0 a1 a2 a3 : Option Value} {r : List (Option Value)} {x : Int32} {ic : Int} (v : Int32) (d : Dc y pc (.iinc 4 ic) 3 nx) (hp : isC2 a3 = false) (hv : x + Int32.ofInt ic = v) (hi : 4 < yL y) (K : xj y G nx (a0 :: a1 :: a2 :: a3 :: some (.int v) :: r) st h k n) : xj y G pc (a0 :: a1 :: a2 :: a3 :: some (.int x) :: r) st h k n := by
  intro E p l e s m args below meth c H locs la C hH hS hl
  obtain ⟨hx, hb, -⟩ := id C
  obtain ⟨d, rfl⟩ := d
  obtain ⟨q, hq⟩ := List.getElem?_of_mem (lvl_mem (E := E) (a0 :: a1 :: a2 :: a3 :: some (.int x) :: r) 0 4 (.int x) rfl)
  rw [Nat.zero_add] at hq
  exact lv_iinc hx hb d hl hq hv hi rfl (fun la2 hl2 => K E p l e s m args below meth c H locs la2 C hH hS (la_set1 (E := E) (i := 4) (ls := a0 :: a1 :: a2 :: a3 :: some (.int x) :: r) (w := .int v) (fun j q => by (obtain rfl : j = 3 := by omega); exact hp) (by simp) hl2))
theorem x_iload_5 {y : YI} {G : GT} {pc nx : Nat} {st : List Value} {h : HS} {k n : Nat} {a0 a1 a2 a3 a4 : Option Value} {r : List (Option Value)} {x : Int32} (d : Dc y pc (.iload 5) 2 nx) (K : xj y G nx (a0 :: a1 :: a2 :: a3 :: a4 :: some (.int x) :: r) (.int x :: st) h k n) : xj y G pc (a0 :: a1 :: a2 :: a3 :: a4 :: some (.int x) :: r) st h k n := by
  intro E p l e s m args below meth c H locs la C hH hS hl
  obtain ⟨hx, hb, -⟩ := id C
  obtain ⟨d, rfl⟩ := d
  exact lv_iload hx hb d (la_get hl (i := 5) (v := .int x) rfl) (K E p l e s m args below meth c H locs la C hH hS hl)
theorem x_istore_5 {y : YI} {G : GT} {pc nx : Nat} {st : List Value} {h : HS} {k n : Nat} {a0 a1 a2 a3 a4 : Option Value} {b : Option Value} {r : List (Option Value)} {x : Int32} (d : Dc y pc (.istore 5) 2 nx) (hp : isC2 a4 = false) (hi : 5 < yL y) (K : xj y G nx (a0 :: a1 :: a2 :: a3 :: a4 :: some (.int x) :: r) st h k n) : xj y G pc (a0 :: a1 :: a2 :: a3 :: a4 :: b :: r) (.int x :: st) h k n := by
  intro E p l e s m args below meth c H locs la C hH hS hl
  obtain ⟨hx, hb, -⟩ := id C
  obtain ⟨d, rfl⟩ := d
  exact lv_istore hx hb d hl hi rfl (fun la2 hl2 => K E p l e s m args below meth c H locs la2 C hH hS (la_set1 (E := E) (i := 5) (ls := a0 :: a1 :: a2 :: a3 :: a4 :: b :: r) (w := .int x) (fun j q => by (obtain rfl : j = 4 := by omega); exact hp) (by simp) hl2))
theorem x_lload_5 {y : YI} {G : GT} {pc nx : Nat} {st : List Value} {h : HS} {k n : Nat} {a0 a1 a2 a3 a4 : Option Value} {r : List (Option Value)} {x : Int64} (d : Dc y pc (.lload 5) 2 nx) (K : xj y G nx (a0 :: a1 :: a2 :: a3 :: a4 :: some (.long x) :: r) (.long x :: st) h k n) : xj y G pc (a0 :: a1 :: a2 :: a3 :: a4 :: some (.long x) :: r) st h k n := by
  intro E p l e s m args below meth c H locs la C hH hS hl
  obtain ⟨hx, hb, -⟩ := id C
  obtain ⟨d, rfl⟩ := d
  exact lv_lload hx hb d (la_get hl (i := 5) (v := .long x) rfl) (K E p l e s m args below meth c H locs la C hH hS hl)
theorem x_lstore_5 {y : YI} {G : GT} {pc nx : Nat} {st : List Value} {h : HS} {k n : Nat} {a0 a1 a2 a3 a4 : Option Value} {b b1 : Option Value} {r : List (Option Value)} {x : Int64} (d : Dc y pc (.lstore 5) 2 nx) (hp : isC2 a4 = false) (hi : 5 + 1 < yL y) (K : xj y G nx (a0 :: a1 :: a2 :: a3 :: a4 :: some (.long x) :: none :: r) st h k n) : xj y G pc (a0 :: a1 :: a2 :: a3 :: a4 :: b :: b1 :: r) (.long x :: st) h k n := by
  intro E p l e s m args below meth c H locs la C hH hS hl
  obtain ⟨hx, hb, -⟩ := id C
  obtain ⟨d, rfl⟩ := d
  exact lv_lstore hx hb d hl hi rfl (fun la2 hl2 => K E p l e s m args below meth c H locs la2 C hH hS (la_set2 (E := E) (i := 5) (ls := a0 :: a1 :: a2 :: a3 :: a4 :: b :: b1 :: r) (w := .long x) (fun j q => by (obtain rfl : j = 4 := by omega); exact hp) (by simp) hl2))
theorem x_aload_5 {y : YI} {G : GT} {pc nx : Nat} {st : List Value} {h : HS} {k n : Nat} {a0 a1 a2 a3 a4 : Option Value} {r : List (Option Value)} {x : Nat} (d : Dc y pc (.aload 5) 2 nx) (K : xj y G nx (a0 :: a1 :: a2 :: a3 :: a4 :: some (.ref x) :: r) (.ref x :: st) h k n) : xj y G pc (a0 :: a1 :: a2 :: a3 :: a4 :: some (.ref x) :: r) st h k n := by
  intro E p l e s m args below meth c H locs la C hH hS hl
  obtain ⟨hx, hb, -⟩ := id C
  obtain ⟨d, rfl⟩ := d
  exact lv_aload hx hb d (la_get hl (i := 5) (v := .ref x) rfl) (K E p l e s m args below meth c H locs la C hH hS hl)
theorem x_astore_5 {y : YI} {G : GT} {pc nx : Nat} {st : List Value} {h : HS} {k n : Nat} {a0 a1 a2 a3 a4 : Option Value} {b : Option Value} {r : List (Option Value)} {x : Nat} (d : Dc y pc (.astore 5) 2 nx) (hp : isC2 a4 = false) (hi : 5 < yL y) (K : xj y G nx (a0 :: a1 :: a2 :: a3 :: a4 :: some (.ref x) :: r) st h k n) : xj y G pc (a0 :: a1 :: a2 :: a3 :: a4 :: b :: r) (.ref x :: st) h k n := by
  intro E p l e s m args below meth c H locs la C hH hS hl
  obtain ⟨hx, hb, -⟩ := id C
  obtain ⟨d, rfl⟩ := d
  exact lv_astore hx hb d hl hi rfl (fun la2 hl2 => K E p l e s m args below meth c H locs la2 C hH hS (la_set1 (E := E) (i := 5) (ls := a0 :: a1 :: a2 :: a3 :: a4 :: b :: r) (w := .ref x) (fun j q => by (obtain rfl : j = 4 := by omega); exact hp) (by simp) hl2))
theorem x_iinc_5 {y : YI} {G : GT} {pc nx : Nat} {st : List Value} {h : HS} {k n : Nat} {a0 a1 a2 a3 a4 : Option Value} {r : List (Option Value)} {x : Int32} {ic : Int} (v : Int32) (d : Dc y pc (.iinc 5 ic) 3 nx) (hp : isC2 a4 = false) (hv : x + Int32.ofInt ic = v) (hi : 5 < yL y) (K : xj y G nx (a0 :: a1 :: a2 :: a3 :: a4 :: some (.int v) :: r) st h k n) : xj y G pc (a0 :: a1 :: a2 :: a3 :: a4 :: some (.int x) :: r) st h k n := by
  intro E p l e s m args below meth c H locs la C hH hS hl
  obtain ⟨hx, hb, -⟩ := id C
  obtain ⟨d, rfl⟩ := d
  obtain ⟨q, hq⟩ := List.getElem?_of_mem (lvl_mem (E := E) (a0 :: a1 :: a2 :: a3 :: a4 :: some (.int x) :: r) 0 5 (.int x) rfl)
  rw [Nat.zero_add] at hq
  exact lv_iinc hx hb d hl hq hv hi rfl (fun la2 hl2 => K E p l e s m args below meth c H locs la2 C hH hS (la_set1 (E := E) (i := 5) (ls := a0 :: a1 :: a2 :: a3 :: a4 :: some (.int x) :: r) (w := .int v) (fun j q => by (obtain rfl : j = 4 := by omega); exact hp) (by simp) hl2))
theorem x_iload_6 {y : YI} {G : GT} {pc nx : Nat} {st : List Value} {h : HS} {k n : Nat} {a0 a1 a2 a3 a4 a5 : Option Value} {r : List (Option Value)} {x : Int32} (d : Dc y pc (.iload 6) 2 nx) (K : xj y G nx (a0 :: a1 :: a2 :: a3 :: a4 :: a5 :: some (.int x) :: r) (.int x :: st) h k n) : xj y G pc (a0 :: a1 :: a2 :: a3 :: a4 :: a5 :: some (.int x) :: r) st h k n := by
  intro E p l e s m args below meth c H locs la C hH hS hl
  obtain ⟨hx, hb, -⟩ := id C
  obtain ⟨d, rfl⟩ := d
  exact lv_iload hx hb d (la_get hl (i := 6) (v := .int x) rfl) (K E p l e s m args below meth c H locs la C hH hS hl)
theorem x_istore_6 {y : YI} {G : GT} {pc nx : Nat} {st : List Value} {h : HS} {k n : Nat} {a0 a1 a2 a3 a4 a5 : Option Value} {b : Option Value} {r : List (Option Value)} {x : Int32} (d : Dc y pc (.istore 6) 2 nx) (hp : isC2 a5 = false) (hi : 6 < yL y) (K : xj y G nx (a0 :: a1 :: a2 :: a3 :: a4 :: a5 :: some (.int x) :: r) st h k n) : xj y G pc (a0 :: a1 :: a2 :: a3 :: a4 :: a5 :: b :: r) (.int x :: st) h k n := by
  intro E p l e s m args below meth c H locs la C hH hS hl
  obtain ⟨hx, hb, -⟩ := id C
  obtain ⟨d, rfl⟩ := d
  exact lv_istore hx hb d hl hi rfl (fun la2 hl2 => K E p l e s m args below meth c H locs la2 C hH hS (la_set1 (E := E) (i := 6) (ls := a0 :: a1 :: a2 :: a3 :: a4 :: a5 :: b :: r) (w := .int x) (fun j q => by (obtain rfl : j = 5 := by omega); exact hp) (by simp) hl2))
theorem x_aload_6 {y : YI} {G : GT} {pc nx : Nat} {st : List Value} {h : HS} {k n : Nat} {a0 a1 a2 a3 a4 a5 : Option Value} {r : List (Option Value)} {x : Nat} (d : Dc y pc (.aload 6) 2 nx) (K : xj y G nx (a0 :: a1 :: a2 :: a3 :: a4 :: a5 :: some (.ref x) :: r) (.ref x :: st) h k n) : xj y G pc (a0 :: a1 :: a2 :: a3 :: a4 :: a5 :: some (.ref x) :: r) st h k n := by
  intro E p l e s m args below meth c H locs la C hH hS hl
  obtain ⟨hx, hb, -⟩ := id C
  obtain ⟨d, rfl⟩ := d
  exact lv_aload hx hb d (la_get hl (i := 6) (v := .ref x) rfl) (K E p l e s m args below meth c H locs la C hH hS hl)
theorem x_astore_6 {y : YI} {G : GT} {pc nx : Nat} {st : List Value} {h : HS} {k n : Nat} {a0 a1 a2 a3 a4 a5 : Option Value} {b : Option Value} {r : List (Option Value)} {x : Nat} (d : Dc y pc (.astore 6) 2 nx) (hp : isC2 a5 = false) (hi : 6 < yL y) (K : xj y G nx (a0 :: a1 :: a2 :: a3 :: a4 :: a5 :: some (.ref x) :: r) st h k n) : xj y G pc (a0 :: a1 :: a2 :: a3 :: a4 :: a5 :: b :: r) (.ref x :: st) h k n := by
  intro E p l e s m args below meth c H locs la C hH hS hl
  obtain ⟨hx, hb, -⟩ := id C
  obtain ⟨d, rfl⟩ := d
  exact lv_astore hx hb d hl hi rfl (fun la2 hl2 => K E p l e s m args below meth c H locs la2 C hH hS (la_set1 (E := E) (i := 6) (ls := a0 :: a1 :: a2 :: a3 :: a4 :: a5 :: b :: r) (w := .ref x) (fun j q => by (obtain rfl : j = 5 := by omega); exact hp) (by simp) hl2))
theorem x_iinc_6 {y : YI} {G : GT} {pc nx : Nat} {st : List Value} {h : HS} {k n : Nat} {a0 a1 a2 a3 a4 a5 : Option Value} {r : List (Option Value)} {x : Int32} {ic : Int} (v : Int32) (d : Dc y pc (.iinc 6 ic) 3 nx) (hp : isC2 a5 = false) (hv : x + Int32.ofInt ic = v) (hi : 6 < yL y) (K : xj y G nx (a0 :: a1 :: a2 :: a3 :: a4 :: a5 :: some (.int v) :: r) st h k n) : xj y G pc (a0 :: a1 :: a2 :: a3 :: a4 :: a5 :: some (.int x) :: r) st h k n := by
  intro E p l e s m args below meth c H locs la C hH hS hl
  obtain ⟨hx, hb, -⟩ := id C
  obtain ⟨d, rfl⟩ := d
  obtain ⟨q, hq⟩ := List.getElem?_of_mem (lvl_mem (E := E) (a0 :: a1 :: a2 :: a3 :: a4 :: a5 :: some (.int x) :: r) 0 6 (.int x) rfl)
  rw [Nat.zero_add] at hq
  exact lv_iinc hx hb d hl hq hv hi rfl (fun la2 hl2 => K E p l e s m args below meth c H locs la2 C hH hS (la_set1 (E := E) (i := 6) (ls := a0 :: a1 :: a2 :: a3 :: a4 :: a5 :: some (.int x) :: r) (w := .int v) (fun j q => by (obtain rfl : j = 5 := by omega); exact hp) (by simp) hl2))
theorem x_iload_7 {y : YI} {G : GT} {pc nx : Nat} {st : List Value} {h : HS} {k n : Nat} {a0 a1 a2 a3 a4 a5 a6 : Option Value} {r : List (Option Value)} {x : Int32} (d : Dc y pc (.iload 7) 2 nx) (K : xj y G nx (a0 :: a1 :: a2 :: a3 :: a4 :: a5 :: a6 :: some (.int x) :: r) (.int x :: st) h k n) : xj y G pc (a0 :: a1 :: a2 :: a3 :: a4 :: a5 :: a6 :: some (.int x) :: r) st h k n := by
  intro E p l e s m args below meth c H locs la C hH hS hl
  obtain ⟨hx, hb, -⟩ := id C
  obtain ⟨d, rfl⟩ := d
  exact lv_iload hx hb d (la_get hl (i := 7) (v := .int x) rfl) (K E p l e s m args below meth c H locs la C hH hS hl)
theorem x_istore_7 {y : YI} {G : GT} {pc nx : Nat} {st : List Value} {h : HS} {k n : Nat} {a0 a1 a2 a3 a4 a5 a6 : Option Value} {b : Option Value} {r : List (Option Value)} {x : Int32} (d : Dc y pc (.istore 7) 2 nx) (hp : isC2 a6 = false) (hi : 7 < yL y) (K : xj y G nx (a0 :: a1 :: a2 :: a3 :: a4 :: a5 :: a6 :: some (.int x) :: r) st h k n) : xj y G pc (a0 :: a1 :: a2 :: a3 :: a4 :: a5 :: a6 :: b :: r) (.int x :: st) h k n := by
  intro E p l e s m args below meth c H locs la C hH hS hl
  obtain ⟨hx, hb, -⟩ := id C
  obtain ⟨d, rfl⟩ := d
  exact lv_istore hx hb d hl hi rfl (fun la2 hl2 => K E p l e s m args below meth c H locs la2 C hH hS (la_set1 (E := E) (i := 7) (ls := a0 :: a1 :: a2 :: a3 :: a4 :: a5 :: a6 :: b :: r) (w := .int x) (fun j q => by (obtain rfl : j = 6 := by omega); exact hp) (by simp) hl2))
theorem x_aload_7 {y : YI} {G : GT} {pc nx : Nat} {st : List Value} {h : HS} {k n : Nat} {a0 a1 a2 a3 a4 a5 a6 : Option Value} {r : List (Option Value)} {x : Nat} (d : Dc y pc (.aload 7) 2 nx) (K : xj y G nx (a0 :: a1 :: a2 :: a3 :: a4 :: a5 :: a6 :: some (.ref x) :: r) (.ref x :: st) h k n) : xj y G pc (a0 :: a1 :: a2 :: a3 :: a4 :: a5 :: a6 :: some (.ref x) :: r) st h k n := by
  intro E p l e s m args below meth c H locs la C hH hS hl
  obtain ⟨hx, hb, -⟩ := id C
  obtain ⟨d, rfl⟩ := d
  exact lv_aload hx hb d (la_get hl (i := 7) (v := .ref x) rfl) (K E p l e s m args below meth c H locs la C hH hS hl)
theorem x_astore_7 {y : YI} {G : GT} {pc nx : Nat} {st : List Value} {h : HS} {k n : Nat} {a0 a1 a2 a3 a4 a5 a6 : Option Value} {b : Option Value} {r : List (Option Value)} {x : Nat} (d : Dc y pc (.astore 7) 2 nx) (hp : isC2 a6 = false) (hi : 7 < yL y) (K : xj y G nx (a0 :: a1 :: a2 :: a3 :: a4 :: a5 :: a6 :: some (.ref x) :: r) st h k n) : xj y G pc (a0 :: a1 :: a2 :: a3 :: a4 :: a5 :: a6 :: b :: r) (.ref x :: st) h k n := by
  intro E p l e s m args below meth c H locs la C hH hS hl
  obtain ⟨hx, hb, -⟩ := id C
  obtain ⟨d, rfl⟩ := d
  exact lv_astore hx hb d hl hi rfl (fun la2 hl2 => K E p l e s m args below meth c H locs la2 C hH hS (la_set1 (E := E) (i := 7) (ls := a0 :: a1 :: a2 :: a3 :: a4 :: a5 :: a6 :: b :: r) (w := .ref x) (fun j q => by (obtain rfl : j = 6 := by omega); exact hp) (by simp) hl2))
theorem x_iinc_7 {y : YI} {G : GT} {pc nx : Nat} {st : List Value} {h : HS} {k n : Nat} {a0 a1 a2 a3 a4 a5 a6 : Option Value} {r : List (Option Value)} {x : Int32} {ic : Int} (v : Int32) (d : Dc y pc (.iinc 7 ic) 3 nx) (hp : isC2 a6 = false) (hv : x + Int32.ofInt ic = v) (hi : 7 < yL y) (K : xj y G nx (a0 :: a1 :: a2 :: a3 :: a4 :: a5 :: a6 :: some (.int v) :: r) st h k n) : xj y G pc (a0 :: a1 :: a2 :: a3 :: a4 :: a5 :: a6 :: some (.int x) :: r) st h k n := by
  intro E p l e s m args below meth c H locs la C hH hS hl
  obtain ⟨hx, hb, -⟩ := id C
  obtain ⟨d, rfl⟩ := d
  obtain ⟨q, hq⟩ := List.getElem?_of_mem (lvl_mem (E := E) (a0 :: a1 :: a2 :: a3 :: a4 :: a5 :: a6 :: some (.int x) :: r) 0 7 (.int x) rfl)
  rw [Nat.zero_add] at hq
  exact lv_iinc hx hb d hl hq hv hi rfl (fun la2 hl2 => K E p l e s m args below meth c H locs la2 C hH hS (la_set1 (E := E) (i := 7) (ls := a0 :: a1 :: a2 :: a3 :: a4 :: a5 :: a6 :: some (.int x) :: r) (w := .int v) (fun j q => by (obtain rfl : j = 6 := by omega); exact hp) (by simp) hl2))
theorem x_iload_8 {y : YI} {G : GT} {pc nx : Nat} {st : List Value} {h : HS} {k n : Nat} {a0 a1 a2 a3 a4 a5 a6 a7 : Option Value} {r : List (Option Value)} {x : Int32} (d : Dc y pc (.iload 8) 2 nx) (K : xj y G nx (a0 :: a1 :: a2 :: a3 :: a4 :: a5 :: a6 :: a7 :: some (.int x) :: r) (.int x :: st) h k n) : xj y G pc (a0 :: a1 :: a2 :: a3 :: a4 :: a5 :: a6 :: a7 :: some (.int x) :: r) st h k n := by
  intro E p l e s m args below meth c H locs la C hH hS hl
  obtain ⟨hx, hb, -⟩ := id C
  obtain ⟨d, rfl⟩ := d
  exact lv_iload hx hb d (la_get hl (i := 8) (v := .int x) rfl) (K E p l e s m args below meth c H locs la C hH hS hl)
theorem x_istore_8 {y : YI} {G : GT} {pc nx : Nat} {st : List Value} {h : HS} {k n : Nat} {a0 a1 a2 a3 a4 a5 a6 a7 : Option Value} {b : Option Value} {r : List (Option Value)} {x : Int32} (d : Dc y pc (.istore 8) 2 nx) (hp : isC2 a7 = false) (hi : 8 < yL y) (K : xj y G nx (a0 :: a1 :: a2 :: a3 :: a4 :: a5 :: a6 :: a7 :: some (.int x) :: r) st h k n) : xj y G pc (a0 :: a1 :: a2 :: a3 :: a4 :: a5 :: a6 :: a7 :: b :: r) (.int x :: st) h k n := by
  intro E p l e s m args below meth c H locs la C hH hS hl
  obtain ⟨hx, hb, -⟩ := id C
  obtain ⟨d, rfl⟩ := d
  exact lv_istore hx hb d hl hi rfl (fun la2 hl2 => K E p l e s m args below meth c H locs la2 C hH hS (la_set1 (E := E) (i := 8) (ls := a0 :: a1 :: a2 :: a3 :: a4 :: a5 :: a6 :: a7 :: b :: r) (w := .int x) (fun j q => by (obtain rfl : j = 7 := by omega); exact hp) (by simp) hl2))
theorem x_aload_8 {y : YI} {G : GT} {pc nx : Nat} {st : List Value} {h : HS} {k n : Nat} {a0 a1 a2 a3 a4 a5 a6 a7 : Option Value} {r : List (Option Value)} {x : Nat} (d : Dc y pc (.aload 8) 2 nx) (K : xj y G nx (a0 :: a1 :: a2 :: a3 :: a4 :: a5 :: a6 :: a7 :: some (.ref x) :: r) (.ref x :: st) h k n) : xj y G pc (a0 :: a1 :: a2 :: a3 :: a4 :: a5 :: a6 :: a7 :: some (.ref x) :: r) st h k n := by
  intro E p l e s m args below meth c H locs la C hH hS hl
  obtain ⟨hx, hb, -⟩ := id C
  obtain ⟨d, rfl⟩ := d
  exact lv_aload hx hb d (la_get hl (i := 8) (v := .ref x) rfl) (K E p l e s m args below meth c H locs la C hH hS hl)
theorem x_astore_8 {y : YI} {G : GT} {pc nx : Nat} {st : List Value} {h : HS} {k n : Nat} {a0 a1 a2 a3 a4 a5 a6 a7 : Option Value} {b : Option Value} {r : List (Option Value)} {x : Nat} (d : Dc y pc (.astore 8) 2 nx) (hp : isC2 a7 = false) (hi : 8 < yL y) (K : xj y G nx (a0 :: a1 :: a2 :: a3 :: a4 :: a5 :: a6 :: a7 :: some (.ref x) :: r) st h k n) : xj y G pc (a0 :: a1 :: a2 :: a3 :: a4 :: a5 :: a6 :: a7 :: b :: r) (.ref x :: st) h k n := by
  intro E p l e s m args below meth c H locs la C hH hS hl
  obtain ⟨hx, hb, -⟩ := id C
  obtain ⟨d, rfl⟩ := d
  exact lv_astore hx hb d hl hi rfl (fun la2 hl2 => K E p l e s m args below meth c H locs la2 C hH hS (la_set1 (E := E) (i := 8) (ls := a0 :: a1 :: a2 :: a3 :: a4 :: a5 :: a6 :: a7 :: b :: r) (w := .ref x) (fun j q => by (obtain rfl : j = 7 := by omega); exact hp) (by simp) hl2))
theorem x_iinc_8 {y : YI} {G : GT} {pc nx : Nat} {st : List Value} {h : HS} {k n : Nat} {a0 a1 a2 a3 a4 a5 a6 a7 : Option Value} {r : List (Option Value)} {x : Int32} {ic : Int} (v : Int32) (d : Dc y pc (.iinc 8 ic) 3 nx) (hp : isC2 a7 = false) (hv : x + Int32.ofInt ic = v) (hi : 8 < yL y) (K : xj y G nx (a0 :: a1 :: a2 :: a3 :: a4 :: a5 :: a6 :: a7 :: some (.int v) :: r) st h k n) : xj y G pc (a0 :: a1 :: a2 :: a3 :: a4 :: a5 :: a6 :: a7 :: some (.int x) :: r) st h k n := by
  intro E p l e s m args below meth c H locs la C hH hS hl
  obtain ⟨hx, hb, -⟩ := id C
  obtain ⟨d, rfl⟩ := d
  obtain ⟨q, hq⟩ := List.getElem?_of_mem (lvl_mem (E := E) (a0 :: a1 :: a2 :: a3 :: a4 :: a5 :: a6 :: a7 :: some (.int x) :: r) 0 8 (.int x) rfl)
  rw [Nat.zero_add] at hq
  exact lv_iinc hx hb d hl hq hv hi rfl (fun la2 hl2 => K E p l e s m args below meth c H locs la2 C hH hS (la_set1 (E := E) (i := 8) (ls := a0 :: a1 :: a2 :: a3 :: a4 :: a5 :: a6 :: a7 :: some (.int x) :: r) (w := .int v) (fun j q => by (obtain rfl : j = 7 := by omega); exact hp) (by simp) hl2))
theorem x_iload_9 {y : YI} {G : GT} {pc nx : Nat} {st : List Value} {h : HS} {k n : Nat} {a0 a1 a2 a3 a4 a5 a6 a7 a8 : Option Value} {r : List (Option Value)} {x : Int32} (d : Dc y pc (.iload 9) 2 nx) (K : xj y G nx (a0 :: a1 :: a2 :: a3 :: a4 :: a5 :: a6 :: a7 :: a8 :: some (.int x) :: r) (.int x :: st) h k n) : xj y G pc (a0 :: a1 :: a2 :: a3 :: a4 :: a5 :: a6 :: a7 :: a8 :: some (.int x) :: r) st h k n := by
  intro E p l e s m args below meth c H locs la C hH hS hl
  obtain ⟨hx, hb, -⟩ := id C
  obtain ⟨d, rfl⟩ := d
  exact lv_iload hx hb d (la_get hl (i := 9) (v := .int x) rfl) (K E p l e s m args below meth c H locs la C hH hS hl)
theorem x_istore_9 {y : YI} {G : GT} {pc nx : Nat} {st : List Value} {h : HS} {k n : Nat} {a0 a1 a2 a3 a4 a5 a6 a7 a8 : Option Value} {b : Option Value} {r : List (Option Value)} {x : Int32} (d : Dc y pc (.istore 9) 2 nx) (hp : isC2 a8 = false) (hi : 9 < yL y) (K : xj y G nx (a0 :: a1 :: a2 :: a3 :: a4 :: a5 :: a6 :: a7 :: a8 :: some (.int x) :: r) st h k n) : xj y G pc (a0 :: a1 :: a2 :: a3 :: a4 :: a5 :: a6 :: a7 :: a8 :: b :: r) (.int x :: st) h k n := by
  intro E p l e s m args below meth c H locs la C hH hS hl
  obtain ⟨hx, hb, -⟩ := id C
  obtain ⟨d, rfl⟩ := d
  exact lv_istore hx hb d hl hi rfl (fun la2 hl2 => K E p l e s m args below meth c H locs la2 C hH hS (la_set1 (E := E) (i := 9) (ls := a0 :: a1 :: a2 :: a3 :: a4 :: a5 :: a6 :: a7 :: a8 :: b :: r) (w := .int x) (fun j q => by (obtain rfl : j = 8 := by omega); exact hp) (by simp) hl2))
theorem x_aload_9 {y : YI} {G : GT} {pc nx : Nat} {st : List Value} {h : HS} {k n : Nat} {a0 a1 a2 a3 a4 a5 a6 a7 a8 : Option Value} {r : List (Option Value)} {x : Nat} (d : Dc y pc (.aload 9) 2 nx) (K : xj y G nx (a0 :: a1 :: a2 :: a3 :: a4 :: a5 :: a6 :: a7 :: a8 :: some (.ref x) :: r) (.ref x :: st) h k n) : xj y G pc (a0 :: a1 :: a2 :: a3 :: a4 :: a5 :: a6 :: a7 :: a8 :: some (.ref x) :: r) st h k n := by
  intro E p l e s m args below meth c H locs la C hH hS hl
  obtain ⟨hx, hb, -⟩ := id C
  obtain ⟨d, rfl⟩ := d
  exact lv_aload hx hb d (la_get hl (i := 9) (v := .ref x) rfl) (K E p l e s m args below meth c H locs la C hH hS hl)
theorem x_astore_9 {y : YI} {G : GT} {pc nx : Nat} {st : List Value} {h : HS} {k n : Nat} {a0 a1 a2 a3 a4 a5 a6 a7 a8 : Option Value} {b : Option Value} {r : List (Option Value)} {x : Nat} (d : Dc y pc (.astore 9) 2 nx) (hp : isC2 a8 = false) (hi : 9 < yL y) (K : xj y G nx (a0 :: a1 :: a2 :: a3 :: a4 :: a5 :: a6 :: a7 :: a8 :: some (.ref x) :: r) st h k n) : xj y G pc (a0 :: a1 :: a2 :: a3 :: a4 :: a5 :: a6 :: a7 :: a8 :: b :: r) (.ref x :: st) h k n := by
  intro E p l e s m args below meth c H locs la C hH hS hl
  obtain ⟨hx, hb, -⟩ := id C
  obtain ⟨d, rfl⟩ := d
  exact lv_astore hx hb d hl hi rfl (fun la2 hl2 => K E p l e s m args below meth c H locs la2 C hH hS (la_set1 (E := E) (i := 9) (ls := a0 :: a1 :: a2 :: a3 :: a4 :: a5 :: a6 :: a7 :: a8 :: b :: r) (w := .ref x) (fun j q => by (obtain rfl : j = 8 := by omega); exact hp) (by simp) hl2))
theorem x_iinc_9 {y : YI} {G : GT} {pc nx : Nat} {st : List Value} {h : HS} {k n : Nat} {a0 a1 a2 a3 a4 a5 a6 a7 a8 : Option Value} {r : List (Option Value)} {x : Int32} {ic : Int} (v : Int32) (d : Dc y pc (.iinc 9 ic) 3 nx) (hp : isC2 a8 = false) (hv : x + Int32.ofInt ic = v) (hi : 9 < yL y) (K : xj y G nx (a0 :: a1 :: a2 :: a3 :: a4 :: a5 :: a6 :: a7 :: a8 :: some (.int v) :: r) st h k n) : xj y G pc (a0 :: a1 :: a2 :: a3 :: a4 :: a5 :: a6 :: a7 :: a8 :: some (.int x) :: r) st h k n := by
  intro E p l e s m args below meth c H locs la C hH hS hl
  obtain ⟨hx, hb, -⟩ := id C
  obtain ⟨d, rfl⟩ := d
  obtain ⟨q, hq⟩ := List.getElem?_of_mem (lvl_mem (E := E) (a0 :: a1 :: a2 :: a3 :: a4 :: a5 :: a6 :: a7 :: a8 :: some (.int x) :: r) 0 9 (.int x) rfl)
  rw [Nat.zero_add] at hq
  exact lv_iinc hx hb d hl hq hv hi rfl (fun la2 hl2 => K E p l e s m args below meth c H locs la2 C hH hS (la_set1 (E := E) (i := 9) (ls := a0 :: a1 :: a2 :: a3 :: a4 :: a5 :: a6 :: a7 :: a8 :: some (.int x) :: r) (w := .int v) (fun j q => by (obtain rfl : j = 8 := by omega); exact hp) (by simp) hl2))
theorem x_iload_10 {y : YI} {G : GT} {pc nx : Nat} {st : List Value} {h : HS} {k n : Nat} {a0 a1 a2 a3 a4 a5 a6 a7 a8 a9 : Option Value} {r : List (Option Value)} {x : Int32} (d : Dc y pc (.iload 10) 2 nx) (K : xj y G nx (a0 :: a1 :: a2 :: a3 :: a4 :: a5 :: a6 :: a7 :: a8 :: a9 :: some (.int x) :: r) (.int x :: st) h k n) : xj y G pc (a0 :: a1 :: a2 :: a3 :: a4 :: a5 :: a6 :: a7 :: a8 :: a9 :: some (.int x) :: r) st h k n := by
  intro E p l e s m args below meth c H locs la C hH hS hl
  obtain ⟨hx, hb, -⟩ := id C
  obtain ⟨d, rfl⟩ := d
  exact lv_iload hx hb d (la_get hl (i := 10) (v := .int x) rfl) (K E p l e s m args below meth c H locs la C hH hS hl)
theorem x_istore_10 {y : YI} {G : GT} {pc nx : Nat} {st : List Value} {h : HS} {k n : Nat} {a0 a1 a2 a3 a4 a5 a6 a7 a8 a9 : Option Value} {b : Option Value} {r : List (Option Value)} {x : Int32} (d : Dc y pc (.istore 10) 2 nx) (hp : isC2 a9 = false) (hi : 10 < yL y) (K : xj y G nx (a0 :: a1 :: a2 :: a3 :: a4 :: a5 :: a6 :: a7 :: a8 :: a9 :: some (.int x) :: r) st h k n) : xj y G pc (a0 :: a1 :: a2 :: a3 :: a4 :: a5 :: a6 :: a7 :: a8 :: a9 :: b :: r) (.int x :: st) h k n := by
  intro E p l e s m args below meth c H locs la C hH hS hl
  obtain ⟨hx, hb, -⟩ := id C
  obtain ⟨d, rfl⟩ := d
  exact lv_istore hx hb d hl hi rfl (fun la2 hl2 => K E p l e s m args below meth c H locs la2 C hH hS (la_set1 (E := E) (i := 10) (ls := a0 :: a1 :: a2 :: a3 :: a4 :: a5 :: a6 :: a7 :: a8 :: a9 :: b :: r) (w := .int x) (fun j q => by (obtain rfl : j = 9 := by omega); exact hp) (by simp) hl2))
theorem x_aload_10 {y : YI} {G : GT} {pc nx : Nat} {st : List Value} {h : HS} {k n : Nat} {a0 a1 a2 a3 a4 a5 a6 a7 a8 a9 : Option Value} {r : List (Option Value)} {x : Nat} (d : Dc y pc (.aload 10) 2 nx) (K : xj y G nx (a0 :: a1 :: a2 :: a3 :: a4 :: a5 :: a6 :: a7 :: a8 :: a9 :: some (.ref x) :: r) (.ref x :: st) h k n) : xj y G pc (a0 :: a1 :: a2 :: a3 :: a4 :: a5 :: a6 :: a7 :: a8 :: a9 :: some (.ref x) :: r) st h k n := by
  intro E p l e s m args below meth c H locs la C hH hS hl
  obtain ⟨hx, hb, -⟩ := id C
  obtain ⟨d, rfl⟩ := d
  exact lv_aload hx hb d (la_get hl (i := 10) (v := .ref x) rfl) (K E p l e s m args below meth c H locs la C hH hS hl)
theorem x_astore_10 {y : YI} {G : GT} {pc nx : Nat} {st : List Value} {h : HS} {k n : Nat} {a0 a1 a2 a3 a4 a5 a6 a7 a8 a9 : Option Value} {b : Option Value} {r : List (Option Value)} {x : Nat} (d : Dc y pc (.astore 10) 2 nx) (hp : isC2 a9 = false) (hi : 10 < yL y) (K : xj y G nx (a0 :: a1 :: a2 :: a3 :: a4 :: a5 :: a6 :: a7 :: a8 :: a9 :: some (.ref x) :: r) st h k n) : xj y G pc (a0 :: a1 :: a2 :: a3 :: a4 :: a5 :: a6 :: a7 :: a8 :: a9 :: b :: r) (.ref x :: st) h k n := by
  intro E p l e s m args below meth c H locs la C hH hS hl
  obtain ⟨hx, hb, -⟩ := id C
  obtain ⟨d, rfl⟩ := d
  exact lv_astore hx hb d hl hi rfl (fun la2 hl2 => K E p l e s m args below meth c H locs la2 C hH hS (la_set1 (E := E) (i := 10) (ls := a0 :: a1 :: a2 :: a3 :: a4 :: a5 :: a6 :: a7 :: a8 :: a9 :: b :: r) (w := .ref x) (fun j q => by (obtain rfl : j = 9 := by omega); exact hp) (by simp) hl2))
theorem x_iinc_10 {y : YI} {G : GT} {pc nx : Nat} {st : List Value} {h : HS} {k n : Nat} {a0 a1 a2 a3 a4 a5 a6 a7 a8 a9 : Option Value} {r : List (Option Value)} {x : Int32} {ic : Int} (v : Int32) (d : Dc y pc (.iinc 10 ic) 3 nx) (hp : isC2 a9 = false) (hv : x + Int32.ofInt ic = v) (hi : 10 < yL y) (K : xj y G nx (a0 :: a1 :: a2 :: a3 :: a4 :: a5 :: a6 :: a7 :: a8 :: a9 :: some (.int v) :: r) st h k n) : xj y G pc (a0 :: a1 :: a2 :: a3 :: a4 :: a5 :: a6 :: a7 :: a8 :: a9 :: some (.int x) :: r) st h k n := by
  intro E p l e s m args below meth c H locs la C hH hS hl
  obtain ⟨hx, hb, -⟩ := id C
  obtain ⟨d, rfl⟩ := d
  obtain ⟨q, hq⟩ := List.getElem?_of_mem (lvl_mem (E := E) (a0 :: a1 :: a2 :: a3 :: a4 :: a5 :: a6 :: a7 :: a8 :: a9 :: some (.int x) :: r) 0 10 (.int x) rfl)
  rw [Nat.zero_add] at hq
  exact lv_iinc hx hb d hl hq hv hi rfl (fun la2 hl2 => K E p l e s m args below meth c H locs la2 C hH hS (la_set1 (E := E) (i := 10) (ls := a0 :: a1 :: a2 :: a3 :: a4 :: a5 :: a6 :: a7 :: a8 :: a9 :: some (.int x) :: r) (w := .int v) (fun j q => by (obtain rfl : j = 9 := by omega); exact hp) (by simp) hl2))
theorem x_iload_11 {y : YI} {G : GT} {pc nx : Nat} {st : List Value} {h : HS} {k n : Nat} {a0 a1 a2 a3 a4 a5 a6 a7 a8 a9 a10 : Option Value} {r : List (Option Value)} {x : Int32} (d : Dc y pc (.iload 11) 2 nx) (K : xj y G nx (a0 :: a1 :: a2 :: a3 :: a4 :: a5 :: a6 :: a7 :: a8 :: a9 :: a10 :: some (.int x) :: r) (.int x :: st) h k n) : xj y G pc (a0 :: a1 :: a2 :: a3 :: a4 :: a5 :: a6 :: a7 :: a8 :: a9 :: a10 :: some (.int x) :: r) st h k n := by
  intro E p l e s m args below meth c H locs la C hH hS hl
  obtain ⟨hx, hb, -⟩ := id C
  obtain ⟨d, rfl⟩ := d
  exact lv_iload hx hb d (la_get hl (i := 11) (v := .int x) rfl) (K E p l e s m args below meth c H locs la C hH hS hl)
theorem x_istore_11 {y : YI} {G : GT} {pc nx : Nat} {st : List Value} {h : HS} {k n : Nat} {a0 a1 a2 a3 a4 a5 a6 a7 a8 a9 a10 : Option Value} {b : Option Value} {r : List (Option Value)} {x : Int32} (d : Dc y pc (.istore 11) 2 nx) (hp : isC2 a10 = false) (hi : 11 < yL y) (K : xj y G nx (a0 :: a1 :: a2 :: a3 :: a4 :: a5 :: a6 :: a7 :: a8 :: a9 :: a10 :: some (.int x) :: r) st h k n) : xj y G pc (a0 :: a1 :: a2 :: a3 :: a4 :: a5 :: a6 :: a7 :: a8 :: a9 :: a10 :: b :: r) (.int x :: st) h k n := by
  intro E p l e s m args below meth c H locs la C hH hS hl
  obtain ⟨hx, hb, -⟩ := id C
  obtain ⟨d, rfl⟩ := d
  exact lv_istore hx hb d hl hi rfl (fun la2 hl2 => K E p l e s m args below meth c H locs la2 C hH hS (la_set1 (E := E) (i := 11) (ls := a0 :: a1 :: a2 :: a3 :: a4 :: a5 :: a6 :: a7 :: a8 :: a9 :: a10 :: b :: r) (w := .int x) (fun j q => by (obtain rfl : j = 10 := by omega); exact hp) (by simp) hl2))
theorem x_aload_11 {y : YI} {G : GT} {pc nx : Nat} {st : List Value} {h : HS} {k n : Nat} {a0 a1 a2 a3 a4 a5 a6 a7 a8 a9 a10 : Option Value} {r : List (Option Value)} {x : Nat} (d : Dc y pc (.aload 11) 2 nx) (K : xj y G nx (a0 :: a1 :: a2 :: a3 :: a4 :: a5 :: a6 :: a7 :: a8 :: a9 :: a10 :: some (.ref x) :: r) (.ref x :: st) h k n) : xj y G pc (a0 :: a1 :: a2 :: a3 :: a4 :: a5 :: a6 :: a7 :: a8 :: a9 :: a10 :: some (.ref x) :: r) st h k n := by
  intro E p l e s m args below meth c H locs la C hH hS hl
  obtain ⟨hx, hb, -⟩ := id C
  obtain ⟨d, rfl⟩ := d
  exact lv_aload hx hb d (la_get hl (i := 11) (v := .ref x) rfl) (K E p l e s m args below meth c H locs la C hH hS hl)
theorem x_astore_11 {y : YI} {G : GT} {pc nx : Nat} {st : List Value} {h : HS} {k n : Nat} {a0 a1 a2 a3 a4 a5 a6 a7 a8 a9 a10 : Option Value} {b : Option Value} {r : List (Option Value)} {x : Nat} (d : Dc y pc (.astore 11) 2 nx) (hp : isC2 a10 = false) (hi : 11 < yL y) (K : xj y G nx (a0 :: a1 :: a2 :: a3 :: a4 :: a5 :: a6 :: a7 :: a8 :: a9 :: a10 :: some (.ref x) :: r) st h k n) : xj y G pc (a0 :: a1 :: a2 :: a3 :: a4 :: a5 :: a6 :: a7 :: a8 :: a9 :: a10 :: b :: r) (.ref x :: st) h k n := by
  intro E p l e s m args below meth c H locs la C hH hS hl
  obtain ⟨hx, hb, -⟩ := id C
  obtain ⟨d, rfl⟩ := d
  exact lv_astore hx hb d hl hi rfl (fun la2 hl2 => K E p l e s m args below meth c H locs la2 C hH hS (la_set1 (E := E) (i := 11) (ls := a0 :: a1 :: a2 :: a3 :: a4 :: a5 :: a6 :: a7 :: a8 :: a9 :: a10 :: b :: r) (w := .ref x) (fun j q => by (obtain rfl : j = 10 := by omega); exact hp) (by simp) hl2))
theorem x_iinc_11 {y : YI} {G : GT} {pc nx : Nat} {st : List Value} {h : HS} {k n : Nat} {a0 a1 a2 a3 a4 a5 a6 a7 a8 a9 a10 : Option Value} {r : List (Option Value)} {x : Int32} {ic : Int} (v : Int32) (d : Dc y pc (.iinc 11 ic) 3 nx) (hp : isC2 a10 = false) (hv : x + Int32.ofInt ic = v) (hi : 11 < yL y) (K : xj y G nx (a0 :: a1 :: a2 :: a3 :: a4 :: a5 :: a6 :: a7 :: a8 :: a9 :: a10 :: some (.int v) :: r) st h k n) : xj y G pc (a0 :: a1 :: a2 :: a3 :: a4 :: a5 :: a6 :: a7 :: a8 :: a9 :: a10 :: some (.int x) :: r) st h k n := by
  intro E p l e s m args below meth c H locs la C hH hS hl
  obtain ⟨hx, hb, -⟩ := id C
  obtain ⟨d, rfl⟩ := d
  obtain ⟨q, hq⟩ := List.getElem?_of_mem (lvl_mem (E := E) (a0 :: a1 :: a2 :: a3 :: a4 :: a5 :: a6 :: a7 :: a8 :: a9 :: a10 :: some (.int x) :: r) 0 11 (.int x) rfl)
  rw [Nat.zero_add] at hq
  exact lv_iinc hx hb d hl hq hv hi rfl (fun la2 hl2 => K E p l e s m args below meth c H locs la2 C hH hS (la_set1 (E := E) (i := 11) (ls := a0 :: a1 :: a2 :: a3 :: a4 :: a5 :: a6 :: a7 :: a8 :: a9 :: a10 :: some (.int x) :: r) (w := .int v) (fun j q => by (obtain rfl : j = 10 := by omega); exact hp) (by simp) hl2))
theorem x_iload_12 {y : YI} {G : GT} {pc nx : Nat} {st : List Value} {h : HS} {k n : Nat} {a0 a1 a2 a3 a4 a5 a6 a7 a8 a9 a10 a11 : Option Value} {r : List (Option Value)} {x : Int32} (d : Dc y pc (.iload 12) 2 nx) (K : xj y G nx (a0 :: a1 :: a2 :: a3 :: a4 :: a5 :: a6 :: a7 :: a8 :: a9 :: a10 :: a11 :: some (.int x) :: r) (.int x :: st) h k n) : xj y G pc (a0 :: a1 :: a2 :: a3 :: a4 :: a5 :: a6 :: a7 :: a8 :: a9 :: a10 :: a11 :: some (.int x) :: r) st h k n := by
  intro E p l e s m args below meth c H locs la C hH hS hl
  obtain ⟨hx, hb, -⟩ := id C
  obtain ⟨d, rfl⟩ := d
  exact lv_iload hx hb d (la_get hl (i := 12) (v := .int x) rfl) (K E p l e s m args below meth c H locs la C hH hS hl)
theorem x_istore_12 {y : YI} {G : GT} {pc nx : Nat} {st : List Value} {h : HS} {k n : Nat} {a0 a1 a2 a3 a4 a5 a6 a7 a8 a9 a10 a11 : Option Value} {b : Option Value} {r : List (Option Value)} {x : Int32} (d : Dc y pc (.istore 12) 2 nx) (hp : isC2 a11 = false) (hi : 12 < yL y) (K : xj y G nx (a0 :: a1 :: a2 :: a3 :: a4 :: a5 :: a6 :: a7 :: a8 :: a9 :: a10 :: a11 :: some (.int x) :: r) st h k n) : xj y G pc (a0 :: a1 :: a2 :: a3 :: a4 :: a5 :: a6 :: a7 :: a8 :: a9 :: a10 :: a11 :: b :: r) (.int x :: st) h k n := by
  intro E p l e s m args below meth c H locs la C hH hS hl
  obtain ⟨hx, hb, -⟩ := id C
  obtain ⟨d, rfl⟩ := d
  exact lv_istore hx hb d hl hi rfl (fun la2 hl2 => K E p l e s m args below meth c H locs la2 C hH hS (la_set1 (E := E) (i := 12) (ls := a0 :: a1 :: a2 :: a3 :: a4 :: a5 :: a6 :: a7 :: a8 :: a9 :: a10 :: a11 :: b :: r) (w := .int x) (fun j q => by (obtain rfl : j = 11 := by omega); exact hp) (by simp) hl2))
theorem x_aload_12 {y : YI} {G : GT} {pc nx : Nat} {st : List Value} {h : HS} {k n : Nat} {a0 a1 a2 a3 a4 a5 a6 a7 a8 a9 a10 a11 : Option Value} {r : List (Option Value)} {x : Nat} (d : Dc y pc (.aload 12) 2 nx) (K : xj y G nx (a0 :: a1 :: a2 :: a3 :: a4 :: a5 :: a6 :: a7 :: a8 :: a9 :: a10 :: a11 :: some (.ref x) :: r) (.ref x :: st) h k n) : xj y G pc (a0 :: a1 :: a2 :: a3 :: a4 :: a5 :: a6 :: a7 :: a8 :: a9 :: a10 :: a11 :: some (.ref x) :: r) st h k n := by
  intro E p l e s m args below meth c H locs la C hH hS hl
  obtain ⟨hx, hb, -⟩ := id C
  obtain ⟨d, rfl⟩ := d
  exact lv_aload hx hb d (la_get hl (i := 12) (v := .ref x) rfl) (K E p l e s m args below meth c H locs la C hH hS hl)
theorem x_astore_12 {y : YI} {G : GT} {pc nx : Nat} {st : List Value} {h : HS} {k n : Nat} {a0 a1 a2 a3 a4 a5 a6 a7 a8 a9 a10 a11 : Option Value} {b : Option Value} {r : List (Option Value)} {x : Nat} (d : Dc y pc (.astore 12) 2 nx) (hp : isC2 a11 = false) (hi : 12 < yL y) (K : xj y G nx (a0 :: a1 :: a2 :: a3 :: a4 :: a5 :: a6 :: a7 :: a8 :: a9 :: a10 :: a11 :: some (.ref x) :: r) st h k n) : xj y G pc (a0 :: a1 :: a2 :: a3 :: a4 :: a5 :: a6 :: a7 :: a8 :: a9 :: a10 :: a11 :: b :: r) (.ref x :: st) h k n := by
  intro E p l e s m args below meth c H locs la C hH hS hl
  obtain ⟨hx, hb, -⟩ := id C
  obtain ⟨d, rfl⟩ := d
  exact lv_astore hx hb d hl hi rfl (fun la2 hl2 => K E p l e s m args below meth c H locs la2 C hH hS (la_set1 (E := E) (i := 12) (ls := a0 :: a1 :: a2 :: a3 :: a4 :: a5 :: a6 :: a7 :: a8 :: a9 :: a10 :: a11 :: b :: r) (w := .ref x) (fun j q => by (obtain rfl : j = 11 := by omega); exact hp) (by simp) hl2))
theorem x_iinc_12 {y : YI} {G : GT} {pc nx : Nat} {st : List Value} {h : HS} {k n : Nat} {a0 a1 a2 a3 a4 a5 a6 a7 a8 a9 a10 a11 : Option Value} {r : List (Option Value)} {x : Int32} {ic : Int} (v : Int32) (d : Dc y pc (.iinc 12 ic) 3 nx) (hp : isC2 a11 = false) (hv : x + Int32.ofInt ic = v) (hi : 12 < yL y) (K : xj y G nx (a0 :: a1 :: a2 :: a3 :: a4 :: a5 :: a6 :: a7 :: a8 :: a9 :: a10 :: a11 :: some (.int v) :: r) st h k n) : xj y G pc (a0 :: a1 :: a2 :: a3 :: a4 :: a5 :: a6 :: a7 :: a8 :: a9 :: a10 :: a11 :: some (.int x) :: r) st h k n := by
  intro E p l e s m args below meth c H locs la C hH hS hl
  obtain ⟨hx, hb, -⟩ := id C
  obtain ⟨d, rfl⟩ := d
  obtain ⟨q, hq⟩ := List.getElem?_of_mem (lvl_mem (E := E) (a0 :: a1 :: a2 :: a3 :: a4 :: a5 :: a6 :: a7 :: a8 :: a9 :: a10 :: a11 :: some (.int x) :: r) 0 12 (.int x) rfl)
  rw [Nat.zero_add] at hq
  exact lv_iinc hx hb d hl hq hv hi rfl (fun la2 hl2 => K E p l e s m args below meth c H locs la2 C hH hS (la_set1 (E := E) (i := 12) (ls := a0 :: a1 :: a2 :: a3 :: a4 :: a5 :: a6 :: a7 :: a8 :: a9 :: a10 :: a11 :: some (.int x) :: r) (w := .int v) (fun j q => by (obtain rfl : j = 11 := by omega); exact hp) (by simp) hl2))
theorem x_weak {y : YI} {G : GT} {pc : Nat} {ls : List (Option Value)} {st : List Value} {h : HS} {k n : Nat} {ls' : List (Option Value)} (hw : ∀ (j : Nat) (v : Value), ls'[j]? = some (some v) → ls[j]? = some (some v)) (K : xj y G pc ls' st h k n) : xj y G pc ls st h k n := by
  intro E p l e s m args below meth c H locs la C hH hS hl
  refine K E p l e s m args below meth c H locs la C hH hS (lv_mono hl fun q hq => ?_)
  obtain ⟨j, v, rfl, hj⟩ := lvl_of _ _ _ hq
  exact lvl_mem _ 0 j v (hw j v hj)
theorem weak_nil : ∀ (j : Nat) (v : Value), ([] : List (Option Value))[j]? = some (some v) → ([] : List (Option Value))[j]? = some (some v) := fun _ _ h => h
theorem weak_keep {a : Option Value} {r r' : List (Option Value)} (h : ∀ (j : Nat) (v : Value), r'[j]? = some (some v) → r[j]? = some (some v)) : ∀ (j : Nat) (v : Value), (a :: r')[j]? = some (some v) → (a :: r)[j]? = some (some v) := fun j v q => by
  cases j with
  | zero => simpa using q
  | succ j => simp only [List.getElem?_cons_succ] at q ⊢; exact h j v q
theorem weak_drop {a : Option Value} {r r' : List (Option Value)} (h : ∀ (j : Nat) (v : Value), r'[j]? = some (some v) → r[j]? = some (some v)) : ∀ (j : Nat) (v : Value), (none :: r')[j]? = some (some v) → (a :: r)[j]? = some (some v) := fun j v q => by
  cases j with
  | zero => simp at q
  | succ j => simp only [List.getElem?_cons_succ] at q ⊢; exact h j v q
theorem x_none_0 {y : YI} {G : GT} {pc : Nat} {st : List Value} {h : HS} {k n : Nat} {b : Option Value} {r : List (Option Value)} (K : xj y G pc (none :: r) st h k n) : xj y G pc (b :: r) st h k n := x_weak (weak_drop (fun _ _ q => q)) K
theorem x_none_1 {y : YI} {G : GT} {pc : Nat} {st : List Value} {h : HS} {k n : Nat} {a0 : Option Value} {b : Option Value} {r : List (Option Value)} (K : xj y G pc (a0 :: none :: r) st h k n) : xj y G pc (a0 :: b :: r) st h k n := x_weak (weak_keep (weak_drop (fun _ _ q => q))) K
theorem x_none_2 {y : YI} {G : GT} {pc : Nat} {st : List Value} {h : HS} {k n : Nat} {a0 a1 : Option Value} {b : Option Value} {r : List (Option Value)} (K : xj y G pc (a0 :: a1 :: none :: r) st h k n) : xj y G pc (a0 :: a1 :: b :: r) st h k n := x_weak (weak_keep (weak_keep (weak_drop (fun _ _ q => q)))) K
theorem x_none_3 {y : YI} {G : GT} {pc : Nat} {st : List Value} {h : HS} {k n : Nat} {a0 a1 a2 : Option Value} {b : Option Value} {r : List (Option Value)} (K : xj y G pc (a0 :: a1 :: a2 :: none :: r) st h k n) : xj y G pc (a0 :: a1 :: a2 :: b :: r) st h k n := x_weak (weak_keep (weak_keep (weak_keep (weak_drop (fun _ _ q => q))))) K
theorem x_none_4 {y : YI} {G : GT} {pc : Nat} {st : List Value} {h : HS} {k n : Nat} {a0 a1 a2 a3 : Option Value} {b : Option Value} {r : List (Option Value)} (K : xj y G pc (a0 :: a1 :: a2 :: a3 :: none :: r) st h k n) : xj y G pc (a0 :: a1 :: a2 :: a3 :: b :: r) st h k n := x_weak (weak_keep (weak_keep (weak_keep (weak_keep (weak_drop (fun _ _ q => q)))))) K
theorem x_none_5 {y : YI} {G : GT} {pc : Nat} {st : List Value} {h : HS} {k n : Nat} {a0 a1 a2 a3 a4 : Option Value} {b : Option Value} {r : List (Option Value)} (K : xj y G pc (a0 :: a1 :: a2 :: a3 :: a4 :: none :: r) st h k n) : xj y G pc (a0 :: a1 :: a2 :: a3 :: a4 :: b :: r) st h k n := x_weak (weak_keep (weak_keep (weak_keep (weak_keep (weak_keep (weak_drop (fun _ _ q => q))))))) K
theorem x_none_6 {y : YI} {G : GT} {pc : Nat} {st : List Value} {h : HS} {k n : Nat} {a0 a1 a2 a3 a4 a5 : Option Value} {b : Option Value} {r : List (Option Value)} (K : xj y G pc (a0 :: a1 :: a2 :: a3 :: a4 :: a5 :: none :: r) st h k n) : xj y G pc (a0 :: a1 :: a2 :: a3 :: a4 :: a5 :: b :: r) st h k n := x_weak (weak_keep (weak_keep (weak_keep (weak_keep (weak_keep (weak_keep (weak_drop (fun _ _ q => q)))))))) K
theorem x_none_7 {y : YI} {G : GT} {pc : Nat} {st : List Value} {h : HS} {k n : Nat} {a0 a1 a2 a3 a4 a5 a6 : Option Value} {b : Option Value} {r : List (Option Value)} (K : xj y G pc (a0 :: a1 :: a2 :: a3 :: a4 :: a5 :: a6 :: none :: r) st h k n) : xj y G pc (a0 :: a1 :: a2 :: a3 :: a4 :: a5 :: a6 :: b :: r) st h k n := x_weak (weak_keep (weak_keep (weak_keep (weak_keep (weak_keep (weak_keep (weak_keep (weak_drop (fun _ _ q => q))))))))) K
theorem x_none_8 {y : YI} {G : GT} {pc : Nat} {st : List Value} {h : HS} {k n : Nat} {a0 a1 a2 a3 a4 a5 a6 a7 : Option Value} {b : Option Value} {r : List (Option Value)} (K : xj y G pc (a0 :: a1 :: a2 :: a3 :: a4 :: a5 :: a6 :: a7 :: none :: r) st h k n) : xj y G pc (a0 :: a1 :: a2 :: a3 :: a4 :: a5 :: a6 :: a7 :: b :: r) st h k n := x_weak (weak_keep (weak_keep (weak_keep (weak_keep (weak_keep (weak_keep (weak_keep (weak_keep (weak_drop (fun _ _ q => q)))))))))) K
theorem x_none_9 {y : YI} {G : GT} {pc : Nat} {st : List Value} {h : HS} {k n : Nat} {a0 a1 a2 a3 a4 a5 a6 a7 a8 : Option Value} {b : Option Value} {r : List (Option Value)} (K : xj y G pc (a0 :: a1 :: a2 :: a3 :: a4 :: a5 :: a6 :: a7 :: a8 :: none :: r) st h k n) : xj y G pc (a0 :: a1 :: a2 :: a3 :: a4 :: a5 :: a6 :: a7 :: a8 :: b :: r) st h k n := x_weak (weak_keep (weak_keep (weak_keep (weak_keep (weak_keep (weak_keep (weak_keep (weak_keep (weak_keep (weak_drop (fun _ _ q => q))))))))))) K
theorem x_none_10 {y : YI} {G : GT} {pc : Nat} {st : List Value} {h : HS} {k n : Nat} {a0 a1 a2 a3 a4 a5 a6 a7 a8 a9 : Option Value} {b : Option Value} {r : List (Option Value)} (K : xj y G pc (a0 :: a1 :: a2 :: a3 :: a4 :: a5 :: a6 :: a7 :: a8 :: a9 :: none :: r) st h k n) : xj y G pc (a0 :: a1 :: a2 :: a3 :: a4 :: a5 :: a6 :: a7 :: a8 :: a9 :: b :: r) st h k n := x_weak (weak_keep (weak_keep (weak_keep (weak_keep (weak_keep (weak_keep (weak_keep (weak_keep (weak_keep (weak_keep (weak_drop (fun _ _ q => q)))))))))))) K
theorem x_none_11 {y : YI} {G : GT} {pc : Nat} {st : List Value} {h : HS} {k n : Nat} {a0 a1 a2 a3 a4 a5 a6 a7 a8 a9 a10 : Option Value} {b : Option Value} {r : List (Option Value)} (K : xj y G pc (a0 :: a1 :: a2 :: a3 :: a4 :: a5 :: a6 :: a7 :: a8 :: a9 :: a10 :: none :: r) st h k n) : xj y G pc (a0 :: a1 :: a2 :: a3 :: a4 :: a5 :: a6 :: a7 :: a8 :: a9 :: a10 :: b :: r) st h k n := x_weak (weak_keep (weak_keep (weak_keep (weak_keep (weak_keep (weak_keep (weak_keep (weak_keep (weak_keep (weak_keep (weak_keep (weak_drop (fun _ _ q => q))))))))))))) K
theorem x_none_12 {y : YI} {G : GT} {pc : Nat} {st : List Value} {h : HS} {k n : Nat} {a0 a1 a2 a3 a4 a5 a6 a7 a8 a9 a10 a11 : Option Value} {b : Option Value} {r : List (Option Value)} (K : xj y G pc (a0 :: a1 :: a2 :: a3 :: a4 :: a5 :: a6 :: a7 :: a8 :: a9 :: a10 :: a11 :: none :: r) st h k n) : xj y G pc (a0 :: a1 :: a2 :: a3 :: a4 :: a5 :: a6 :: a7 :: a8 :: a9 :: a10 :: a11 :: b :: r) st h k n := x_weak (weak_keep (weak_keep (weak_keep (weak_keep (weak_keep (weak_keep (weak_keep (weak_keep (weak_keep (weak_keep (weak_keep (weak_keep (weak_drop (fun _ _ q => q)))))))))))))) K
theorem x_ldc2 {y : YI} {G : GT} {pc nx : Nat} {ls : List (Option Value)} {st : List Value} {h : HS} {k n : Nat} {ix : Nat} {v : Int64} (d : Dc y pc (.ldc2_w ix) 3 nx) (hm : Cond.constantLong (yN y).cls ix v ∈ WT) (K : xj y G nx ls (.long v :: st) h k n) : xj y G pc ls st h k n := by
  intro E p l e s m args below meth c H locs la C hH hS hl
  obtain ⟨hx, hb, hr, hml, hown, hts, hlk, hK, hbs, hnm, hNo, hex⟩ := id C
  obtain ⟨d, rfl⟩ := d
  exact lv_ldc2 hx hb hown (hts _ hm) d (K E p l e s m args below meth c H locs la C hH hS hl)
theorem x_ldcw {y : YI} {G : GT} {pc nx : Nat} {ls : List (Option Value)} {st : List Value} {h : HS} {k n : Nat} {ix : Nat} {v : Int32} (d : Dc y pc (.ldc_w ix) 3 nx) (hm : Cond.constant (yN y).cls ix v ∈ WT) (K : xj y G nx ls (.int v :: st) h k n) : xj y G pc ls st h k n := by
  intro E p l e s m args below meth c H locs la C hH hS hl
  obtain ⟨hx, hb, hr, hml, hown, hts, hlk, hK, hbs, hnm, hNo, hex⟩ := id C
  obtain ⟨d, rfl⟩ := d
  exact lv_ldcw hx hb hown (hts _ hm) d (K E p l e s m args below meth c H locs la C hH hS hl)
/-- fields -/
theorem x_getf {y : YI} {G : GT} {pc nx : Nat} {ls : List (Option Value)} {st : List Value} {h : HS} {k n : Nat} {ix ci j a : Nat} {fin : Bool} {ty : FieldType} {fs : List Value} {v : Value} (d : Dc y pc (.getfield ix) 3 nx) (fl : FL (yN y).cls ix ci j fin ty) (h1 : 1 ≤ a) (h2 : a ≤ h.1) (hc : h.2 a = .inr (ci, fs)) (hv : fs[j]? = some v) (K : xj y G nx ls (v :: st) h k n) : xj y G pc ls (.ref a :: st) h k n := by
  intro E p l e s m args below meth c H locs la C hH hS hl
  obtain ⟨hx, hb, hr, hml, hown, hts, hlk, hK, hbs, hnm, hNo, hex⟩ := id C
  obtain ⟨d, rfl⟩ := d
  obtain ⟨r, hc0, hj, hmem, -, -, -⟩ := fl
  have he := wl_get (E := E) h1 h2
  rw [hc] at he
  have he : (wl E h)[a - 1]? = some (E.1 + a, .inr (ci, fs.map (trv E))) := he
  show W p l e (yR y) s m args below meth c H locs k n (G.2 E s args below) (F0 m pc la (trv E (.ref a) :: st.map (trv E)))
  rw [trv_ref h1]
  exact va_get (D := E.2.2.1) (ci := ci) (v := trv E v) (C := r.1) (T := r.2.1) (N := r.2.2) hx hb hts (cls_ok hc0).1 hown hK hH.1 (a - 1) he hc0 j hj (hts _ hmem) (fun _ h9 => h9) (by simp [hv]) d (K E p l e s m args below meth c H locs la C hH hS hl)
theorem HH_set {E : EV} {h : HS} {a : Nat} {cc0 : MC} {H H1 : Heap} (hH : HH E h H) (h1 : 1 ≤ a) (h2 : a ≤ h.1) (e : va_at E.2.2.1 kcl (E.1 + a, trc E cc0) H1) (z : H1.size = H.size) (oq : ∀ q, q ≠ E.1 + a → H1[q]? = H[q]?) : HH E (hset h a cc0) H1 := by
  refine ⟨?_, by rw [z]; exact hH.2⟩
  rw [← wl_set h1 h2]
  exact hH.1.set (wl_D E h) (wl_get h1 h2) e oq
theorem HH_push {E : EV} {h : HS} {cc0 : MC} {H H1 : Heap} (hH : HH E h H) (e : va_at E.2.2.1 kcl (E.1 + (h.1 + 1), trc E cc0) H1) (z : H1.size = H.size + 1) (oq : ∀ q, q < H.size → H1[q]? = H[q]?) : HH E (hpush h cc0) H1 := by
  refine ⟨?_, ?_⟩
  · rw [← wl_push]
    refine (hH.1.kept fun k x hx => oq x.1 ((hH.1 k x hx).lt)).app fun k x hx => ?_
    have hz : k < 1 := (List.getElem?_eq_some_iff.mp hx).1
    rw [show k = 0 by omega] at hx
    cases hx
    exact e
  · rw [z, hH.2]
    show E.1 + 1 + h.1 + 1 = E.1 + 1 + (h.1 + 1)
    omega
theorem x_putf {y : YI} {G : GT} {pc nx : Nat} {ls : List (Option Value)} {st : List Value} {h : HS} {k n : Nat} {ix ci j a : Nat} {ty : FieldType} {fs : List Value} {v : Value} (d : Dc y pc (.putfield ix) 3 nx) (fl : FL (yN y).cls ix ci j false ty) (h1 : 1 ≤ a) (h2 : a ≤ h.1) (hc : h.2 a = .inr (ci, fs)) (hl0 : j < fs.length) (hn : ∀ E, narrow ty (trv E v) = trv E v) (hfit : ∀ E, fits ty (trv E v) = true) (K : xj y G nx ls st (hset h a (.inr (ci, fs.set j v))) k n) : xj y G pc ls (v :: .ref a :: st) h k n := by
  intro E p l e s m args below meth c H locs la C hH hS hl
  obtain ⟨hx, hb, hr, hml, hown, hts, hlk, hK, hbs, hnm, hNo, hex⟩ := id C
  obtain ⟨d, rfl⟩ := d
  obtain ⟨r, hc0, hj, hmem, hfin, hty, -⟩ := fl
  obtain ⟨okI, okN, okT⟩ := cls_ok hc0
  have he := wl_get (E := E) h1 h2
  rw [hc] at he
  have he : (wl E h)[a - 1]? = some (E.1 + a, .inr (ci, fs.map (trv E))) := he
  show W p l e (yR y) s m args below meth c H locs k n (G.2 E s args below) (F0 m pc la (trv E v :: trv E (.ref a) :: st.map (trv E)))
  rw [trv_ref h1]
  have hap := va_apart (own := (yN y).cls) hts okI (fun k => dty (r.2.1 k).2.2.1) okT okN hK hc0
  obtain ⟨r', hr', cell, q1, q2, q3, q4⟩ := hH.1 (a - 1) _ he
  have hrr : r' = r := Option.some.inj (hr'.symm.trans hc0)
  subst hrr
  obtain ⟨hSl, hfc, kC, hkC, hkind⟩ := hK.1 ci _ hc0
  obtain ⟨cf, kf, fi, f, hi, hsl⟩ := hSl j hj
  have hlay := hts _ (okI _ (u_in_lay hj))
  unfold u_lay at hlay
  rw [if_neg (by rw [hfin]; decide)] at hlay
  have hst := (u_facts hfc hkC (u_lays hts okI hj) hi).1
  have h6 := u_store hfc hkC hkind hlay hi hty (hn E) (hfit E)
  refine W.putK hx hb (f := f) ⟨hown, hts _ hmem, ⟨_, _, _, hi⟩, hst⟩ (by rw [q2]; exact h6) q1 q3 (by rw [hsl]; exact k2_hasslot (q4 j hj)) rfl rfl d fun H' e1 e2 e3 => ?_
  rw [hsl] at e1 ⊢
  refine K E p l e s m args below meth c H' _ la C (HH_set hH h1 h2 ?_ e2 e3) (hS.put e2 e3 (show E.1 < E.1 + a by omega)) hl
  show va_at E.2.2.1 kcl (E.1 + a, .inr (ci, (fs.set j v).map (trv E))) H'
  refine ⟨_, hc0, t_OB.to (V := updV (vp_V (fs.map (trv E))) j (trv E v)) ⟨_, e1, q2, q3, t_set q4 hap hj (trv E v)⟩ (fun j2 _ => ?_)⟩
  rw [List.map_set]
  exact vp_updV_set (by simpa using hl0) (trv E v) j2
theorem x_putF {y : YI} {G : GT} {pc nx : Nat} {ls : List (Option Value)} {st : List Value} {h : HS} {k n : Nat} {ix ci j a : Nat} {ty : FieldType} {fs : List Value} {v : Value} (d : Dc y pc (.putfield ix) 3 nx) (fl : FL (yN y).cls ix ci j true ty) (hin : (yN y).name = "<init>") (hcl : ∀ r, kcl[ci]? = some r → r.1 = (yN y).cls) (h1 : 1 ≤ a) (h2 : a ≤ h.1) (hc : h.2 a = .inr (ci, fs)) (hl0 : j < fs.length) (hn : ∀ E, narrow ty (trv E v) = trv E v) (hfit : ∀ E, fits ty (trv E v) = true) (K : xj y G nx ls st (hset h a (.inr (ci, fs.set j v))) k n) : xj y G pc ls (v :: .ref a :: st) h k n := by
  intro E p l e s m args below meth c H locs la C hH hS hl
  obtain ⟨hx, hb, hr, hml, hown, hts, hlk, hK, hbs, hnm, hNo, hex⟩ := id C
  obtain ⟨d, rfl⟩ := d
  obtain ⟨r, hc0, hj, hmem, hfin, hty, hdecl⟩ := fl
  obtain ⟨okI, okN, okT⟩ := cls_ok hc0
  have he := wl_get (E := E) h1 h2
  rw [hc] at he
  have he : (wl E h)[a - 1]? = some (E.1 + a, .inr (ci, fs.map (trv E))) := he
  show W p l e (yR y) s m args below meth c H locs k n (G.2 E s args below) (F0 m pc la (trv E v :: trv E (.ref a) :: st.map (trv E)))
  rw [trv_ref h1]
  have hap := va_apart (own := (yN y).cls) hts okI (fun k => dty (r.2.1 k).2.2.1) okT okN hK hc0
  obtain ⟨r', hr', cell, q1, q2, q3, q4⟩ := hH.1 (a - 1) _ he
  have hrr : r' = r := Option.some.inj (hr'.symm.trans hc0)
  subst hrr
  obtain ⟨hSl, hfc, kC, hkC, hkind⟩ := hK.1 ci _ hc0
  obtain ⟨cf, kf, fi, f, hi, hsl⟩ := hSl j hj
  have hlay := hts _ (okI _ (u_in_lay hj))
  unfold u_lay at hlay
  rw [if_pos hfin] at hlay
  have hst := (u_facts hfc hkC (u_lays hts okI hj) hi).1
  have hcf : m.cls = cf := by
    obtain ⟨_, _, c', _, _, _, -, -, hf', -, -, -, hown2, -⟩ := Cond.laysFinal_spec hlay
    have e1 : c' = cf := by have := hi.symm.trans hf'; simp at this; exact this.1.symm
    rw [hdecl, hcl _ hc0] at hown2
    rw [← e1]; exact Option.some.inj (hown.symm.trans hown2)
  have h6 := u_fits hfc hkC hkind (Or.inr hlay) hi hty (hn E) (hfit E)
  refine W.putFinK hx hb hown (hts _ hmem) hi hst hcf (by rw [hnm]; exact hin) (by rw [q2]; exact h6) q1 q3 (by rw [hsl]; exact k2_hasslot (q4 j hj)) rfl rfl d fun H' e1 e2 e3 => ?_
  rw [hsl] at e1 ⊢
  refine K E p l e s m args below meth c H' _ la C (HH_set hH h1 h2 ?_ e2 e3) (hS.put e2 e3 (show E.1 < E.1 + a by omega)) hl
  show va_at E.2.2.1 kcl (E.1 + a, .inr (ci, (fs.set j v).map (trv E))) H'
  refine ⟨_, hc0, t_OB.to (V := updV (vp_V (fs.map (trv E))) j (trv E v)) ⟨_, e1, q2, q3, t_set q4 hap hj (trv E v)⟩ (fun j2 _ => ?_)⟩
  rw [List.map_set]
  exact vp_updV_set (by simpa using hl0) (trv E v) j2
/-- arrays -/
theorem x_iald {y : YI} {G : GT} {pc nx : Nat} {ls : List (Option Value)} {st : List Value} {h : HS} {k n : Nat} {a N : Nat} {f : Nat → Int32} {i : Int32} (d : Dc y pc .iaload 1 nx) (h1 : 1 ≤ a) (h2 : a ≤ h.1) (hc : h.2 a = .inl (0, (N, .inl f))) (hi : vp_in i N) (K : xj y G nx ls (.int (f i.toNatClampNeg) :: st) h k n) : xj y G pc ls (.int i :: .ref a :: st) h k n := by
  intro E p l e s m args below meth c H locs la C hH hS hl
  obtain ⟨hx, hb, hr, hml, hown, hts, hlk, hK, hbs, hnm, hNo, hex⟩ := id C
  obtain ⟨d, rfl⟩ := d
  have he := wl_get (E := E) h1 h2
  rw [hc] at he
  have he : (wl E h)[a - 1]? = some (E.1 + a, .inl (E.2.2.2 0, N, .inl f)) := he
  show W p l e (yR y) s m args below meth c H locs k n (G.2 E s args below) (F0 m pc la (.int i :: trv E (.ref a) :: st.map (trv E)))
  rw [trv_ref h1]
  exact va_iald hx hb hK hH.1 (a - 1) 0 he rfl hi d (K E p l e s m args below meth c H locs la C hH hS hl)
theorem x_zald {y : YI} {G : GT} {pc nx : Nat} {ls : List (Option Value)} {st : List Value} {h : HS} {k n : Nat} {a N : Nat} {f : Nat → Int32} {i : Int32} (d : Dc y pc .baload 1 nx) (h1 : 1 ≤ a) (h2 : a ≤ h.1) (hc : h.2 a = .inl (1, (N, .inl f))) (hi : vp_in i N) (K : xj y G nx ls (.int (f i.toNatClampNeg) :: st) h k n) : xj y G pc ls (.int i :: .ref a :: st) h k n := by
  intro E p l e s m args below meth c H locs la C hH hS hl
  obtain ⟨hx, hb, hr, hml, hown, hts, hlk, hK, hbs, hnm, hNo, hex⟩ := id C
  obtain ⟨d, rfl⟩ := d
  have he := wl_get (E := E) h1 h2
  rw [hc] at he
  have he : (wl E h)[a - 1]? = some (E.1 + a, .inl (E.2.2.2 1, N, .inl f)) := he
  show W p l e (yR y) s m args below meth c H locs k n (G.2 E s args below) (F0 m pc la (.int i :: trv E (.ref a) :: st.map (trv E)))
  rw [trv_ref h1]
  exact va_zald hx hb hK hH.1 (a - 1) 1 he rfl hi d (K E p l e s m args below meth c H locs la C hH hS hl)
theorem x_aald {y : YI} {G : GT} {pc nx : Nat} {ls : List (Option Value)} {st : List Value} {h : HS} {k n : Nat} {a N b : Nat} {f : Nat → Option Nat} {i : Int32} (d : Dc y pc .aaload 1 nx) (h1 : 1 ≤ a) (h2 : a ≤ h.1) (hc : h.2 a = .inl (2, (N, .inr (.inr (.inr (.inr f)))))) (hi : vp_in i N) (hf : f i.toNatClampNeg = some b) (hb1 : 1 ≤ b) (K : xj y G nx ls (.ref b :: st) h k n) : xj y G pc ls (.int i :: .ref a :: st) h k n := by
  intro E p l e s m args below meth c H locs la C hH hS hl
  obtain ⟨hx, hb, hr, hml, hown, hts, hlk, hK, hbs, hnm, hNo, hex⟩ := id C
  obtain ⟨d, rfl⟩ := d
  have he := wl_get (E := E) h1 h2
  rw [hc] at he
  have he : (wl E h)[a - 1]? = some (E.1 + a, .inl (E.2.2.2 2, N, .inr (.inr (.inr (.inr (fun j => (f j).map (fun a => E.1 + a))))))) := he
  show W p l e (yR y) s m args below meth c H locs k n (G.2 E s args below) (F0 m pc la (.int i :: trv E (.ref a) :: st.map (trv E)))
  rw [trv_ref h1]
  refine va_aldq (C := "KiteYards$Line") hx hb hK hH.1 (a - 1) 2 he rfl hi d ?_
  have := K E p l e s m args below meth c H locs la C hH hS hl
  simp only [List.map_cons, trv_ref hb1] at this
  rw [hf]
  exact this
theorem x_alen {y : YI} {G : GT} {pc nx : Nat} {ls : List (Option Value)} {st : List Value} {h : HS} {k n : Nat} {a t N : Nat} {z : (Nat → Int32) ⊕ (Nat → Int64) ⊕ (Nat → UInt32) ⊕ (Nat → UInt64) ⊕ (Nat → Option Nat)} (v : Int32) (d : Dc y pc .arraylength 1 nx) (h1 : 1 ≤ a) (h2 : a ≤ h.1) (ht : t < 3) (hc : h.2 a = .inl (t, (N, z))) (hv : Int32.ofNat N = v) (K : xj y G nx ls (.int v :: st) h k n) : xj y G pc ls (.ref a :: st) h k n := by
  intro E p l e s m args below meth c H locs la C hH hS hl
  obtain ⟨hx, hb, hr, hml, hown, hts, hlk, hK, hbs, hnm, hNo, hex⟩ := id C
  obtain ⟨d, rfl⟩ := d
  have he := wl_get (E := E) h1 h2
  rw [hc] at he
  show W p l e (yR y) s m args below meth c H locs k n (G.2 E s args below) (F0 m pc la (trv E (.ref a) :: st.map (trv E)))
  rw [trv_ref h1]
  have ht' : ∃ ty, (tyl E)[t]? = some (E.2.2.2 t, ty) := by
    rcases (show t = 0 ∨ t = 1 ∨ t = 2 by omega) with rfl | rfl | rfl <;> exact ⟨_, rfl⟩
  obtain ⟨ty, ht'⟩ := ht'
  have key : ∀ z2, (wl E h)[a - 1]? = some (E.1 + a, .inl (E.2.2.2 t, (N, z2))) → W p l e (yR y) s m args below meth c H locs k n (G.2 E s args below) (F0 m pc la (.ref (E.1 + a) :: st.map (trv E))) := fun z2 he2 =>
    va_alen hx hb hK hH.1 (a - 1) t he2 ht' hv d (K E p l e s m args below meth c H locs la C hH hS hl)
  obtain z | z | z | z | z := z <;> exact key _ he
theorem x_iast {y : YI} {G : GT} {pc nx : Nat} {ls : List (Option Value)} {st : List Value} {h : HS} {k n : Nat} {a N : Nat} {f : Nat → Int32} {i x : Int32} (d : Dc y pc .iastore 1 nx) (h1 : 1 ≤ a) (h2 : a ≤ h.1) (hc : h.2 a = .inl (0, (N, .inl f))) (hi : vp_in i N) (K : xj y G nx ls st (hset h a (.inl (0, (N, .inl (upd f i.toNatClampNeg x))))) k n) : xj y G pc ls (.int x :: .int i :: .ref a :: st) h k n := by
  intro E p l e s m args below meth c H locs la C hH hS hl
  obtain ⟨hx, hb, hr, hml, hown, hts, hlk, hK, hbs, hnm, hNo, hex⟩ := id C
  obtain ⟨d, rfl⟩ := d
  have he := wl_get (E := E) h1 h2
  rw [hc] at he
  have he : (wl E h)[a - 1]? = some (E.1 + a, .inl (E.2.2.2 0, N, .inl f)) := he
  show W p l e (yR y) s m args below meth c H locs k n (G.2 E s args below) (F0 m pc la (.int x :: .int i :: trv E (.ref a) :: st.map (trv E)))
  rw [trv_ref h1]
  refine W.iast hx hb (hH.1 (a - 1) _ he) ((hK.2 0 _ rfl).1 N (fun j => .int (f j))) (fun q => by cases q) (by show ¬ (i < 0 ∨ (arrV _ _ _).slots.size ≤ _); rw [arrV_size]; exact hi) rfl rfl d fun H1 e0 z oq => ?_
  refine K E p l e s m args below meth c H1 _ la C (HH_set hH h1 h2 ?_ z oq) (hS.put z oq (show E.1 < E.1 + a by omega)) hl
  show H1[E.1 + a]? = some (vp_cell (E.2.2.2 0) (N, .inl (upd f i.toNatClampNeg x)))
  rw [e0]
  rw [vp_cell_i, vp_cell_i, arrV_store]
  congr 2
  funext q
  by_cases hq : q = i.toNatClampNeg
  · subst hq
    simp [updV, upd]
  · simp [updV, upd, hq]
theorem x_zast {y : YI} {G : GT} {pc nx : Nat} {ls : List (Option Value)} {st : List Value} {h : HS} {k n : Nat} {a N : Nat} {f : Nat → Int32} {i x : Int32} (d : Dc y pc .bastore 1 nx) (h1 : 1 ≤ a) (h2 : a ≤ h.1) (hc : h.2 a = .inl (1, (N, .inl f))) (hi : vp_in i N) (hz : narrow .boolean (.int x) = .int x) (K : xj y G nx ls st (hset h a (.inl (1, (N, .inl (upd f i.toNatClampNeg x))))) k n) : xj y G pc ls (.int x :: .int i :: .ref a :: st) h k n := by
  intro E p l e s m args below meth c H locs la C hH hS hl
  obtain ⟨hx, hb, hr, hml, hown, hts, hlk, hK, hbs, hnm, hNo, hex⟩ := id C
  obtain ⟨d, rfl⟩ := d
  have he := wl_get (E := E) h1 h2
  rw [hc] at he
  have he : (wl E h)[a - 1]? = some (E.1 + a, .inl (E.2.2.2 1, N, .inl f)) := he
  show W p l e (yR y) s m args below meth c H locs k n (G.2 E s args below) (F0 m pc la (.int x :: .int i :: trv E (.ref a) :: st.map (trv E)))
  rw [trv_ref h1]
  refine W.zast hx hb (hH.1 (a - 1) _ he) ((hK.2 1 _ rfl).1 N (fun j => .int (f j))) (fun q => by cases q) (by show ¬ (i < 0 ∨ (arrV _ _ _).slots.size ≤ _); rw [arrV_size]; exact hi) rfl rfl d fun H1 e0 z oq => ?_
  refine K E p l e s m args below meth c H1 _ la C (HH_set hH h1 h2 ?_ z oq) (hS.put z oq (show E.1 < E.1 + a by omega)) hl
  show H1[E.1 + a]? = some (vp_cell (E.2.2.2 1) (N, .inl (upd f i.toNatClampNeg x)))
  rw [e0, hz]
  rw [vp_cell_i, vp_cell_i, arrV_store]
  congr 2
  funext q
  by_cases hq : q = i.toNatClampNeg
  · subst hq
    simp [updV, upd]
  · simp [updV, upd, hq]
theorem x_aast {y : YI} {G : GT} {pc nx : Nat} {ls : List (Option Value)} {st : List Value} {h : HS} {k n : Nat} {a N v : Nat} {vs : List Value} {f : Nat → Option Nat} {i : Int32} (d : Dc y pc .aastore 1 nx) (h1 : 1 ≤ a) (h2 : a ≤ h.1) (hc : h.2 a = .inl (2, (N, .inr (.inr (.inr (.inr f)))))) (hi : vp_in i N) (hv1 : 1 ≤ v) (hv2 : v ≤ h.1) (hv : h.2 v = .inr (2, vs)) (K : xj y G nx ls st (hset h a (.inl (2, (N, .inr (.inr (.inr (.inr (va_up f i.toNatClampNeg (some v)))))))) ) k n) : xj y G pc ls (.ref v :: .int i :: .ref a :: st) h k n := by
  intro E p l e s m args below meth c H locs la C hH hS hl
  obtain ⟨hx, hb, hr, hml, hown, hts, hlk, hK, hbs, hnm, hNo, hex⟩ := id C
  obtain ⟨d, rfl⟩ := d
  have he := wl_get (E := E) h1 h2
  rw [hc] at he
  have he : (wl E h)[a - 1]? = some (E.1 + a, .inl (E.2.2.2 2, N, .inr (.inr (.inr (.inr (fun j => (f j).map (fun a => E.1 + a))))))) := he
  have hev := wl_get (E := E) hv1 hv2
  rw [hv] at hev
  have hev : (wl E h)[v - 1]? = some (E.1 + v, .inr (2, vs.map (trv E))) := hev
  show W p l e (yR y) s m args below meth c H locs k n (G.2 E s args below) (F0 m pc la (trv E (.ref v) :: .int i :: trv E (.ref a) :: st.map (trv E)))
  rw [trv_ref h1, trv_ref hv1]
  have hlt : i.toNatClampNeg < N := Nat.not_le.mp fun q => hi (Or.inr q)
  have h0 : ¬ i < 0 := fun q => hi (Or.inl q)
  obtain ⟨r', hr', cellV, g1, g2, g3, -⟩ := hH.1 (v - 1) _ hev
  have hcls := (hK.1 2 _ hr').2
  have hcc : kcl[2]? = some ("KiteYards$Line", TLine, 8) := rfl
  have hrr : r' = ("KiteYards$Line", TLine, 8) := Option.some.inj (hr'.symm.trans hcc)
  subst hrr
  obtain ⟨kA, comp, k1, k2, k3, -⟩ := (hK.2 2 _ rfl).2
  have hcomp : comp = E.2.2.1.1 2 := Option.some.inj (k3.symm.trans hcls.1)
  subst hcomp
  have hass := va_assign hcls
  obtain ⟨kC, hkC, -⟩ := hcls.2
  refine W.aast hx hb (hH.1 (a - 1) _ he) (fun q h => by cases h) (fun h => by cases h) k1 k2 rfl hkC ⟨h0, by show _ < (arrV _ _ _).slots.size; rw [arrV_size]; exact hlt⟩ g1 (fun q h => by rw [g3] at h; cases h) (by rw [g2]; exact hkC) (by rw [g2]; exact hass) rfl rfl d fun H1 e0 z oq => ?_
  refine K E p l e s m args below meth c H1 _ la C (HH_set hH h1 h2 ?_ z oq) (hS.put z oq (show E.1 < E.1 + a by omega)) hl
  show H1[E.1 + a]? = some (vp_cell (E.2.2.2 2) (N, .inr (.inr (.inr (.inr (fun j => (va_up f i.toNatClampNeg (some v) j).map (fun a => E.1 + a)))))))
  rw [e0]
  rw [vp_cell_q, vp_cell_q, arrV_store]
  congr 2
  funext q
  by_cases hq : q = i.toNatClampNeg
  · subst hq
    simp [updV, va_up, va_rf]
  · simp [updV, va_up, hq]
/-- new cells -/
theorem dfl_tr (E : EV) (r : vw_C) : (dfl r).map (trv E) = dfl r := by
  unfold dfl
  rw [List.map_map]
  refine List.map_congr_left fun j _ => ?_
  show trv E (defaultValue _) = defaultValue _
  cases dty (r.2.1 j).2.2.1 <;> rfl
theorem x_new {y : YI} {G : GT} {pc nx : Nat} {ls : List (Option Value)} {st : List Value} {h : HS} {k n : Nat} {ix ci nn k' n' : Nat} {fs : List Value} (d : Dc y pc (.new ix) 3 nx) (nw : NW (yN y).cls ix ci fs nn) (hk : k + 1 = k') (hn : n + nn = n') (hk2 : k' ≤ (yR y).cells) (hn2 : n' ≤ (yR y).slots) (K : xj y G nx ls (.ref (h.1 + 1) :: st) (hpush h (.inr (ci, fs))) k' n') : xj y G pc ls st h k n := by
  intro E p l e s m args below meth c H locs la C hH hS hl
  obtain ⟨hx, hb, hr, hml, hown, hts, hlk, hK, hbs, hnm, hNo, hex⟩ := id C
  obtain ⟨d, rfl⟩ := d
  subst hk; subst hn
  obtain ⟨r, hc0, rfl, rfl, w1, w2, w3⟩ := nw
  obtain ⟨okI, okN, okT⟩ := cls_ok hc0
  have hKn := hK.1 ci _ hc0
  have hsz : H.size = E.1 + (h.1 + 1) := by rw [hH.2]; omega
  refine W.newcK hx hb hown (hts _ w1) (hts _ w2) (hts _ w3) rfl d hk2 hn2 hKn.2.1 rfl fun H1 kC hkC e1 z1 o1 => ?_
  have := K E p l e s m args below meth c H1 locs la C (HH_push (cc0 := .inr (ci, dfl r)) hH ?_ z1 o1) ⟨Nat.le_trans hS.1 (by omega), fun x g1 g2 => (o1 x (Nat.lt_of_lt_of_le g1 hS.1)).trans (hS.2.1 x g1 g2), hS.2.2⟩ hl
  · simp only [List.map_cons, trv_ref (show 1 ≤ h.1 + 1 by omega)] at this
    rw [hsz]
    exact this
  · show va_at E.2.2.1 kcl (E.1 + (h.1 + 1), .inr (ci, (dfl r).map (trv E))) H1
    rw [dfl_tr, ← hsz]
    exact ⟨_, hc0, (u_born (fun k => dty (r.2.1 k).2.2.1) hts okI hKn hkC e1 okT).to fun j hj => by
      unfold vp_V dfl
      rw [List.getD_eq_getElem?_getD, List.getElem?_map, List.getElem?_range hj]
      rfl⟩
theorem x_newI {y : YI} {G : GT} {pc nx : Nat} {ls : List (Option Value)} {st : List Value} {h : HS} {k n : Nat} {k' n' N : Nat} {i : Int32} (d : Dc y pc (.newarray .int) 2 nx) (hw : Cond.arrayClass .int ∈ WT) (h0 : ¬ i < 0) (hN : i.toNatClampNeg = N) (hbytes : N * 4 ≤ 536870912) (hk : k + 1 = k') (hn : n + N = n') (hk2 : k' ≤ (yR y).cells) (hn2 : n' ≤ (yR y).slots) (K : xj y G nx ls (.ref (h.1 + 1) :: st) (hpush h (.inl (0, (N, .inl (fun _ => 0))))) k' n') : xj y G pc ls (.int i :: st) h k n := by
  intro E p l e s m args below meth c H locs la C hH hS hl
  obtain ⟨hx, hb, hr, hml, hown, hts, hlk, hK, hbs, hnm, hNo, hex⟩ := id C
  obtain ⟨d, rfl⟩ := d
  subst hk; subst hn
  have hsz : H.size = E.1 + (h.1 + 1) := by rw [hH.2]; omega
  refine va_newaK (atype := .int) hx hb (hts _ hw) rfl d rfl h0 hN hbytes hk2 hn2 rfl fun H1 cA e1 z1 o1 hAr hNm => ?_
  have hcA : cA = E.2.2.2 0 := Option.some.inj (hNm.symm.trans (hK.2 0 _ rfl).2)
  subst hcA
  have := K E p l e s m args below meth c H1 locs la C (HH_push (cc0 := .inl (0, (N, .inl (fun _ => 0)))) hH ?_ z1 o1) ⟨Nat.le_trans hS.1 (by omega), fun x g1 g2 => (o1 x (Nat.lt_of_lt_of_le g1 hS.1)).trans (hS.2.1 x g1 g2), hS.2.2⟩ hl
  · simp only [List.map_cons, trv_ref (show 1 ≤ h.1 + 1 by omega)] at this
    rw [hsz]
    exact this
  · show H1[E.1 + (h.1 + 1)]? = some (vp_cell (E.2.2.2 0) (N, .inl (fun _ => 0)))
    rw [← hsz, vp_cell_i]
    exact e1
theorem x_newZ {y : YI} {G : GT} {pc nx : Nat} {ls : List (Option Value)} {st : List Value} {h : HS} {k n : Nat} {k' n' N : Nat} {i : Int32} (d : Dc y pc (.newarray .boolean) 2 nx) (hw : Cond.arrayClass .boolean ∈ WT) (h0 : ¬ i < 0) (hN : i.toNatClampNeg = N) (hbytes : N * 1 ≤ 536870912) (hk : k + 1 = k') (hn : n + N = n') (hk2 : k' ≤ (yR y).cells) (hn2 : n' ≤ (yR y).slots) (K : xj y G nx ls (.ref (h.1 + 1) :: st) (hpush h (.inl (1, (N, .inl (fun _ => 0))))) k' n') : xj y G pc ls (.int i :: st) h k n := by
  intro E p l e s m args below meth c H locs la C hH hS hl
  obtain ⟨hx, hb, hr, hml, hown, hts, hlk, hK, hbs, hnm, hNo, hex⟩ := id C
  obtain ⟨d, rfl⟩ := d
  subst hk; subst hn
  have hsz : H.size = E.1 + (h.1 + 1) := by rw [hH.2]; omega
  refine va_newaK (atype := .boolean) hx hb (hts _ hw) rfl d rfl h0 hN hbytes hk2 hn2 rfl fun H1 cA e1 z1 o1 hAr hNm => ?_
  have hcA : cA = E.2.2.2 1 := Option.some.inj (hNm.symm.trans (hK.2 1 _ rfl).2)
  subst hcA
  have := K E p l e s m args below meth c H1 locs la C (HH_push (cc0 := .inl (1, (N, .inl (fun _ => 0)))) hH ?_ z1 o1) ⟨Nat.le_trans hS.1 (by omega), fun x g1 g2 => (o1 x (Nat.lt_of_lt_of_le g1 hS.1)).trans (hS.2.1 x g1 g2), hS.2.2⟩ hl
  · simp only [List.map_cons, trv_ref (show 1 ≤ h.1 + 1 by omega)] at this
    rw [hsz]
    exact this
  · show H1[E.1 + (h.1 + 1)]? = some (vp_cell (E.2.2.2 1) (N, .inl (fun _ => 0)))
    rw [← hsz, vp_cell_i]
    exact e1
theorem x_newL {y : YI} {G : GT} {pc nx : Nat} {ls : List (Option Value)} {st : List Value} {h : HS} {k n : Nat} {k' n' N ix : Nat} {i : Int32} (d : Dc y pc (.anewarray ix) 3 nx) (hw : Cond.classLink (yN y).cls ix "KiteYards$Line" ∈ WT) (h0 : ¬ i < 0) (hN : i.toNatClampNeg = N) (hbytes : N * 4 ≤ 536870912) (hk : k + 1 = k') (hn : n + N = n') (hk2 : k' ≤ (yR y).cells) (hn2 : n' ≤ (yR y).slots) (K : xj y G nx ls (.ref (h.1 + 1) :: st) (hpush h (.inl (2, (N, .inr (.inr (.inr (.inr (fun _ => none)))))))) k' n') : xj y G pc ls (.int i :: st) h k n := by
  intro E p l e s m args below meth c H locs la C hH hS hl
  obtain ⟨hx, hb, hr, hml, hown, hts, hlk, hK, hbs, hnm, hNo, hex⟩ := id C
  obtain ⟨d, rfl⟩ := d
  subst hk; subst hn; subst hN
  have hsz : H.size = E.1 + (h.1 + 1) := by rw [hH.2]; omega
  refine W.anew hx hb hown (hts _ hw) (va_AO.use hNo.2) rfl d rfl h0 hbytes hk2 hn2 fun cA kA comp f1 f2 f3 f4 => ?_
  obtain ⟨kA2, comp2, -, -, -, f5⟩ := (hK.2 2 _ rfl).2
  have hcA : cA = E.2.2.2 2 := Option.some.inj (f1.symm.trans f5)
  subst hcA
  have := K E p l e s m args below meth c _ locs la C (HH_push (cc0 := .inl (2, (i.toNatClampNeg, .inr (.inr (.inr (.inr (fun _ => none))))))) hH (H1 := H.push ({ cls := E.2.2.2 2, slots := Array.replicate i.toNatClampNeg .null, vm := .none } : Cell)) ?_ (by rw [Array.size_push]) (fun q hq => by rw [Array.getElem?_push, if_neg (Nat.ne_of_lt hq)])) ⟨Nat.le_trans hS.1 (by rw [Array.size_push]; omega), fun x g1 g2 => (by rw [Array.getElem?_push, if_neg (Nat.ne_of_lt (Nat.lt_of_lt_of_le g1 hS.1))]; exact hS.2.1 x g1 g2), hS.2.2⟩ hl
  · simp only [List.map_cons, trv_ref (show 1 ≤ h.1 + 1 by omega)] at this
    rw [hsz]
    exact this
  · show (H.push _)[E.1 + (h.1 + 1)]? = some (vp_cell (E.2.2.2 2) (i.toNatClampNeg, .inr (.inr (.inr (.inr (fun _ => none))))))
    rw [← hsz, vp_cell_q, Array.getElem?_push_size, ← arrV_new]
    rfl
/-- returns -/
theorem x_ireturn {y : YI} {pc nx : Nat} {ls : List (Option Value)} {h : HS} {k n : Nat} {Po : Option Value → HS → Prop} {v : Int32} {ty : FieldType} (d : Dc y pc .ireturn 1 nx) (ht : yT y = some ty) (hn : narrow ty (.int v) = .int v) (hk : k ≤ (yR y).cells) (hk2 : n ≤ (yR y).slots) (hp : Po (some (.int v)) h) : xj y (mG y Po) pc ls [.int v] h k n := by
  intro E p l e s m args below meth c H locs la C hH hS hl
  obtain ⟨hx, hb, hr, hml, hown, hts, hlk, hK, hbs, hnm, hNo, hex⟩ := id C
  refine W.widen hk hk2 ?_
  exact W.zret (ty := ty) hx hb (hr.trans ht) hn (fun t ht' hW => ⟨⟨some (.int v), h, rfl, hp, by rw [ht']; exact hH, va_K.moved hW.alike hK⟩, hS.F ht'⟩) hS.2.2 d.1
theorem x_lreturn {y : YI} {pc nx : Nat} {ls : List (Option Value)} {h : HS} {k n : Nat} {Po : Option Value → HS → Prop} {v : Int64} (d : Dc y pc .lreturn 1 nx) (ht : yT y = some .long) (hk : k ≤ (yR y).cells) (hk2 : n ≤ (yR y).slots) (hp : Po (some (.long v)) h) : xj y (mG y Po) pc ls [.long v] h k n := by
  intro E p l e s m args below meth c H locs la C hH hS hl
  obtain ⟨hx, hb, hr, hml, hown, hts, hlk, hK, hbs, hnm, hNo, hex⟩ := id C
  refine W.widen hk hk2 ?_
  exact W.lret hx hb (hr.trans ht) (fun t ht' hW => ⟨⟨some (.long v), h, rfl, hp, by rw [ht']; exact hH, va_K.moved hW.alike hK⟩, hS.F ht'⟩) hS.2.2 d.1
theorem x_return {y : YI} {pc nx : Nat} {ls : List (Option Value)} {h : HS} {k n : Nat} {Po : Option Value → HS → Prop} (d : Dc y pc .return_ 1 nx) (ht : yT y = none) (hk : k ≤ (yR y).cells) (hk2 : n ≤ (yR y).slots) (hp : Po none h) : xj y (mG y Po) pc ls [] h k n := by
  intro E p l e s m args below meth c H locs la C hH hS hl
  obtain ⟨hx, hb, hr, hml, hown, hts, hlk, hK, hbs, hnm, hNo, hex⟩ := id C
  refine W.widen hk hk2 ?_
  exact W.vret hx hb (hr.trans ht) (fun t ht' hW => ⟨⟨none, h, rfl, hp, by rw [ht']; exact hH, va_K.moved hW.alike hK⟩, hS.F ht'⟩) hS.2.2 d.1
theorem x_areturn {y : YI} {pc nx : Nat} {ls : List (Option Value)} {h : HS} {k n : Nat} {Po : Option Value → HS → Prop} {v : Value} {rt : FieldType} (d : Dc y pc .areturn 1 nx) (ht : yT y = some rt) (hrt : (∃ n, rt = .object n) ∨ ∃ t, rt = .array t) (hv : v = .null ∨ ∃ a, v = .ref a) (hk : k ≤ (yR y).cells) (hk2 : n ≤ (yR y).slots) (hp : Po (some v) h) : xj y (mG y Po) pc ls [v] h k n := by
  intro E p l e s m args below meth c H locs la C hH hS hl
  obtain ⟨hx, hb, hr, hml, hown, hts, hlk, hK, hbs, hnm, hNo, hex⟩ := id C
  refine W.widen hk hk2 ?_
  refine W.aret (v := trv E v) hx hb (hr.trans ht) hrt ?_ (fun t ht' hW => ⟨⟨some v, h, rfl, hp, by rw [ht']; exact hH, va_K.moved hW.alike hK⟩, hS.F ht'⟩) hS.2.2 d.1
  rcases hv with rfl | ⟨a, rfl⟩
  · exact Or.inl rfl
  · exact Or.inr ⟨_, rfl⟩
def R_law : String := "KiteYardsLaw"
def lw_P (b : Addr) (xs : List Int32) (args : Array Value) (s : State) : Prop := args = #[.ref b] ∧ s.IntsAt b xs ∧ xs.length ≤ 3072 ∧ (Jvm.Cond.and given_1 narrow_1).before args s = true
def lw_Q (_ : Array Value) (s : State) (o : Outcome) (t : State) : Prop := o = .returned (some (.int 1)) ∧ Framed s o t [] 600000 7302250
def lw_Z (below : List Frame) (a : Array Value) (s : State) : State → Prop := fun t => ∃ o, t.status = .running ∧ Ended t below o ∧ lw_Q a s o t
/-- Object's constructor -/
theorem x_objInit {y : YI} {G : GT} {pc nx : Nat} {ls : List (Option Value)} {st : List Value} {h : HS} {k n : Nat} {ix a : Nat} (d : Dc y pc (.invokespecial ix) 3 nx) (hw : Cond.methodLink (yN y).cls ix Lib.objectInit ∈ WT) (hf : 1 ≤ (yR y).frames) (hlo : (st.map fun v => v.category).sum + 12 ≤ (yR y).locals) (K : xj y G nx ls st h k n) : xj y G pc ls (.ref a :: st) h k n := by
  intro E p l e s m args below meth c H locs la C hH hS hl
  obtain ⟨hx, hb, hr, hml, hown, hts, hlk, hK, hbs, hnm, hNo, hex⟩ := id C
  obtain ⟨d, rfl⟩ := d
  refine W.objInit (a := if a = 0 then E.2.1 else E.1 + a) hx hb hown (hts _ hw) (hts _ obj_inst) (hts _ obj_code) rfl (hl.1.trans hml.symm) rfl d hf ?_ (K E p l e s m args below meth c H locs la C hH hS hl)
  rw [trv_cats]
  have : 2 * (F0 m pc la (st.map (trv E))).monitorRoom = 0 := rfl
  show 2 * (F0 m pc la _).monitorRoom + _ + 12 ≤ _
  have e0 : (F0 m pc la (List.map (trv E) (Value.ref a :: st))).monitorRoom = 0 := rfl
  rw [e0]
  omega
/-- behind a call: the callee's end is the caller's next state -/
theorem x_after {y : YI} {G : GT} {pc : Nat} {ls : List (Option Value)} {st stf : List Value} {k n mc ms : Nat} {E : EV} {p : Program} {l : Launch} {e : Env} {s : State} {m : MethodId} {args : Array Value} {below : List Frame} {meth : Method} {c : Code} {H : Heap} {locs : List Loc} {la : Array Slot} {a : Array Value} {rest : List Value}
    (C : Cx y E G.1 p s m args meth c) (hS : va_S (fun q => E.1 < q) s.heap H locs) (hl : lv_has la (yL y) (lvl E 0 ls)) (hrest : rest = st.map (trv E))
    (run : va_Run p l e (yR y) s m args below meth c H locs k n mc ms (F0 m pc la stf) rest (QQ E (fun r h' => xj y G (pc + 3) ls (pushR r st) h' (k + mc) (n + ms)) a) (fun q => E.1 < q)) :
    W p l e (yR y) s m args below meth c H locs k n (G.2 E s args below) (F0 m pc la stf) := by
  intro T hT XX
  obtain ⟨v, st₀, t, T', L, h0, X', hL, e1, e2, ⟨⟨r, h', hv, hp, hHH, hK'⟩, hz, hkk⟩, stp⟩ := run T hT XX
  rw [h0] at hz hkk
  have hv : v = r.map (trv E) := by injection hv
  subst hv
  obtain ⟨t2, a1, b1⟩ := hp E p l e s m args below meth c T'.heap (locs ++ L) la C (by rw [e1]; exact hHH)
    ⟨Nat.le_trans hS.1 (by rw [e1]; exact hz), fun q h1 h2 => by rw [e1, hkk q (Nat.lt_of_lt_of_le h1 hS.1) h2]; exact hS.2.1 q h1 h2, fun q hq => by
      rcases List.mem_append.mp hq with h | h
      · exact hS.2.2 q h
      · exact hL q h⟩ hl T' rfl X'
  refine ⟨t2, stp t2 ?_, b1⟩
  rw [pushR_eq] at a1
  rw [hrest]
  exact a1
theorem blind_pc {E : EV} {av : List Value} {h : HS} : FrameBlind (va_Pc (av.map (trv E)) (fun U => HH E h U.heap ∧ va_K E.2.2.1 kcl (tyl E) U ∧ NOk U)) := fun a U g mk q => by
  obtain ⟨q0, q1, q2, q3⟩ := q
  exact ⟨q0, q1, va_K.moved (u := U) (U := U.calling g mk a) (Vm.Alike.refl U.vm) q2, NOk.same rfl q3⟩
theorem room_of {E : EV} {m : MethodId} {pc : Nat} {la : Array Slot} {stf : List Value} {st : List Value} (h : (st.map fun v => v.category).sum ≤ 8) : 2 * (F0 m pc la stf).monitorRoom + ((st.map (trv E)).map fun v => v.category).sum ≤ 8 := lv_room (by rw [trv_cats]; exact h)
theorem x_callV {y y' : YI} {G : GT} {pc nx : Nat} {ls ls0 : List (Option Value)} {st : List Value} {h : HS} {k n k' n' : Nat} {ix np ci b : Nat} {fs : List Value} {As : List Value} (d : Dc y pc (.invokevirtual ix) 3 nx) (cf : CV (yN y).cls ix y') (ok : YOK y' np) (rm : rmOk y y') (hAs : As.length = np) (hlen : (entl (.ref b :: As)).length ≤ yL y') (he : ent0 y' (.ref b :: As) = ls0) (hst : (st.map fun v => v.category).sum ≤ 8) (b1 : 1 ≤ b) (b2 : b ≤ h.1) (hc : h.2 b = .inr (ci, fs)) (hcc : ∃ r, kcl[ci]? = some r ∧ r.1 = (yN y').cls)
    (hk : k + (yR y').cells = k') (hn : n + (yR y').slots = n') (hk2 : k' ≤ (yR y).cells) (hn2 : n' ≤ (yR y).slots)
    (K : xj y' (mG y' (fun r h' => xj y G nx ls (pushR r st) h' k' n')) 0 ls0 [] h 0 0) : xj y G pc ls (As.reverse ++ .ref b :: st) h k n := by
  intro E p l e s m args below meth c H locs la C hH hS hl
  obtain ⟨hx, hb, hr, hml, hown, hts, hlk, hK, hbs, hnm, hNo, hex⟩ := id C
  obtain ⟨d, rfl⟩ := d
  subst hk; subst hn
  obtain ⟨r, hc0, hrc⟩ := hcc
  have hM := met_of_X E l ok he hlen K
  refine x_after C hS hl (st := st) (rest := st.map (trv E)) rfl (va_runV (b := E.1 + b) (As := As.map (trv E)) (rest := st.map (trv E)) (n := np) (C := (yN y').cls) (bytes := yB y') (maxL := yL y') (ret := yT y') ⟨hx, hb, hml, hown, hts⟩ hM ?_ ?_ rfl (by rw [List.length_map]; exact hAs) hl.1 ?_ (room_of hst) d ⟨hk2, hn2⟩)
  · refine ⟨⟨rfl, rfl, rm.1, rm.2, pay_in hts (goodT ?_), List.mem_cons_self, hts _ ok.2.1, hts _ ok.2.2.2.2, ok.2.2.1, ?_, hts _ cf.1⟩, hts _ cf.2.1, hts _ cf.2.2⟩
    · intro w hw
      rcases List.mem_cons.mp hw with rfl | hw
      · exact ok.2.1
      · exact hw
    · intro sig h2
      have h3 := ok.2.2.2.1
      rw [h2] at h3
      exact (Option.some.inj h3).symm
  · refine ⟨?_, ?_, fun U hU hW => ⟨by rw [List.map_cons, trv_ref b1], by rw [hU]; exact hH, va_K.moved hW.alike hK, NOk.warm hW hNo⟩⟩
    · exact blind_pc
    · have he2 := wl_get (E := E) b1 b2
      rw [hc] at he2
      have := va_recv (q := r) hK hH.1 hc0 he2
      rw [hrc] at this
      exact this
  · show (As.reverse ++ .ref b :: st).map (trv E) = _
    rw [List.map_append, List.map_reverse, List.map_cons, trv_ref b1]
theorem x_callS {y y' : YI} {G : GT} {pc nx : Nat} {ls ls0 : List (Option Value)} {st : List Value} {h : HS} {k n k' n' : Nat} {ix np : Nat} {As : List Value} (d : Dc y pc (.invokestatic ix) 3 nx) (cf : CS (yN y).cls ix y') (ok : YOK y' np) (rm : rmOk y y') (hAs : As.length = np) (hlen : (entl As).length ≤ yL y') (he : ent0 y' As = ls0) (hst : (st.map fun v => v.category).sum ≤ 8)
    (hk : k + (yR y').cells = k') (hn : n + (yR y').slots = n') (hk2 : k' ≤ (yR y).cells) (hn2 : n' ≤ (yR y).slots)
    (K : xj y' (mG y' (fun r h' => xj y G nx ls (pushR r st) h' k' n')) 0 ls0 [] h 0 0) : xj y G pc ls (As.reverse ++ st) h k n := by
  intro E p l e s m args below meth c H locs la C hH hS hl
  obtain ⟨hx, hb, hr, hml, hown, hts, hlk, hK, hbs, hnm, hNo, hex⟩ := id C
  obtain ⟨d, rfl⟩ := d
  subst hk; subst hn
  have hM := met_of_X E l ok he hlen K
  refine x_after C hS hl (st := st) (rest := st.map (trv E)) rfl (va_runS (bytes := yB y') (maxL := yL y') (ret := yT y') (As := As.map (trv E)) (rest := st.map (trv E)) (n := np) ⟨hx, hb, hml, hown, hts⟩ hM ?_ ?_ rfl (by rw [List.length_map]; exact hAs) hl.1 ?_ (room_of hst) d ⟨hk2, hn2⟩)
  · refine ⟨⟨rfl, rfl, rm.1, rm.2, pay_in hts (goodT ?_), List.mem_cons_self, hts _ ok.2.1, hts _ ok.2.2.2.2, ok.2.2.1, ?_, hts _ cf.1⟩, hts _ cf.2⟩
    · intro w hw
      rcases List.mem_cons.mp hw with rfl | hw
      · exact ok.2.1
      · exact hw
    · intro sig h2
      have h3 := ok.2.2.2.1
      rw [h2] at h3
      exact (Option.some.inj h3).symm
  · exact ⟨blind_pc, fun U hU hW => ⟨rfl, by rw [hU]; exact hH, va_K.moved hW.alike hK, NOk.warm hW hNo⟩⟩
  · show (As.reverse ++ st).map (trv E) = _
    rw [List.map_append, List.map_reverse]
theorem x_callSN {y y' : YI} {G : GT} {pc nx : Nat} {ls ls0 : List (Option Value)} {st : List Value} {h : HS} {k n k' n' : Nat} {ix np : Nat} {As : List Value} (d : Dc y pc (.invokestatic ix) 3 nx) (cf : CSN (yN y).cls ix y') (ok : YOK y' np) (rm : rmOk y y') (hAs : As.length = np) (hlen : (entl As).length ≤ yL y') (he : ent0 y' As = ls0) (hst : (st.map fun v => v.category).sum ≤ 8)
    (hk : k + (yR y').cells = k') (hn : n + (yR y').slots = n') (hk2 : k' ≤ (yR y).cells) (hn2 : n' ≤ (yR y).slots)
    (K : xj y' (mG y' (fun r h' => xj y G nx ls (pushR r st) h' k' n')) 0 ls0 [] h 0 0) : xj y G pc ls (As.reverse ++ st) h k n := by
  intro E p l e s m args below meth c H locs la C hH hS hl
  obtain ⟨hx, hb, hr, hml, hown, hts, hlk, hK, hbs, hnm, hNo, hex⟩ := id C
  obtain ⟨d, rfl⟩ := d
  subst hk; subst hn
  obtain ⟨host, cf1, cf2⟩ := cf
  have hM := met_of_X E l ok he hlen K
  refine x_after C hS hl (st := st) (rest := st.map (trv E)) rfl (va_runSN (host := host) (bytes := yB y') (maxL := yL y') (ret := yT y') (As := As.map (trv E)) (rest := st.map (trv E)) (n := np) ⟨hx, hb, hml, hown, hts⟩ hM ?_ ?_ rfl (by rw [List.length_map]; exact hAs) hl.1 ?_ (room_of hst) d ⟨hk2, hn2⟩)
  · refine ⟨⟨⟨rfl, rfl, rm.1, rm.2, pay_in hts (goodT ?_), List.mem_cons_self⟩, hts _ ok.2.1, hts _ ok.2.2.2.2, ok.2.2.1, ?_, va_Nw.use rfl (hNo.1 _ _ _ _ cf1)⟩, hts _ cf2, trivial⟩
    · intro w hw
      rcases List.mem_cons.mp hw with rfl | hw
      · exact ok.2.1
      · exact hw
    · intro sig h2
      have h3 := ok.2.2.2.1
      rw [h2] at h3
      exact (Option.some.inj h3).symm
  · exact ⟨blind_pc, fun U hU hW => ⟨rfl, by rw [hU]; exact hH, va_K.moved hW.alike hK, NOk.warm hW hNo⟩⟩
  · show (As.reverse ++ st).map (trv E) = _
    rw [List.map_append, List.map_reverse]
theorem x_callIN {y y' : YI} {G : GT} {pc nx : Nat} {ls ls0 : List (Option Value)} {st : List Value} {h : HS} {k n k' n' : Nat} {ix np b : Nat} {As : List Value} (d : Dc y pc (.invokespecial ix) 3 nx) (cf : CIN (yN y).cls ix y') (ok : YOK y' np) (hT : yT y' = none) (rm : rmOk y y') (hAs : As.length = np) (hlen : (entl (.ref b :: As)).length ≤ yL y') (he : ent0 y' (.ref b :: As) = ls0) (hst : (st.map fun v => v.category).sum ≤ 8) (b1 : 1 ≤ b)
    (hk : k + (yR y').cells = k') (hn : n + (yR y').slots = n') (hk2 : k' ≤ (yR y).cells) (hn2 : n' ≤ (yR y).slots)
    (K : xj y' (mG y' (fun r h' => xj y G nx ls (pushR r st) h' k' n')) 0 ls0 [] h 0 0) : xj y G pc ls (As.reverse ++ .ref b :: st) h k n := by
  intro E p l e s m args below meth c H locs la C hH hS hl
  obtain ⟨hx, hb, hr, hml, hown, hts, hlk, hK, hbs, hnm, hNo, hex⟩ := id C
  obtain ⟨d, rfl⟩ := d
  subst hk; subst hn
  obtain ⟨host, cf1, cf2, cf3⟩ := cf
  have hM := met_of_X E l ok he hlen K
  have okc := ok.2.1
  rw [hT] at okc
  have hin : Cond.code (yN y') (yB y') (yL y') none ∈ wsy y' := by unfold wsy; rw [hT]; exact List.mem_cons_self
  refine x_after C hS hl (st := st) (rest := st.map (trv E)) rfl (va_runIN (host := host) (b := E.1 + b) (As := As.map (trv E)) (rest := st.map (trv E)) (n := np) (bytes := yB y') (maxL := yL y') ⟨hx, hb, hml, hown, hts⟩ hM ?_ ?_ rfl (by rw [List.length_map]; exact hAs) hl.1 ?_ (room_of hst) d ⟨hk2, hn2⟩)
  · refine ⟨⟨⟨rfl, rfl, rm.1, rm.2, pay_in hts (goodT ?_), hin⟩, hts _ okc, hts _ ok.2.2.2.2, ok.2.2.1, ?_, va_Nw.use rfl (hNo.1 _ _ _ _ cf1)⟩, cf3, hts _ cf2⟩
    · intro w hw
      rcases List.mem_cons.mp hw with rfl | hw
      · exact ok.2.1
      · exact hw
    · intro sig h2
      have h3 := ok.2.2.2.1
      rw [h2] at h3
      exact (Option.some.inj h3).symm
  · exact ⟨blind_pc, fun U hU hW => ⟨by rw [List.map_cons, trv_ref b1], by rw [hU]; exact hH, va_K.moved hW.alike hK, NOk.warm hW hNo⟩⟩
  · show (As.reverse ++ .ref b :: st).map (trv E) = _
    rw [List.map_append, List.map_reverse, List.map_cons, trv_ref b1]
theorem x_callI {y y' : YI} {G : GT} {pc nx : Nat} {ls ls0 : List (Option Value)} {st : List Value} {h : HS} {k n k' n' : Nat} {ix np b : Nat} {As : List Value} (d : Dc y pc (.invokespecial ix) 3 nx) (cf : CI (yN y).cls ix y') (ok : YOK y' np) (hT : yT y' = none) (rm : rmOk y y') (hAs : As.length = np) (hlen : (entl (.ref b :: As)).length ≤ yL y') (he : ent0 y' (.ref b :: As) = ls0) (hst : (st.map fun v => v.category).sum ≤ 8) (b1 : 1 ≤ b)
    (hk : k + (yR y').cells = k') (hn : n + (yR y').slots = n') (hk2 : k' ≤ (yR y).cells) (hn2 : n' ≤ (yR y).slots)
    (K : xj y' (mG y' (fun r h' => xj y G nx ls (pushR r st) h' k' n')) 0 ls0 [] h 0 0) : xj y G pc ls (As.reverse ++ .ref b :: st) h k n := by
  intro E p l e s m args below meth c H locs la C hH hS hl
  obtain ⟨hx, hb, hr, hml, hown, hts, hlk, hK, hbs, hnm, hNo, hex⟩ := id C
  obtain ⟨d, rfl⟩ := d
  subst hk; subst hn
  obtain ⟨cf1, cf2, cf3⟩ := cf
  have hM := met_of_X E l ok he hlen K
  have okc := ok.2.1
  rw [hT] at okc
  have hin : Cond.code (yN y') (yB y') (yL y') none ∈ wsy y' := by unfold wsy; rw [hT]; exact List.mem_cons_self
  refine x_after C hS hl (st := st) (rest := st.map (trv E)) rfl (va_runI (b := E.1 + b) (As := As.map (trv E)) (rest := st.map (trv E)) (n := np) (bytes := yB y') (maxL := yL y') ⟨hx, hb, hml, hown, hts⟩ hM ?_ ?_ rfl (by rw [List.length_map]; exact hAs) hl.1 ?_ (room_of hst) d ⟨hk2, hn2⟩)
  · refine ⟨⟨rfl, rfl, rm.1, rm.2, pay_in hts (goodT ?_), hin, hts _ okc, hts _ ok.2.2.2.2, ok.2.2.1, ?_, hts _ cf1⟩, cf3, hts _ cf2⟩
    · intro w hw
      rcases List.mem_cons.mp hw with rfl | hw
      · exact ok.2.1
      · exact hw
    · intro sig h2
      have h3 := ok.2.2.2.1
      rw [h2] at h3
      exact (Option.some.inj h3).symm
  · exact ⟨blind_pc, fun U hU hW => ⟨by rw [List.map_cons, trv_ref b1], by rw [hU]; exact hH, va_K.moved hW.alike hK, NOk.warm hW hNo⟩⟩
  · show (As.reverse ++ .ref b :: st).map (trv E) = _
    rw [List.map_append, List.map_reverse, List.map_cons, trv_ref b1]
/-- the law's script -/
def GL (L : Nat) (xs : Nat → Int32) : GT := (fun E s args => args = #[.ref E.2.1] ∧ va_X E.2.1 L xs s s.heap ∧ E.2.1 < s.heap.size ∧ E.2.1 ≤ E.1, fun E s args below => lw_Z below args s)
theorem x_slen {y : YI} {pc nx : Nat} {ls : List (Option Value)} {st : List Value} {h : HS} {k n : Nat} {L : Nat} {xs : Nat → Int32} (d : Dc y pc .arraylength 1 nx) (K : xj y (GL L xs) nx ls (.int (Int32.ofNat L) :: st) h k n) : xj y (GL L xs) pc ls (.ref 0 :: st) h k n := by
  intro E p l e s m args below meth c H locs la C hH hS hl
  obtain ⟨hx, hb, hr, hml, hown, hts, hlk, hK, hbs, hnm, hNo, hex⟩ := id C
  obtain ⟨d, rfl⟩ := d
  obtain ⟨e1, e2, e3, e4⟩ := hex
  exact va_slen hx hb e2 e3 (Nat.not_lt.mpr e4) hS d (K E p l e s m args below meth c H locs la C hH hS hl)
theorem x_sld {y : YI} {pc nx : Nat} {ls : List (Option Value)} {st : List Value} {h : HS} {k n : Nat} {L : Nat} {xs : Nat → Int32} {i : Int32} (d : Dc y pc .iaload 1 nx) (hi : vp_in i L) (K : xj y (GL L xs) nx ls (.int (xs i.toNatClampNeg) :: st) h k n) : xj y (GL L xs) pc ls (.int i :: .ref 0 :: st) h k n := by
  intro E p l e s m args below meth c H locs la C hH hS hl
  obtain ⟨hx, hb, hr, hml, hown, hts, hlk, hK, hbs, hnm, hNo, hex⟩ := id C
  obtain ⟨d, rfl⟩ := d
  obtain ⟨e1, e2, e3, e4⟩ := hex
  exact va_sld hx hb e2 e3 (Nat.not_lt.mpr e4) hS hi d (K E p l e s m args below meth c H locs la C hH hS hl)
end
section
def yK_init : YI := (⟨"KiteYards", "<init>", "()V"⟩, (prog_1_method_1_code, (1, ((none), ({ frames := 4, cells := 136, slots := 797, locals := 82 } : Room)))))
theorem okK_init : YOK yK_init 0 := ⟨by decide +kernel, mT (i := 17) (by decide +kernel) rfl, ⟨by decide +kernel, by decide +kernel⟩, by decide +kernel, mT (i := 1) (by decide +kernel) rfl⟩
def yText_init : YI := (⟨"KiteYards$Text", "<init>", "()V"⟩, (prog_8_method_1_code, (1, ((none), ({ frames := 1, cells := 1, slots := 32, locals := 20 } : Room)))))
theorem okText_init : YOK yText_init 0 := ⟨by decide +kernel, mT (i := 25) (by decide +kernel) rfl, ⟨by decide +kernel, by decide +kernel⟩, by decide +kernel, mT (i := 2) (by decide +kernel) rfl⟩
def yLine_init : YI := (⟨"KiteYards$Line", "<init>", "()V"⟩, (prog_4_method_1_code, (1, ((none), ({ frames := 1, cells := 3, slots := 15, locals := 20 } : Room)))))
theorem okLine_init : YOK yLine_init 0 := ⟨by decide +kernel, mT (i := 40) (by decide +kernel) rfl, ⟨by decide +kernel, by decide +kernel⟩, by decide +kernel, mT (i := 3) (by decide +kernel) rfl⟩
def yPast_init : YI := (⟨"KiteYards$Past", "<init>", "()V"⟩, (prog_5_method_1_code, (1, ((none), ({ frames := 3, cells := 57, slots := 336, locals := 62 } : Room)))))
theorem okPast_init : YOK yPast_init 0 := ⟨by decide +kernel, mT (i := 95) (by decide +kernel) rfl, ⟨by decide +kernel, by decide +kernel⟩, by decide +kernel, mT (i := 4) (by decide +kernel) rfl⟩
def yK_newLines : YI := (⟨"KiteYards", "newLines", "(I)[LKiteYards$Line;"⟩, (prog_1_method_55_code, (3, ((Option.some (FieldType.array (FieldType.object "KiteYards$Line"))), ({ frames := 2, cells := 57, slots := 336, locals := 40 } : Room)))))
theorem okK_newLines : YOK yK_newLines 1 := ⟨by decide +kernel, mT (i := 99) (by decide +kernel) rfl, ⟨by decide +kernel, by decide +kernel⟩, by decide +kernel, mT (i := 1) (by decide +kernel) rfl⟩
def yMath_max : YI := (⟨"java/lang/Math", "max", "(II)I"⟩, (prog_13_method_65_code, (2, ((Option.some FieldType.int), ({ frames := 0, cells := 0, slots := 0, locals := 0 } : Room)))))
theorem okMath_max : YOK yMath_max 2 := ⟨by decide +kernel, mT (i := 102) (by decide +kernel) rfl, ⟨by decide +kernel, by decide +kernel⟩, by decide +kernel, mT (i := 5) (by decide +kernel) rfl⟩
def ySightings_init : YI := (⟨"KiteYards$Sightings", "<init>", "()V"⟩, (prog_6_method_1_code, (1, ((none), ({ frames := 1, cells := 2, slots := 12, locals := 20 } : Room)))))
theorem okSightings_init : YOK ySightings_init 0 := ⟨by decide +kernel, mT (i := 117) (by decide +kernel) rfl, ⟨by decide +kernel, by decide +kernel⟩, by decide +kernel, mT (i := 6) (by decide +kernel) rfl⟩
def yFlight_init : YI := (⟨"KiteYards$Flight", "<init>", "()V"⟩, (prog_3_method_1_code, (1, ((none), ({ frames := 1, cells := 2, slots := 10, locals := 20 } : Room)))))
theorem okFlight_init : YOK yFlight_init 0 := ⟨by decide +kernel, mT (i := 135) (by decide +kernel) rfl, ⟨by decide +kernel, by decide +kernel⟩, by decide +kernel, mT (i := 7) (by decide +kernel) rfl⟩
def yWay_init : YI := (⟨"KiteYards$Way", "<init>", "()V"⟩, (prog_9_method_1_code, (1, ((none), ({ frames := 1, cells := 1, slots := 5, locals := 20 } : Room)))))
theorem okWay_init : YOK yWay_init 0 := ⟨by decide +kernel, mT (i := 159) (by decide +kernel) rfl, ⟨by decide +kernel, by decide +kernel⟩, by decide +kernel, mT (i := 8) (by decide +kernel) rfl⟩
def yBest_init : YI := (⟨"KiteYards$Best", "<init>", "()V"⟩, (prog_2_method_1_code, (1, ((none), ({ frames := 1, cells := 0, slots := 0, locals := 20 } : Room)))))
theorem okBest_init : YOK yBest_init 0 := ⟨by decide +kernel, mT (i := 176) (by decide +kernel) rfl, ⟨by decide +kernel, by decide +kernel⟩, by decide +kernel, mT (i := 9) (by decide +kernel) rfl⟩
def yTally_init : YI := (⟨"KiteYards$Tally", "<init>", "()V"⟩, (prog_7_method_1_code, (1, ((none), ({ frames := 1, cells := 0, slots := 0, locals := 20 } : Room)))))
theorem okTally_init : YOK yTally_init 0 := ⟨by decide +kernel, mT (i := 191) (by decide +kernel) rfl, ⟨by decide +kernel, by decide +kernel⟩, by decide +kernel, mT (i := 10) (by decide +kernel) rfl⟩
def yK_write : YI := (⟨"KiteYards", "write", "(I)I"⟩, (prog_1_method_2_code, (2, ((Option.some FieldType.int), ({ frames := 2, cells := 0, slots := 0, locals := 43 } : Room)))))
theorem okK_write : YOK yK_write 1 := ⟨by decide +kernel, mT (i := 242) (by decide +kernel) rfl, ⟨by decide +kernel, by decide +kernel⟩, by decide +kernel, mT (i := 1) (by decide +kernel) rfl⟩
def yText_append : YI := (⟨"KiteYards$Text", "append", "(I)I"⟩, (prog_8_method_2_code, (2, ((Option.some FieldType.int), ({ frames := 1, cells := 0, slots := 0, locals := 22 } : Room)))))
theorem okText_append : YOK yText_append 1 := ⟨by decide +kernel, mT (i := 246) (by decide +kernel) rfl, ⟨by decide +kernel, by decide +kernel⟩, by decide +kernel, mT (i := 2) (by decide +kernel) rfl⟩
def yK_put : YI := (⟨"KiteYards", "put", "([III)V"⟩, (prog_1_method_54_code, (3, ((none), ({ frames := 0, cells := 0, slots := 0, locals := 0 } : Room)))))
theorem okK_put : YOK yK_put 3 := ⟨by decide +kernel, mT (i := 249) (by decide +kernel) rfl, ⟨by decide +kernel, by decide +kernel⟩, by decide +kernel, mT (i := 1) (by decide +kernel) rfl⟩
def yK_wipe : YI := (⟨"KiteYards", "wipe", "()I"⟩, (prog_1_method_3_code, (2, ((Option.some FieldType.int), ({ frames := 0, cells := 0, slots := 0, locals := 0 } : Room)))))
theorem okK_wipe : YOK yK_wipe 0 := ⟨by decide +kernel, mT (i := 253) (by decide +kernel) rfl, ⟨by decide +kernel, by decide +kernel⟩, by decide +kernel, mT (i := 1) (by decide +kernel) rfl⟩
def yK_fault : YI := (⟨"KiteYards", "fault", "()I"⟩, (prog_1_method_4_code, (1, ((Option.some FieldType.int), ({ frames := 3, cells := 0, slots := 0, locals := 65 } : Room)))))
theorem okK_fault : YOK yK_fault 0 := ⟨by decide +kernel, mT (i := 257) (by decide +kernel) rfl, ⟨by decide +kernel, by decide +kernel⟩, by decide +kernel, mT (i := 1) (by decide +kernel) rfl⟩
def yText_firstFault : YI := (⟨"KiteYards$Text", "firstFault", "()I"⟩, (prog_8_method_3_code, (2, ((Option.some FieldType.int), ({ frames := 2, cells := 0, slots := 0, locals := 44 } : Room)))))
theorem okText_firstFault : YOK yText_firstFault 0 := ⟨by decide +kernel, mT (i := 261) (by decide +kernel) rfl, ⟨by decide +kernel, by decide +kernel⟩, by decide +kernel, mT (i := 2) (by decide +kernel) rfl⟩
def yK_at : YI := (⟨"KiteYards", "at", "([II)I"⟩, (prog_1_method_53_code, (2, ((Option.some FieldType.int), ({ frames := 0, cells := 0, slots := 0, locals := 0 } : Room)))))
theorem okK_at : YOK yK_at 2 := ⟨by decide +kernel, mT (i := 264) (by decide +kernel) rfl, ⟨by decide +kernel, by decide +kernel⟩, by decide +kernel, mT (i := 1) (by decide +kernel) rfl⟩
def yText_fits : YI := (⟨"KiteYards$Text", "fits", "(II)Z"⟩, (prog_8_method_4_code, (3, ((Option.some FieldType.boolean), ({ frames := 1, cells := 0, slots := 0, locals := 22 } : Room)))))
theorem okText_fits : YOK yText_fits 2 := ⟨by decide +kernel, mT (i := 268) (by decide +kernel) rfl, ⟨by decide +kernel, by decide +kernel⟩, by decide +kernel, mT (i := 2) (by decide +kernel) rfl⟩
def yText_fitsPart : YI := (⟨"KiteYards$Text", "fitsPart", "(II)Z"⟩, (prog_8_method_5_code, (3, ((Option.some FieldType.boolean), ({ frames := 0, cells := 0, slots := 0, locals := 0 } : Room)))))
theorem okText_fitsPart : YOK yText_fitsPart 2 := ⟨by decide +kernel, mT (i := 272) (by decide +kernel) rfl, ⟨by decide +kernel, by decide +kernel⟩, by decide +kernel, mT (i := 2) (by decide +kernel) rfl⟩
def yK_fly : YI := (⟨"KiteYards", "fly", "()I"⟩, (prog_1_method_5_code, (1, ((Option.some FieldType.int), ({ frames := 3, cells := 0, slots := 0, locals := 65 } : Room)))))
theorem okK_fly : YOK yK_fly 0 := ⟨by decide +kernel, mT (i := 276) (by decide +kernel) rfl, ⟨by decide +kernel, by decide +kernel⟩, by decide +kernel, mT (i := 1) (by decide +kernel) rfl⟩
def yText_tell : YI := (⟨"KiteYards$Text", "tell", "(LKiteYards$Line;)V"⟩, (prog_8_method_6_code, (4, ((none), ({ frames := 2, cells := 0, slots := 0, locals := 42 } : Room)))))
theorem okText_tell : YOK yText_tell 1 := ⟨by decide +kernel, mT (i := 280) (by decide +kernel) rfl, ⟨by decide +kernel, by decide +kernel⟩, by decide +kernel, mT (i := 2) (by decide +kernel) rfl⟩
def yText_figure : YI := (⟨"KiteYards$Text", "figure", "(I)I"⟩, (prog_8_method_7_code, (2, ((Option.some FieldType.int), ({ frames := 1, cells := 0, slots := 0, locals := 21 } : Room)))))
theorem okText_figure : YOK yText_figure 1 := ⟨by decide +kernel, mT (i := 284) (by decide +kernel) rfl, ⟨by decide +kernel, by decide +kernel⟩, by decide +kernel, mT (i := 2) (by decide +kernel) rfl⟩
def yMath_min : YI := (⟨"java/lang/Math", "min", "(II)I"⟩, (prog_13_method_69_code, (2, ((Option.some FieldType.int), ({ frames := 0, cells := 0, slots := 0, locals := 0 } : Room)))))
theorem okMath_min : YOK yMath_min 2 := ⟨by decide +kernel, mT (i := 287) (by decide +kernel) rfl, ⟨by decide +kernel, by decide +kernel⟩, by decide +kernel, mT (i := 5) (by decide +kernel) rfl⟩
def yPast_forget : YI := (⟨"KiteYards$Past", "forget", "()V"⟩, (prog_5_method_5_code, (1, ((none), ({ frames := 0, cells := 0, slots := 0, locals := 0 } : Room)))))
theorem okPast_forget : YOK yPast_forget 0 := ⟨by decide +kernel, mT (i := 291) (by decide +kernel) rfl, ⟨by decide +kernel, by decide +kernel⟩, by decide +kernel, mT (i := 4) (by decide +kernel) rfl⟩
def yK_forgetKept : YI := (⟨"KiteYards", "forgetKept", "()V"⟩, (prog_1_method_32_code, (2, ((none), ({ frames := 0, cells := 0, slots := 0, locals := 0 } : Room)))))
theorem okK_forgetKept : YOK yK_forgetKept 0 := ⟨by decide +kernel, mT (i := 295) (by decide +kernel) rfl, ⟨by decide +kernel, by decide +kernel⟩, by decide +kernel, mT (i := 1) (by decide +kernel) rfl⟩
def yK_about : YI := (⟨"KiteYards", "about", "(I)I"⟩, (prog_1_method_6_code, (2, ((Option.some FieldType.int), ({ frames := 2, cells := 0, slots := 0, locals := 49 } : Room)))))
theorem okK_about : YOK yK_about 1 := ⟨by decide +kernel, mT (i := 299) (by decide +kernel) rfl, ⟨by decide +kernel, by decide +kernel⟩, by decide +kernel, mT (i := 1) (by decide +kernel) rfl⟩
def yLine_yardsFrom : YI := (⟨"KiteYards$Line", "yardsFrom", "(I)I"⟩, (prog_4_method_3_code, (4, ((Option.some FieldType.int), ({ frames := 1, cells := 0, slots := 0, locals := 21 } : Room)))))
theorem okLine_yardsFrom : YOK yLine_yardsFrom 1 := ⟨by decide +kernel, mT (i := 303) (by decide +kernel) rfl, ⟨by decide +kernel, by decide +kernel⟩, by decide +kernel, mT (i := 3) (by decide +kernel) rfl⟩
def yFlight_follow : YI := (⟨"KiteYards$Flight", "follow", "(LKiteYards$Line;)V"⟩, (prog_3_method_2_code, (8, ((none), ({ frames := 1, cells := 0, slots := 0, locals := 22 } : Room)))))
theorem okFlight_follow : YOK yFlight_follow 1 := ⟨by decide +kernel, mT (i := 309) (by decide +kernel) rfl, ⟨by decide +kernel, by decide +kernel⟩, by decide +kernel, mT (i := 7) (by decide +kernel) rfl⟩
def yMath_abs : YI := (⟨"java/lang/Math", "abs", "(I)I"⟩, (prog_13_method_59_code, (1, ((Option.some FieldType.int), ({ frames := 0, cells := 0, slots := 0, locals := 0 } : Room)))))
theorem okMath_abs : YOK yMath_abs 1 := ⟨by decide +kernel, mT (i := 314) (by decide +kernel) rfl, ⟨by decide +kernel, by decide +kernel⟩, by decide +kernel, mT (i := 5) (by decide +kernel) rfl⟩
def yK_kite : YI := (⟨"KiteYards", "kite", "(II)I"⟩, (prog_1_method_7_code, (3, ((Option.some FieldType.int), ({ frames := 2, cells := 0, slots := 0, locals := 49 } : Room)))))
theorem okK_kite : YOK yK_kite 2 := ⟨by decide +kernel, mT (i := 319) (by decide +kernel) rfl, ⟨by decide +kernel, by decide +kernel⟩, by decide +kernel, mT (i := 1) (by decide +kernel) rfl⟩
def yLine_has : YI := (⟨"KiteYards$Line", "has", "(I)Z"⟩, (prog_4_method_2_code, (2, ((Option.some FieldType.boolean), ({ frames := 0, cells := 0, slots := 0, locals := 0 } : Room)))))
theorem okLine_has : YOK yLine_has 1 := ⟨by decide +kernel, mT (i := 323) (by decide +kernel) rfl, ⟨by decide +kernel, by decide +kernel⟩, by decide +kernel, mT (i := 3) (by decide +kernel) rfl⟩
def yK_letOut : YI := (⟨"KiteYards", "letOut", "(II)I"⟩, (prog_1_method_8_code, (4, ((Option.some FieldType.int), ({ frames := 4, cells := 0, slots := 0, locals := 88 } : Room)))))
theorem okK_letOut : YOK yK_letOut 2 := ⟨by decide +kernel, mT (i := 328) (by decide +kernel) rfl, ⟨by decide +kernel, by decide +kernel⟩, by decide +kernel, mT (i := 1) (by decide +kernel) rfl⟩
def yK_within : YI := (⟨"KiteYards", "within", "(II)Z"⟩, (prog_1_method_44_code, (2, ((Option.some FieldType.boolean), ({ frames := 0, cells := 0, slots := 0, locals := 0 } : Room)))))
theorem okK_within : YOK yK_within 2 := ⟨by decide +kernel, mT (i := 331) (by decide +kernel) rfl, ⟨by decide +kernel, by decide +kernel⟩, by decide +kernel, mT (i := 1) (by decide +kernel) rfl⟩
def yPast_remember : YI := (⟨"KiteYards$Past", "remember", "(LKiteYards$Line;)V"⟩, (prog_5_method_2_code, (2, ((none), ({ frames := 3, cells := 0, slots := 0, locals := 67 } : Room)))))
theorem okPast_remember : YOK yPast_remember 1 := ⟨by decide +kernel, mT (i := 335) (by decide +kernel) rfl, ⟨by decide +kernel, by decide +kernel⟩, by decide +kernel, mT (i := 4) (by decide +kernel) rfl⟩
def yPast_forgetFirst : YI := (⟨"KiteYards$Past", "forgetFirst", "()V"⟩, (prog_5_method_3_code, (3, ((none), ({ frames := 0, cells := 0, slots := 0, locals := 0 } : Room)))))
theorem okPast_forgetFirst : YOK yPast_forgetFirst 0 := ⟨by decide +kernel, mT (i := 339) (by decide +kernel) rfl, ⟨by decide +kernel, by decide +kernel⟩, by decide +kernel, mT (i := 4) (by decide +kernel) rfl⟩
def yLine_take : YI := (⟨"KiteYards$Line", "take", "(LKiteYards$Line;)V"⟩, (prog_4_method_5_code, (2, ((none), ({ frames := 2, cells := 0, slots := 0, locals := 46 } : Room)))))
theorem okLine_take : YOK yLine_take 1 := ⟨by decide +kernel, mT (i := 343) (by decide +kernel) rfl, ⟨by decide +kernel, by decide +kernel⟩, by decide +kernel, mT (i := 3) (by decide +kernel) rfl⟩
def yLine_takeSome : YI := (⟨"KiteYards$Line", "takeSome", "(LKiteYards$Line;I)V"⟩, (prog_4_method_6_code, (5, ((none), ({ frames := 1, cells := 0, slots := 0, locals := 22 } : Room)))))
theorem okLine_takeSome : YOK yLine_takeSome 2 := ⟨by decide +kernel, mT (i := 347) (by decide +kernel) rfl, ⟨by decide +kernel, by decide +kernel⟩, by decide +kernel, mT (i := 3) (by decide +kernel) rfl⟩
def yK_set : YI := (⟨"KiteYards", "set", "(II)I"⟩, (prog_1_method_9_code, (4, ((Option.some FieldType.int), ({ frames := 4, cells := 0, slots := 0, locals := 88 } : Room)))))
theorem okK_set : YOK yK_set 2 := ⟨by decide +kernel, mT (i := 353) (by decide +kernel) rfl, ⟨by decide +kernel, by decide +kernel⟩, by decide +kernel, mT (i := 1) (by decide +kernel) rfl⟩
def yK_cut : YI := (⟨"KiteYards", "cut", "(I)I"⟩, (prog_1_method_10_code, (2, ((Option.some FieldType.int), ({ frames := 4, cells := 0, slots := 0, locals := 88 } : Room)))))
theorem okK_cut : YOK yK_cut 1 := ⟨by decide +kernel, mT (i := 357) (by decide +kernel) rfl, ⟨by decide +kernel, by decide +kernel⟩, by decide +kernel, mT (i := 1) (by decide +kernel) rfl⟩
def yK_turn : YI := (⟨"KiteYards", "turn", "(II)I"⟩, (prog_1_method_11_code, (4, ((Option.some FieldType.int), ({ frames := 4, cells := 0, slots := 0, locals := 88 } : Room)))))
theorem okK_turn : YOK yK_turn 2 := ⟨by decide +kernel, mT (i := 361) (by decide +kernel) rfl, ⟨by decide +kernel, by decide +kernel⟩, by decide +kernel, mT (i := 1) (by decide +kernel) rfl⟩
def yK_toldTogether : YI := (⟨"KiteYards", "toldTogether", "(II)I"⟩, (prog_1_method_46_code, (2, ((Option.some FieldType.int), ({ frames := 0, cells := 0, slots := 0, locals := 0 } : Room)))))
theorem okK_toldTogether : YOK yK_toldTogether 2 := ⟨by decide +kernel, mT (i := 364) (by decide +kernel) rfl, ⟨by decide +kernel, by decide +kernel⟩, by decide +kernel, mT (i := 1) (by decide +kernel) rfl⟩
def yK_undo : YI := (⟨"KiteYards", "undo", "()I"⟩, (prog_1_method_12_code, (1, ((Option.some FieldType.int), ({ frames := 4, cells := 0, slots := 0, locals := 89 } : Room)))))
theorem okK_undo : YOK yK_undo 0 := ⟨by decide +kernel, mT (i := 368) (by decide +kernel) rfl, ⟨by decide +kernel, by decide +kernel⟩, by decide +kernel, mT (i := 1) (by decide +kernel) rfl⟩
def yPast_giveBack : YI := (⟨"KiteYards$Past", "giveBack", "(LKiteYards$Line;)V"⟩, (prog_5_method_4_code, (3, ((none), ({ frames := 3, cells := 0, slots := 0, locals := 67 } : Room)))))
theorem okPast_giveBack : YOK yPast_giveBack 1 := ⟨by decide +kernel, mT (i := 372) (by decide +kernel) rfl, ⟨by decide +kernel, by decide +kernel⟩, by decide +kernel, mT (i := 4) (by decide +kernel) rfl⟩
def yK_sees : YI := (⟨"KiteYards", "sees", "(I)I"⟩, (prog_1_method_13_code, (2, ((Option.some FieldType.int), ({ frames := 3, cells := 0, slots := 0, locals := 62 } : Room)))))
theorem okK_sees : YOK yK_sees 1 := ⟨by decide +kernel, mT (i := 376) (by decide +kernel) rfl, ⟨by decide +kernel, by decide +kernel⟩, by decide +kernel, mT (i := 1) (by decide +kernel) rfl⟩
def yFlight_views : YI := (⟨"KiteYards$Flight", "views", "(I)Z"⟩, (prog_3_method_3_code, (2, ((Option.some FieldType.boolean), ({ frames := 2, cells := 0, slots := 0, locals := 41 } : Room)))))
theorem okFlight_views : YOK yFlight_views 1 := ⟨by decide +kernel, mT (i := 380) (by decide +kernel) rfl, ⟨by decide +kernel, by decide +kernel⟩, by decide +kernel, mT (i := 7) (by decide +kernel) rfl⟩
def yFlight_sight : YI := (⟨"KiteYards$Flight", "sight", "()I"⟩, (prog_3_method_5_code, (1, ((Option.some FieldType.int), ({ frames := 1, cells := 0, slots := 0, locals := 21 } : Room)))))
theorem okFlight_sight : YOK yFlight_sight 0 := ⟨by decide +kernel, mT (i := 384) (by decide +kernel) rfl, ⟨by decide +kernel, by decide +kernel⟩, by decide +kernel, mT (i := 7) (by decide +kernel) rfl⟩
def yK_cheapest : YI := (⟨"KiteYards", "cheapest", "(II)I"⟩, (prog_1_method_14_code, (3, ((Option.some FieldType.int), ({ frames := 5, cells := 0, slots := 0, locals := 106 } : Room)))))
theorem okK_cheapest : YOK yK_cheapest 2 := ⟨by decide +kernel, mT (i := 388) (by decide +kernel) rfl, ⟨by decide +kernel, by decide +kernel⟩, by decide +kernel, mT (i := 1) (by decide +kernel) rfl⟩
def yK_isFirstOrSecond : YI := (⟨"KiteYards", "isFirstOrSecond", "(I)Z"⟩, (prog_1_method_45_code, (1, ((Option.some FieldType.boolean), ({ frames := 0, cells := 0, slots := 0, locals := 0 } : Room)))))
theorem okK_isFirstOrSecond : YOK yK_isFirstOrSecond 1 := ⟨by decide +kernel, mT (i := 391) (by decide +kernel) rfl, ⟨by decide +kernel, by decide +kernel⟩, by decide +kernel, mT (i := 1) (by decide +kernel) rfl⟩
def yK_seekYards : YI := (⟨"KiteYards", "seekYards", "(I)V"⟩, (prog_1_method_33_code, (4, ((none), ({ frames := 4, cells := 0, slots := 0, locals := 83 } : Room)))))
theorem okK_seekYards : YOK yK_seekYards 1 := ⟨by decide +kernel, mT (i := 395) (by decide +kernel) rfl, ⟨by decide +kernel, by decide +kernel⟩, by decide +kernel, mT (i := 1) (by decide +kernel) rfl⟩
def yBest_clear : YI := (⟨"KiteYards$Best", "clear", "()V"⟩, (prog_2_method_2_code, (1, ((none), ({ frames := 0, cells := 0, slots := 0, locals := 0 } : Room)))))
theorem okBest_clear : YOK yBest_clear 0 := ⟨by decide +kernel, mT (i := 399) (by decide +kernel) rfl, ⟨by decide +kernel, by decide +kernel⟩, by decide +kernel, mT (i := 9) (by decide +kernel) rfl⟩
def yWay_start : YI := (⟨"KiteYards$Way", "start", "(II)V"⟩, (prog_9_method_2_code, (4, ((none), ({ frames := 0, cells := 0, slots := 0, locals := 0 } : Room)))))
theorem okWay_start : YOK yWay_start 2 := ⟨by decide +kernel, mT (i := 404) (by decide +kernel) rfl, ⟨by decide +kernel, by decide +kernel⟩, by decide +kernel, mT (i := 8) (by decide +kernel) rfl⟩
def yWay_most : YI := (⟨"KiteYards$Way", "most", "()I"⟩, (prog_9_method_3_code, (3, ((Option.some FieldType.int), ({ frames := 0, cells := 0, slots := 0, locals := 0 } : Room)))))
theorem okWay_most : YOK yWay_most 0 := ⟨by decide +kernel, mT (i := 408) (by decide +kernel) rfl, ⟨by decide +kernel, by decide +kernel⟩, by decide +kernel, mT (i := 8) (by decide +kernel) rfl⟩
def yWay_sum : YI := (⟨"KiteYards$Way", "sum", "()I"⟩, (prog_9_method_5_code, (3, ((Option.some FieldType.int), ({ frames := 1, cells := 0, slots := 0, locals := 21 } : Room)))))
theorem okWay_sum : YOK yWay_sum 0 := ⟨by decide +kernel, mT (i := 412) (by decide +kernel) rfl, ⟨by decide +kernel, by decide +kernel⟩, by decide +kernel, mT (i := 8) (by decide +kernel) rfl⟩
def yBest_wants : YI := (⟨"KiteYards$Best", "wants", "(I)Z"⟩, (prog_2_method_3_code, (2, ((Option.some FieldType.boolean), ({ frames := 0, cells := 0, slots := 0, locals := 0 } : Room)))))
theorem okBest_wants : YOK yBest_wants 1 := ⟨by decide +kernel, mT (i := 417) (by decide +kernel) rfl, ⟨by decide +kernel, by decide +kernel⟩, by decide +kernel, mT (i := 9) (by decide +kernel) rfl⟩
def yK_letOutByWay : YI := (⟨"KiteYards", "letOutByWay", "()Z"⟩, (prog_1_method_34_code, (3, ((Option.some FieldType.boolean), ({ frames := 1, cells := 0, slots := 0, locals := 22 } : Room)))))
theorem okK_letOutByWay : YOK yK_letOutByWay 0 := ⟨by decide +kernel, mT (i := 421) (by decide +kernel) rfl, ⟨by decide +kernel, by decide +kernel⟩, by decide +kernel, mT (i := 1) (by decide +kernel) rfl⟩
def yK_trialViews : YI := (⟨"KiteYards", "trialViews", "(I)Z"⟩, (prog_1_method_37_code, (2, ((Option.some FieldType.boolean), ({ frames := 3, cells := 0, slots := 0, locals := 62 } : Room)))))
theorem okK_trialViews : YOK yK_trialViews 1 := ⟨by decide +kernel, mT (i := 425) (by decide +kernel) rfl, ⟨by decide +kernel, by decide +kernel⟩, by decide +kernel, mT (i := 1) (by decide +kernel) rfl⟩
def yWay_number : YI := (⟨"KiteYards$Way", "number", "()I"⟩, (prog_9_method_6_code, (3, ((Option.some FieldType.int), ({ frames := 1, cells := 0, slots := 0, locals := 21 } : Room)))))
theorem okWay_number : YOK yWay_number 0 := ⟨by decide +kernel, mT (i := 429) (by decide +kernel) rfl, ⟨by decide +kernel, by decide +kernel⟩, by decide +kernel, mT (i := 8) (by decide +kernel) rfl⟩
def yBest_keepThis : YI := (⟨"KiteYards$Best", "keepThis", "(II)V"⟩, (prog_2_method_4_code, (3, ((none), ({ frames := 0, cells := 0, slots := 0, locals := 0 } : Room)))))
theorem okBest_keepThis : YOK yBest_keepThis 2 := ⟨by decide +kernel, mT (i := 433) (by decide +kernel) rfl, ⟨by decide +kernel, by decide +kernel⟩, by decide +kernel, mT (i := 9) (by decide +kernel) rfl⟩
def yWay_step : YI := (⟨"KiteYards$Way", "step", "()V"⟩, (prog_9_method_4_code, (2, ((none), ({ frames := 1, cells := 0, slots := 0, locals := 22 } : Room)))))
theorem okWay_step : YOK yWay_step 0 := ⟨by decide +kernel, mT (i := 437) (by decide +kernel) rfl, ⟨by decide +kernel, by decide +kernel⟩, by decide +kernel, mT (i := 8) (by decide +kernel) rfl⟩
def yK_fewest : YI := (⟨"KiteYards", "fewest", "(II)I"⟩, (prog_1_method_15_code, (3, ((Option.some FieldType.int), ({ frames := 5, cells := 0, slots := 0, locals := 106 } : Room)))))
theorem okK_fewest : YOK yK_fewest 2 := ⟨by decide +kernel, mT (i := 442) (by decide +kernel) rfl, ⟨by decide +kernel, by decide +kernel⟩, by decide +kernel, mT (i := 1) (by decide +kernel) rfl⟩
def yK_seekBridles : YI := (⟨"KiteYards", "seekBridles", "(I)V"⟩, (prog_1_method_35_code, (4, ((none), ({ frames := 4, cells := 0, slots := 0, locals := 83 } : Room)))))
theorem okK_seekBridles : YOK yK_seekBridles 1 := ⟨by decide +kernel, mT (i := 446) (by decide +kernel) rfl, ⟨by decide +kernel, by decide +kernel⟩, by decide +kernel, mT (i := 1) (by decide +kernel) rfl⟩
def yK_setByWay : YI := (⟨"KiteYards", "setByWay", "()I"⟩, (prog_1_method_36_code, (4, ((Option.some FieldType.int), ({ frames := 1, cells := 0, slots := 0, locals := 22 } : Room)))))
theorem okK_setByWay : YOK yK_setByWay 0 := ⟨by decide +kernel, mT (i := 450) (by decide +kernel) rfl, ⟨by decide +kernel, by decide +kernel⟩, by decide +kernel, mT (i := 1) (by decide +kernel) rfl⟩
def yK_whereToCut : YI := (⟨"KiteYards", "whereToCut", "()I"⟩, (prog_1_method_16_code, (3, ((Option.some FieldType.int), ({ frames := 2, cells := 0, slots := 0, locals := 49 } : Room)))))
theorem okK_whereToCut : YOK yK_whereToCut 0 := ⟨by decide +kernel, mT (i := 454) (by decide +kernel) rfl, ⟨by decide +kernel, by decide +kernel⟩, by decide +kernel, mT (i := 1) (by decide +kernel) rfl⟩
def yK_drops : YI := (⟨"KiteYards", "drops", "(I)I"⟩, (prog_1_method_17_code, (2, ((Option.some FieldType.int), ({ frames := 2, cells := 0, slots := 0, locals := 44 } : Room)))))
theorem okK_drops : YOK yK_drops 1 := ⟨by decide +kernel, mT (i := 458) (by decide +kernel) rfl, ⟨by decide +kernel, by decide +kernel⟩, by decide +kernel, mT (i := 1) (by decide +kernel) rfl⟩
def yK_share : YI := (⟨"KiteYards", "share", "(IZ)I"⟩, (prog_1_method_18_code, (9, ((Option.some FieldType.int), ({ frames := 4, cells := 0, slots := 0, locals := 85 } : Room)))))
theorem okK_share : YOK yK_share 2 := ⟨by decide +kernel, mT (i := 462) (by decide +kernel) rfl, ⟨by decide +kernel, by decide +kernel⟩, by decide +kernel, mT (i := 1) (by decide +kernel) rfl⟩
def yInt_bitCount : YI := (⟨"java/lang/Integer", "bitCount", "(I)I"⟩, (prog_12_method_49_code, (1, ((Option.some FieldType.int), ({ frames := 0, cells := 0, slots := 0, locals := 0 } : Room)))))
theorem okInt_bitCount : YOK yInt_bitCount 1 := ⟨by decide +kernel, mT (i := 465) (by decide +kernel) rfl, ⟨by decide +kernel, by decide +kernel⟩, by decide +kernel, mT (i := 12) (by decide +kernel) rfl⟩
def yK_orders : YI := (⟨"KiteYards", "orders", "(I)I"⟩, (prog_1_method_50_code, (3, ((Option.some FieldType.int), ({ frames := 0, cells := 0, slots := 0, locals := 0 } : Room)))))
theorem okK_orders : YOK yK_orders 1 := ⟨by decide +kernel, mT (i := 471) (by decide +kernel) rfl, ⟨by decide +kernel, by decide +kernel⟩, by decide +kernel, mT (i := 1) (by decide +kernel) rfl⟩
def yK_viewOf : YI := (⟨"KiteYards", "viewOf", "(I)I"⟩, (prog_1_method_38_code, (2, ((Option.some FieldType.int), ({ frames := 3, cells := 0, slots := 0, locals := 64 } : Room)))))
theorem okK_viewOf : YOK yK_viewOf 1 := ⟨by decide +kernel, mT (i := 475) (by decide +kernel) rfl, ⟨by decide +kernel, by decide +kernel⟩, by decide +kernel, mT (i := 1) (by decide +kernel) rfl⟩
def yFlight_viewsWithin : YI := (⟨"KiteYards$Flight", "viewsWithin", "(I)I"⟩, (prog_3_method_4_code, (4, ((Option.some FieldType.int), ({ frames := 2, cells := 0, slots := 0, locals := 41 } : Room)))))
theorem okFlight_viewsWithin : YOK yFlight_viewsWithin 1 := ⟨by decide +kernel, mT (i := 480) (by decide +kernel) rfl, ⟨by decide +kernel, by decide +kernel⟩, by decide +kernel, mT (i := 7) (by decide +kernel) rfl⟩
def yK_fraction : YI := (⟨"KiteYards", "fraction", "(IIZ)I"⟩, (prog_1_method_51_code, (4, ((Option.some FieldType.int), ({ frames := 1, cells := 0, slots := 0, locals := 25 } : Room)))))
theorem okK_fraction : YOK yK_fraction 3 := ⟨by decide +kernel, mT (i := 484) (by decide +kernel) rfl, ⟨by decide +kernel, by decide +kernel⟩, by decide +kernel, mT (i := 1) (by decide +kernel) rfl⟩
def yK_commonDivisor : YI := (⟨"KiteYards", "commonDivisor", "(II)I"⟩, (prog_1_method_52_code, (6, ((Option.some FieldType.int), ({ frames := 0, cells := 0, slots := 0, locals := 0 } : Room)))))
theorem okK_commonDivisor : YOK yK_commonDivisor 2 := ⟨by decide +kernel, mT (i := 488) (by decide +kernel) rfl, ⟨by decide +kernel, by decide +kernel⟩, by decide +kernel, mT (i := 1) (by decide +kernel) rfl⟩
def yK_arrives : YI := (⟨"KiteYards", "arrives", "(II)I"⟩, (prog_1_method_19_code, (3, ((Option.some FieldType.int), ({ frames := 2, cells := 0, slots := 0, locals := 48 } : Room)))))
theorem okK_arrives : YOK yK_arrives 2 := ⟨by decide +kernel, mT (i := 492) (by decide +kernel) rfl, ⟨by decide +kernel, by decide +kernel⟩, by decide +kernel, mT (i := 1) (by decide +kernel) rfl⟩
def yK_isWord : YI := (⟨"KiteYards", "isWord", "(II)Z"⟩, (prog_1_method_47_code, (4, ((Option.some FieldType.boolean), ({ frames := 0, cells := 0, slots := 0, locals := 0 } : Room)))))
theorem okK_isWord : YOK yK_isWord 2 := ⟨by decide +kernel, mT (i := 495) (by decide +kernel) rfl, ⟨by decide +kernel, by decide +kernel⟩, by decide +kernel, mT (i := 1) (by decide +kernel) rfl⟩
def yLine_tugsMore : YI := (⟨"KiteYards$Line", "tugsMore", "()I"⟩, (prog_4_method_4_code, (3, ((Option.some FieldType.int), ({ frames := 1, cells := 0, slots := 0, locals := 21 } : Room)))))
theorem okLine_tugsMore : YOK yLine_tugsMore 0 := ⟨by decide +kernel, mT (i := 499) (by decide +kernel) rfl, ⟨by decide +kernel, by decide +kernel⟩, by decide +kernel, mT (i := 3) (by decide +kernel) rfl⟩
def yK_shifted : YI := (⟨"KiteYards", "shifted", "(III)I"⟩, (prog_1_method_48_code, (7, ((Option.some FieldType.int), ({ frames := 1, cells := 0, slots := 0, locals := 22 } : Room)))))
theorem okK_shifted : YOK yK_shifted 3 := ⟨by decide +kernel, mT (i := 502) (by decide +kernel) rfl, ⟨by decide +kernel, by decide +kernel⟩, by decide +kernel, mT (i := 1) (by decide +kernel) rfl⟩
def yMath_floorMod : YI := (⟨"java/lang/Math", "floorMod", "(II)I"⟩, (prog_13_method_50_code, (3, ((Option.some FieldType.int), ({ frames := 0, cells := 0, slots := 0, locals := 0 } : Room)))))
theorem okMath_floorMod : YOK yMath_floorMod 2 := ⟨by decide +kernel, mT (i := 505) (by decide +kernel) rfl, ⟨by decide +kernel, by decide +kernel⟩, by decide +kernel, mT (i := 5) (by decide +kernel) rfl⟩
def yK_sent : YI := (⟨"KiteYards", "sent", "(II)I"⟩, (prog_1_method_20_code, (3, ((Option.some FieldType.int), ({ frames := 2, cells := 0, slots := 0, locals := 48 } : Room)))))
theorem okK_sent : YOK yK_sent 2 := ⟨by decide +kernel, mT (i := 509) (by decide +kernel) rfl, ⟨by decide +kernel, by decide +kernel⟩, by decide +kernel, mT (i := 1) (by decide +kernel) rfl⟩
def yK_taken : YI := (⟨"KiteYards", "taken", "(III)I"⟩, (prog_1_method_21_code, (4, ((Option.some FieldType.int), ({ frames := 2, cells := 0, slots := 0, locals := 50 } : Room)))))
theorem okK_taken : YOK yK_taken 3 := ⟨by decide +kernel, mT (i := 513) (by decide +kernel) rfl, ⟨by decide +kernel, by decide +kernel⟩, by decide +kernel, mT (i := 1) (by decide +kernel) rfl⟩
def yK_meetBySlips : YI := (⟨"KiteYards", "meetBySlips", "(III)Z"⟩, (prog_1_method_49_code, (9, ((Option.some FieldType.boolean), ({ frames := 1, cells := 0, slots := 0, locals := 22 } : Room)))))
theorem okK_meetBySlips : YOK yK_meetBySlips 3 := ⟨by decide +kernel, mT (i := 516) (by decide +kernel) rfl, ⟨by decide +kernel, by decide +kernel⟩, by decide +kernel, mT (i := 1) (by decide +kernel) rfl⟩
def yK_seeAt : YI := (⟨"KiteYards", "seeAt", "(II)I"⟩, (prog_1_method_22_code, (3, ((Option.some FieldType.int), ({ frames := 2, cells := 0, slots := 0, locals := 44 } : Room)))))
theorem okK_seeAt : YOK yK_seeAt 2 := ⟨by decide +kernel, mT (i := 520) (by decide +kernel) rfl, ⟨by decide +kernel, by decide +kernel⟩, by decide +kernel, mT (i := 1) (by decide +kernel) rfl⟩
def ySightings_add : YI := (⟨"KiteYards$Sightings", "add", "(II)I"⟩, (prog_6_method_2_code, (3, ((Option.some FieldType.int), ({ frames := 1, cells := 0, slots := 0, locals := 22 } : Room)))))
theorem okSightings_add : YOK ySightings_add 2 := ⟨by decide +kernel, mT (i := 524) (by decide +kernel) rfl, ⟨by decide +kernel, by decide +kernel⟩, by decide +kernel, mT (i := 6) (by decide +kernel) rfl⟩
def yK_unsee : YI := (⟨"KiteYards", "unsee", "()I"⟩, (prog_1_method_23_code, (2, ((Option.some FieldType.int), ({ frames := 0, cells := 0, slots := 0, locals := 0 } : Room)))))
theorem okK_unsee : YOK yK_unsee 0 := ⟨by decide +kernel, mT (i := 529) (by decide +kernel) rfl, ⟨by decide +kernel, by decide +kernel⟩, by decide +kernel, mT (i := 1) (by decide +kernel) rfl⟩
def yK_winds : YI := (⟨"KiteYards", "winds", "(I)I"⟩, (prog_1_method_24_code, (3, ((Option.some FieldType.int), ({ frames := 4, cells := 0, slots := 0, locals := 90 } : Room)))))
theorem okK_winds : YOK yK_winds 1 := ⟨by decide +kernel, mT (i := 533) (by decide +kernel) rfl, ⟨by decide +kernel, by decide +kernel⟩, by decide +kernel, mT (i := 1) (by decide +kernel) rfl⟩
def yK_seekWinds : YI := (⟨"KiteYards", "seekWinds", "()I"⟩, (prog_1_method_39_code, (4, ((Option.some FieldType.int), ({ frames := 3, cells := 0, slots := 0, locals := 67 } : Room)))))
theorem okK_seekWinds : YOK yK_seekWinds 0 := ⟨by decide +kernel, mT (i := 537) (by decide +kernel) rfl, ⟨by decide +kernel, by decide +kernel⟩, by decide +kernel, mT (i := 1) (by decide +kernel) rfl⟩
def yTally_clear : YI := (⟨"KiteYards$Tally", "clear", "()V"⟩, (prog_7_method_2_code, (1, ((none), ({ frames := 0, cells := 0, slots := 0, locals := 0 } : Room)))))
theorem okTally_clear : YOK yTally_clear 0 := ⟨by decide +kernel, mT (i := 541) (by decide +kernel) rfl, ⟨by decide +kernel, by decide +kernel⟩, by decide +kernel, mT (i := 10) (by decide +kernel) rfl⟩
def ySightings_agreeWith : YI := (⟨"KiteYards$Sightings", "agreeWith", "(LKiteYards$Flight;)Z"⟩, (prog_6_method_3_code, (4, ((Option.some FieldType.boolean), ({ frames := 1, cells := 0, slots := 0, locals := 21 } : Room)))))
theorem okSightings_agreeWith : YOK ySightings_agreeWith 1 := ⟨by decide +kernel, mT (i := 545) (by decide +kernel) rfl, ⟨by decide +kernel, by decide +kernel⟩, by decide +kernel, mT (i := 6) (by decide +kernel) rfl⟩
def yTally_add : YI := (⟨"KiteYards$Tally", "add", "(I)V"⟩, (prog_7_method_3_code, (2, ((none), ({ frames := 0, cells := 0, slots := 0, locals := 0 } : Room)))))
theorem okTally_add : YOK yTally_add 1 := ⟨by decide +kernel, mT (i := 550) (by decide +kernel) rfl, ⟨by decide +kernel, by decide +kernel⟩, by decide +kernel, mT (i := 10) (by decide +kernel) rfl⟩
def yK_rests : YI := (⟨"KiteYards", "rests", "(IIIII)I"⟩, (prog_1_method_25_code, (7, ((Option.some FieldType.int), ({ frames := 5, cells := 0, slots := 0, locals := 124 } : Room)))))
theorem okK_rests : YOK yK_rests 5 := ⟨by decide +kernel, mT (i := 554) (by decide +kernel) rfl, ⟨by decide +kernel, by decide +kernel⟩, by decide +kernel, mT (i := 1) (by decide +kernel) rfl⟩
def yK_seekRests : YI := (⟨"KiteYards", "seekRests", "(IIII)V"⟩, (prog_1_method_40_code, (7, ((none), ({ frames := 4, cells := 0, slots := 0, locals := 98 } : Room)))))
theorem okK_seekRests : YOK yK_seekRests 4 := ⟨by decide +kernel, mT (i := 558) (by decide +kernel) rfl, ⟨by decide +kernel, by decide +kernel⟩, by decide +kernel, mT (i := 1) (by decide +kernel) rfl⟩
def yK_isNearest : YI := (⟨"KiteYards", "isNearest", "(II)Z"⟩, (prog_1_method_41_code, (7, ((Option.some FieldType.boolean), ({ frames := 3, cells := 0, slots := 0, locals := 72 } : Room)))))
theorem okK_isNearest : YOK yK_isNearest 2 := ⟨by decide +kernel, mT (i := 562) (by decide +kernel) rfl, ⟨by decide +kernel, by decide +kernel⟩, by decide +kernel, mT (i := 1) (by decide +kernel) rfl⟩
def yK_distanceBy : YI := (⟨"KiteYards", "distanceBy", "(III)I"⟩, (prog_1_method_42_code, (4, ((Option.some FieldType.int), ({ frames := 2, cells := 0, slots := 0, locals := 49 } : Room)))))
theorem okK_distanceBy : YOK yK_distanceBy 3 := ⟨by decide +kernel, mT (i := 566) (by decide +kernel) rfl, ⟨by decide +kernel, by decide +kernel⟩, by decide +kernel, mT (i := 1) (by decide +kernel) rfl⟩
def yK_gusts : YI := (⟨"KiteYards", "gusts", "(IIZ)I"⟩, (prog_1_method_26_code, (5, ((Option.some FieldType.int), ({ frames := 4, cells := 0, slots := 0, locals := 89 } : Room)))))
theorem okK_gusts : YOK yK_gusts 3 := ⟨by decide +kernel, mT (i := 570) (by decide +kernel) rfl, ⟨by decide +kernel, by decide +kernel⟩, by decide +kernel, mT (i := 1) (by decide +kernel) rfl⟩
def yK_calmIn : YI := (⟨"KiteYards", "calmIn", "(II)I"⟩, (prog_1_method_43_code, (3, ((Option.some FieldType.int), ({ frames := 3, cells := 0, slots := 0, locals := 67 } : Room)))))
theorem okK_calmIn : YOK yK_calmIn 2 := ⟨by decide +kernel, mT (i := 574) (by decide +kernel) rfl, ⟨by decide +kernel, by decide +kernel⟩, by decide +kernel, mT (i := 1) (by decide +kernel) rfl⟩
def yK_seed : YI := (⟨"KiteYards", "seed", "(J)J"⟩, (prog_1_method_27_code, (5, ((Option.some FieldType.long), ({ frames := 0, cells := 0, slots := 0, locals := 0 } : Room)))))
theorem okK_seed : YOK yK_seed 1 := ⟨by decide +kernel, mT (i := 578) (by decide +kernel) rfl, ⟨by decide +kernel, by decide +kernel⟩, by decide +kernel, mT (i := 1) (by decide +kernel) rfl⟩
def yK_afternoons : YI := (⟨"KiteYards", "afternoons", "(I)I"⟩, (prog_1_method_28_code, (5, ((Option.some FieldType.int), ({ frames := 3, cells := 0, slots := 0, locals := 67 } : Room)))))
theorem okK_afternoons : YOK yK_afternoons 1 := ⟨by decide +kernel, mT (i := 582) (by decide +kernel) rfl, ⟨by decide +kernel, by decide +kernel⟩, by decide +kernel, mT (i := 1) (by decide +kernel) rfl⟩
def yK_keep : YI := (⟨"KiteYards", "keep", "(I)I"⟩, (prog_1_method_29_code, (3, ((Option.some FieldType.int), ({ frames := 3, cells := 0, slots := 0, locals := 67 } : Room)))))
theorem okK_keep : YOK yK_keep 1 := ⟨by decide +kernel, mT (i := 589) (by decide +kernel) rfl, ⟨by decide +kernel, by decide +kernel⟩, by decide +kernel, mT (i := 1) (by decide +kernel) rfl⟩
def yK_slotLine : YI := (⟨"KiteYards", "slotLine", "(I)LKiteYards$Line;"⟩, (prog_1_method_31_code, (2, ((Option.some (FieldType.object "KiteYards$Line")), ({ frames := 0, cells := 0, slots := 0, locals := 0 } : Room)))))
theorem okK_slotLine : YOK yK_slotLine 1 := ⟨by decide +kernel, mT (i := 593) (by decide +kernel) rfl, ⟨by decide +kernel, by decide +kernel⟩, by decide +kernel, mT (i := 1) (by decide +kernel) rfl⟩
def yK_again : YI := (⟨"KiteYards", "again", "(I)I"⟩, (prog_1_method_30_code, (3, ((Option.some FieldType.int), ({ frames := 3, cells := 0, slots := 0, locals := 67 } : Room)))))
theorem okK_again : YOK yK_again 1 := ⟨by decide +kernel, mT (i := 597) (by decide +kernel) rfl, ⟨by decide +kernel, by decide +kernel⟩, by decide +kernel, mT (i := 1) (by decide +kernel) rfl⟩
def yM_init : YI := (⟨"KiteYardsModel", "<init>", "()V"⟩, (prog_11_method_1_code, (1, ((none), ({ frames := 1, cells := 17, slots := 352, locals := 20 } : Room)))))
theorem okM_init : YOK yM_init 0 := ⟨by decide +kernel, mT (i := 602) (by decide +kernel) rfl, ⟨by decide +kernel, by decide +kernel⟩, by decide +kernel, mT (i := 11) (by decide +kernel) rfl⟩
def yM_write : YI := (⟨"KiteYardsModel", "write", "(I)I"⟩, (prog_11_method_8_code, (2, ((Option.some FieldType.int), ({ frames := 1, cells := 0, slots := 0, locals := 25 } : Room)))))
theorem okM_write : YOK yM_write 1 := ⟨by decide +kernel, mT (i := 722) (by decide +kernel) rfl, ⟨by decide +kernel, by decide +kernel⟩, by decide +kernel, mT (i := 11) (by decide +kernel) rfl⟩
def yM_in : YI := (⟨"KiteYardsModel", "in", "(JJJ)Z"⟩, (prog_11_method_3_code, (6, ((Option.some FieldType.boolean), ({ frames := 0, cells := 0, slots := 0, locals := 0 } : Room)))))
theorem okM_in : YOK yM_in 3 := ⟨by decide +kernel, mT (i := 726) (by decide +kernel) rfl, ⟨by decide +kernel, by decide +kernel⟩, by decide +kernel, mT (i := 11) (by decide +kernel) rfl⟩
def yM_wipe : YI := (⟨"KiteYardsModel", "wipe", "()I"⟩, (prog_11_method_9_code, (2, ((Option.some FieldType.int), ({ frames := 0, cells := 0, slots := 0, locals := 0 } : Room)))))
theorem okM_wipe : YOK yM_wipe 0 := ⟨by decide +kernel, mT (i := 730) (by decide +kernel) rfl, ⟨by decide +kernel, by decide +kernel⟩, by decide +kernel, mT (i := 11) (by decide +kernel) rfl⟩
def yM_fault : YI := (⟨"KiteYardsModel", "fault", "()I"⟩, (prog_11_method_13_code, (1, ((Option.some FieldType.int), ({ frames := 4, cells := 0, slots := 0, locals := 95 } : Room)))))
theorem okM_fault : YOK yM_fault 0 := ⟨by decide +kernel, mT (i := 734) (by decide +kernel) rfl, ⟨by decide +kernel, by decide +kernel⟩, by decide +kernel, mT (i := 11) (by decide +kernel) rfl⟩
def yM_readString : YI := (⟨"KiteYardsModel", "readString", "()I"⟩, (prog_11_method_12_code, (4, ((Option.some FieldType.int), ({ frames := 3, cells := 0, slots := 0, locals := 72 } : Room)))))
theorem okM_readString : YOK yM_readString 0 := ⟨by decide +kernel, mT (i := 738) (by decide +kernel) rfl, ⟨by decide +kernel, by decide +kernel⟩, by decide +kernel, mT (i := 11) (by decide +kernel) rfl⟩
def yM_readHead : YI := (⟨"KiteYardsModel", "readHead", "()Z"⟩, (prog_11_method_11_code, (6, ((Option.some FieldType.boolean), ({ frames := 2, cells := 0, slots := 0, locals := 47 } : Room)))))
theorem okM_readHead : YOK yM_readHead 0 := ⟨by decide +kernel, mT (i := 742) (by decide +kernel) rfl, ⟨by decide +kernel, by decide +kernel⟩, by decide +kernel, mT (i := 11) (by decide +kernel) rfl⟩
def yM_figure : YI := (⟨"KiteYardsModel", "figure", "(II)I"⟩, (prog_11_method_10_code, (3, ((Option.some FieldType.int), ({ frames := 1, cells := 0, slots := 0, locals := 25 } : Room)))))
theorem okM_figure : YOK yM_figure 2 := ⟨by decide +kernel, mT (i := 746) (by decide +kernel) rfl, ⟨by decide +kernel, by decide +kernel⟩, by decide +kernel, mT (i := 11) (by decide +kernel) rfl⟩
def yM_fly : YI := (⟨"KiteYardsModel", "fly", "()I"⟩, (prog_11_method_14_code, (2, ((Option.some FieldType.int), ({ frames := 4, cells := 0, slots := 0, locals := 95 } : Room)))))
theorem okM_fly : YOK yM_fly 0 := ⟨by decide +kernel, mT (i := 750) (by decide +kernel) rfl, ⟨by decide +kernel, by decide +kernel⟩, by decide +kernel, mT (i := 11) (by decide +kernel) rfl⟩
def yM_about : YI := (⟨"KiteYardsModel", "about", "(I)I"⟩, (prog_11_method_18_code, (2, ((Option.some FieldType.int), ({ frames := 3, cells := 0, slots := 0, locals := 68 } : Room)))))
theorem okM_about : YOK yM_about 1 := ⟨by decide +kernel, mT (i := 754) (by decide +kernel) rfl, ⟨by decide +kernel, by decide +kernel⟩, by decide +kernel, mT (i := 11) (by decide +kernel) rfl⟩
def yM_layPage : YI := (⟨"KiteYardsModel", "layPage", "()V"⟩, (prog_11_method_16_code, (1, ((none), ({ frames := 2, cells := 0, slots := 0, locals := 48 } : Room)))))
theorem okM_layPage : YOK yM_layPage 0 := ⟨by decide +kernel, mT (i := 758) (by decide +kernel) rfl, ⟨by decide +kernel, by decide +kernel⟩, by decide +kernel, mT (i := 11) (by decide +kernel) rfl⟩
def yM_lay : YI := (⟨"KiteYardsModel", "lay", "([I[I)V"⟩, (prog_11_method_15_code, (8, ((none), ({ frames := 1, cells := 0, slots := 0, locals := 21 } : Room)))))
theorem okM_lay : YOK yM_lay 2 := ⟨by decide +kernel, mT (i := 762) (by decide +kernel) rfl, ⟨by decide +kernel, by decide +kernel⟩, by decide +kernel, mT (i := 11) (by decide +kernel) rfl⟩
def yM_far : YI := (⟨"KiteYardsModel", "far", "(II)I"⟩, (prog_11_method_6_code, (2, ((Option.some FieldType.int), ({ frames := 0, cells := 0, slots := 0, locals := 0 } : Room)))))
theorem okM_far : YOK yM_far 2 := ⟨by decide +kernel, mT (i := 765) (by decide +kernel) rfl, ⟨by decide +kernel, by decide +kernel⟩, by decide +kernel, mT (i := 11) (by decide +kernel) rfl⟩
def yM_yardsFrom : YI := (⟨"KiteYardsModel", "yardsFrom", "(I)I"⟩, (prog_11_method_19_code, (4, ((Option.some FieldType.int), ({ frames := 0, cells := 0, slots := 0, locals := 0 } : Room)))))
theorem okM_yardsFrom : YOK yM_yardsFrom 1 := ⟨by decide +kernel, mT (i := 769) (by decide +kernel) rfl, ⟨by decide +kernel, by decide +kernel⟩, by decide +kernel, mT (i := 11) (by decide +kernel) rfl⟩
def yM_kite : YI := (⟨"KiteYardsModel", "kite", "(II)I"⟩, (prog_11_method_20_code, (3, ((Option.some FieldType.int), ({ frames := 3, cells := 0, slots := 0, locals := 68 } : Room)))))
theorem okM_kite : YOK yM_kite 2 := ⟨by decide +kernel, mT (i := 773) (by decide +kernel) rfl, ⟨by decide +kernel, by decide +kernel⟩, by decide +kernel, mT (i := 11) (by decide +kernel) rfl⟩
def yM_noKite : YI := (⟨"KiteYardsModel", "noKite", "(I)Z"⟩, (prog_11_method_7_code, (2, ((Option.some FieldType.boolean), ({ frames := 1, cells := 0, slots := 0, locals := 25 } : Room)))))
theorem okM_noKite : YOK yM_noKite 1 := ⟨by decide +kernel, mT (i := 777) (by decide +kernel) rfl, ⟨by decide +kernel, by decide +kernel⟩, by decide +kernel, mT (i := 11) (by decide +kernel) rfl⟩
def yM_letOut : YI := (⟨"KiteYardsModel", "letOut", "(II)I"⟩, (prog_11_method_22_code, (3, ((Option.some FieldType.int), ({ frames := 2, cells := 0, slots := 0, locals := 46 } : Room)))))
theorem okM_letOut : YOK yM_letOut 2 := ⟨by decide +kernel, mT (i := 781) (by decide +kernel) rfl, ⟨by decide +kernel, by decide +kernel⟩, by decide +kernel, mT (i := 11) (by decide +kernel) rfl⟩
def yM_note : YI := (⟨"KiteYardsModel", "note", "()V"⟩, (prog_11_method_21_code, (2, ((none), ({ frames := 0, cells := 0, slots := 0, locals := 0 } : Room)))))
theorem okM_note : YOK yM_note 0 := ⟨by decide +kernel, mT (i := 788) (by decide +kernel) rfl, ⟨by decide +kernel, by decide +kernel⟩, by decide +kernel, mT (i := 11) (by decide +kernel) rfl⟩
def yM_set : YI := (⟨"KiteYardsModel", "set", "(II)I"⟩, (prog_11_method_23_code, (4, ((Option.some FieldType.int), ({ frames := 2, cells := 0, slots := 0, locals := 46 } : Room)))))
theorem okM_set : YOK yM_set 2 := ⟨by decide +kernel, mT (i := 792) (by decide +kernel) rfl, ⟨by decide +kernel, by decide +kernel⟩, by decide +kernel, mT (i := 11) (by decide +kernel) rfl⟩
def yM_cut : YI := (⟨"KiteYardsModel", "cut", "(I)I"⟩, (prog_11_method_24_code, (2, ((Option.some FieldType.int), ({ frames := 2, cells := 0, slots := 0, locals := 46 } : Room)))))
theorem okM_cut : YOK yM_cut 1 := ⟨by decide +kernel, mT (i := 798) (by decide +kernel) rfl, ⟨by decide +kernel, by decide +kernel⟩, by decide +kernel, mT (i := 11) (by decide +kernel) rfl⟩
def yM_turn : YI := (⟨"KiteYardsModel", "turn", "(II)I"⟩, (prog_11_method_25_code, (4, ((Option.some FieldType.int), ({ frames := 1, cells := 0, slots := 0, locals := 25 } : Room)))))
theorem okM_turn : YOK yM_turn 2 := ⟨by decide +kernel, mT (i := 802) (by decide +kernel) rfl, ⟨by decide +kernel, by decide +kernel⟩, by decide +kernel, mT (i := 11) (by decide +kernel) rfl⟩
def yM_undo : YI := (⟨"KiteYardsModel", "undo", "()I"⟩, (prog_11_method_26_code, (2, ((Option.some FieldType.int), ({ frames := 0, cells := 0, slots := 0, locals := 0 } : Room)))))
theorem okM_undo : YOK yM_undo 0 := ⟨by decide +kernel, mT (i := 806) (by decide +kernel) rfl, ⟨by decide +kernel, by decide +kernel⟩, by decide +kernel, mT (i := 11) (by decide +kernel) rfl⟩
def yM_sees : YI := (⟨"KiteYardsModel", "sees", "(I)I"⟩, (prog_11_method_28_code, (2, ((Option.some FieldType.int), ({ frames := 3, cells := 0, slots := 0, locals := 68 } : Room)))))
theorem okM_sees : YOK yM_sees 1 := ⟨by decide +kernel, mT (i := 810) (by decide +kernel) rfl, ⟨by decide +kernel, by decide +kernel⟩, by decide +kernel, mT (i := 11) (by decide +kernel) rfl⟩
def yM_doesSee : YI := (⟨"KiteYardsModel", "doesSee", "([II)Z"⟩, (prog_11_method_17_code, (4, ((Option.some FieldType.boolean), ({ frames := 1, cells := 0, slots := 0, locals := 21 } : Room)))))
theorem okM_doesSee : YOK yM_doesSee 2 := ⟨by decide +kernel, mT (i := 816) (by decide +kernel) rfl, ⟨by decide +kernel, by decide +kernel⟩, by decide +kernel, mT (i := 11) (by decide +kernel) rfl⟩
def yM_cheapest : YI := (⟨"KiteYardsModel", "cheapest", "(II)I"⟩, (prog_11_method_32_code, (3, ((Option.some FieldType.int), ({ frames := 3, cells := 0, slots := 0, locals := 78 } : Room)))))
theorem okM_cheapest : YOK yM_cheapest 2 := ⟨by decide +kernel, mT (i := 820) (by decide +kernel) rfl, ⟨by decide +kernel, by decide +kernel⟩, by decide +kernel, mT (i := 11) (by decide +kernel) rfl⟩
def yM_noSpot : YI := (⟨"KiteYardsModel", "noSpot", "(II)Z"⟩, (prog_11_method_31_code, (2, ((Option.some FieldType.boolean), ({ frames := 1, cells := 0, slots := 0, locals := 25 } : Room)))))
theorem okM_noSpot : YOK yM_noSpot 2 := ⟨by decide +kernel, mT (i := 823) (by decide +kernel) rfl, ⟨by decide +kernel, by decide +kernel⟩, by decide +kernel, mT (i := 11) (by decide +kernel) rfl⟩
def yM_findWay : YI := (⟨"KiteYardsModel", "findWay", "(IZ)V"⟩, (prog_11_method_30_code, (11, ((none), ({ frames := 2, cells := 0, slots := 0, locals := 48 } : Room)))))
theorem okM_findWay : YOK yM_findWay 2 := ⟨by decide +kernel, mT (i := 827) (by decide +kernel) rfl, ⟨by decide +kernel, by decide +kernel⟩, by decide +kernel, mT (i := 11) (by decide +kernel) rfl⟩
def yM_power : YI := (⟨"KiteYardsModel", "power", "(II)I"⟩, (prog_11_method_29_code, (4, ((Option.some FieldType.int), ({ frames := 0, cells := 0, slots := 0, locals := 0 } : Room)))))
theorem okM_power : YOK yM_power 2 := ⟨by decide +kernel, mT (i := 830) (by decide +kernel) rfl, ⟨by decide +kernel, by decide +kernel⟩, by decide +kernel, mT (i := 11) (by decide +kernel) rfl⟩
def yM_begin : YI := (⟨"KiteYardsModel", "begin", "()V"⟩, (prog_11_method_27_code, (2, ((none), ({ frames := 0, cells := 0, slots := 0, locals := 0 } : Room)))))
theorem okM_begin : YOK yM_begin 0 := ⟨by decide +kernel, mT (i := 834) (by decide +kernel) rfl, ⟨by decide +kernel, by decide +kernel⟩, by decide +kernel, mT (i := 11) (by decide +kernel) rfl⟩
def yM_fewest : YI := (⟨"KiteYardsModel", "fewest", "(II)I"⟩, (prog_11_method_33_code, (3, ((Option.some FieldType.int), ({ frames := 3, cells := 0, slots := 0, locals := 78 } : Room)))))
theorem okM_fewest : YOK yM_fewest 2 := ⟨by decide +kernel, mT (i := 838) (by decide +kernel) rfl, ⟨by decide +kernel, by decide +kernel⟩, by decide +kernel, mT (i := 11) (by decide +kernel) rfl⟩
def yM_whereToCut : YI := (⟨"KiteYardsModel", "whereToCut", "()I"⟩, (prog_11_method_34_code, (3, ((Option.some FieldType.int), ({ frames := 3, cells := 0, slots := 0, locals := 68 } : Room)))))
theorem okM_whereToCut : YOK yM_whereToCut 0 := ⟨by decide +kernel, mT (i := 842) (by decide +kernel) rfl, ⟨by decide +kernel, by decide +kernel⟩, by decide +kernel, mT (i := 11) (by decide +kernel) rfl⟩
def yM_drops : YI := (⟨"KiteYardsModel", "drops", "(I)I"⟩, (prog_11_method_35_code, (2, ((Option.some FieldType.int), ({ frames := 2, cells := 0, slots := 0, locals := 46 } : Room)))))
theorem okM_drops : YOK yM_drops 1 := ⟨by decide +kernel, mT (i := 846) (by decide +kernel) rfl, ⟨by decide +kernel, by decide +kernel⟩, by decide +kernel, mT (i := 11) (by decide +kernel) rfl⟩
def yM_share : YI := (⟨"KiteYardsModel", "share", "(IZ)I"⟩, (prog_11_method_40_code, (7, ((Option.some FieldType.int), ({ frames := 3, cells := 0, slots := 0, locals := 72 } : Room)))))
theorem okM_share : YOK yM_share 2 := ⟨by decide +kernel, mT (i := 850) (by decide +kernel) rfl, ⟨by decide +kernel, by decide +kernel⟩, by decide +kernel, mT (i := 11) (by decide +kernel) rfl⟩
def yM_worthOf : YI := (⟨"KiteYardsModel", "worthOf", "(I)I"⟩, (prog_11_method_36_code, (5, ((Option.some FieldType.int), ({ frames := 2, cells := 0, slots := 0, locals := 48 } : Room)))))
theorem okM_worthOf : YOK yM_worthOf 1 := ⟨by decide +kernel, mT (i := 854) (by decide +kernel) rfl, ⟨by decide +kernel, by decide +kernel⟩, by decide +kernel, mT (i := 11) (by decide +kernel) rfl⟩
def yM_has : YI := (⟨"KiteYardsModel", "has", "(II)Z"⟩, (prog_11_method_4_code, (2, ((Option.some FieldType.boolean), ({ frames := 0, cells := 0, slots := 0, locals := 0 } : Room)))))
theorem okM_has : YOK yM_has 2 := ⟨by decide +kernel, mT (i := 857) (by decide +kernel) rfl, ⟨by decide +kernel, by decide +kernel⟩, by decide +kernel, mT (i := 11) (by decide +kernel) rfl⟩
def yM_many : YI := (⟨"KiteYardsModel", "many", "(I)I"⟩, (prog_11_method_5_code, (3, ((Option.some FieldType.int), ({ frames := 0, cells := 0, slots := 0, locals := 0 } : Room)))))
theorem okM_many : YOK yM_many 1 := ⟨by decide +kernel, mT (i := 860) (by decide +kernel) rfl, ⟨by decide +kernel, by decide +kernel⟩, by decide +kernel, mT (i := 11) (by decide +kernel) rfl⟩
def yM_orders : YI := (⟨"KiteYardsModel", "orders", "(I)I"⟩, (prog_11_method_37_code, (3, ((Option.some FieldType.int), ({ frames := 0, cells := 0, slots := 0, locals := 0 } : Room)))))
theorem okM_orders : YOK yM_orders 1 := ⟨by decide +kernel, mT (i := 863) (by decide +kernel) rfl, ⟨by decide +kernel, by decide +kernel⟩, by decide +kernel, mT (i := 11) (by decide +kernel) rfl⟩
def yM_fraction : YI := (⟨"KiteYardsModel", "fraction", "(IIZ)I"⟩, (prog_11_method_39_code, (4, ((Option.some FieldType.int), ({ frames := 1, cells := 0, slots := 0, locals := 24 } : Room)))))
theorem okM_fraction : YOK yM_fraction 3 := ⟨by decide +kernel, mT (i := 866) (by decide +kernel) rfl, ⟨by decide +kernel, by decide +kernel⟩, by decide +kernel, mT (i := 11) (by decide +kernel) rfl⟩
def yM_divisor : YI := (⟨"KiteYardsModel", "divisor", "(II)I"⟩, (prog_11_method_38_code, (5, ((Option.some FieldType.int), ({ frames := 0, cells := 0, slots := 0, locals := 0 } : Room)))))
theorem okM_divisor : YOK yM_divisor 2 := ⟨by decide +kernel, mT (i := 869) (by decide +kernel) rfl, ⟨by decide +kernel, by decide +kernel⟩, by decide +kernel, mT (i := 11) (by decide +kernel) rfl⟩
def yM_arrives : YI := (⟨"KiteYardsModel", "arrives", "(II)I"⟩, (prog_11_method_44_code, (3, ((Option.some FieldType.int), ({ frames := 2, cells := 0, slots := 0, locals := 48 } : Room)))))
theorem okM_arrives : YOK yM_arrives 2 := ⟨by decide +kernel, mT (i := 873) (by decide +kernel) rfl, ⟨by decide +kernel, by decide +kernel⟩, by decide +kernel, mT (i := 11) (by decide +kernel) rfl⟩
def yM_noWord : YI := (⟨"KiteYardsModel", "noWord", "(II)Z"⟩, (prog_11_method_41_code, (4, ((Option.some FieldType.boolean), ({ frames := 1, cells := 0, slots := 0, locals := 25 } : Room)))))
theorem okM_noWord : YOK yM_noWord 2 := ⟨by decide +kernel, mT (i := 876) (by decide +kernel) rfl, ⟨by decide +kernel, by decide +kernel⟩, by decide +kernel, mT (i := 11) (by decide +kernel) rfl⟩
def yM_bridles : YI := (⟨"KiteYardsModel", "bridles", "()I"⟩, (prog_11_method_43_code, (3, ((Option.some FieldType.int), ({ frames := 0, cells := 0, slots := 0, locals := 0 } : Room)))))
theorem okM_bridles : YOK yM_bridles 0 := ⟨by decide +kernel, mT (i := 881) (by decide +kernel) rfl, ⟨by decide +kernel, by decide +kernel⟩, by decide +kernel, mT (i := 11) (by decide +kernel) rfl⟩
def yM_moved : YI := (⟨"KiteYardsModel", "moved", "(III)I"⟩, (prog_11_method_42_code, (5, ((Option.some FieldType.int), ({ frames := 1, cells := 0, slots := 0, locals := 23 } : Room)))))
theorem okM_moved : YOK yM_moved 3 := ⟨by decide +kernel, mT (i := 884) (by decide +kernel) rfl, ⟨by decide +kernel, by decide +kernel⟩, by decide +kernel, mT (i := 11) (by decide +kernel) rfl⟩
def yM_sent : YI := (⟨"KiteYardsModel", "sent", "(II)I"⟩, (prog_11_method_45_code, (3, ((Option.some FieldType.int), ({ frames := 2, cells := 0, slots := 0, locals := 48 } : Room)))))
theorem okM_sent : YOK yM_sent 2 := ⟨by decide +kernel, mT (i := 888) (by decide +kernel) rfl, ⟨by decide +kernel, by decide +kernel⟩, by decide +kernel, mT (i := 11) (by decide +kernel) rfl⟩
def yM_taken : YI := (⟨"KiteYardsModel", "taken", "(III)I"⟩, (prog_11_method_46_code, (8, ((Option.some FieldType.int), ({ frames := 2, cells := 0, slots := 0, locals := 48 } : Room)))))
theorem okM_taken : YOK yM_taken 3 := ⟨by decide +kernel, mT (i := 892) (by decide +kernel) rfl, ⟨by decide +kernel, by decide +kernel⟩, by decide +kernel, mT (i := 11) (by decide +kernel) rfl⟩
def yM_seeAt : YI := (⟨"KiteYardsModel", "seeAt", "(II)I"⟩, (prog_11_method_47_code, (3, ((Option.some FieldType.int), ({ frames := 2, cells := 0, slots := 0, locals := 46 } : Room)))))
theorem okM_seeAt : YOK yM_seeAt 2 := ⟨by decide +kernel, mT (i := 896) (by decide +kernel) rfl, ⟨by decide +kernel, by decide +kernel⟩, by decide +kernel, mT (i := 11) (by decide +kernel) rfl⟩
def yM_unsee : YI := (⟨"KiteYardsModel", "unsee", "()I"⟩, (prog_11_method_48_code, (2, ((Option.some FieldType.int), ({ frames := 0, cells := 0, slots := 0, locals := 0 } : Room)))))
theorem okM_unsee : YOK yM_unsee 0 := ⟨by decide +kernel, mT (i := 901) (by decide +kernel) rfl, ⟨by decide +kernel, by decide +kernel⟩, by decide +kernel, mT (i := 11) (by decide +kernel) rfl⟩
def yM_winds : YI := (⟨"KiteYardsModel", "winds", "(I)I"⟩, (prog_11_method_50_code, (2, ((Option.some FieldType.int), ({ frames := 3, cells := 0, slots := 0, locals := 71 } : Room)))))
theorem okM_winds : YOK yM_winds 1 := ⟨by decide +kernel, mT (i := 905) (by decide +kernel) rfl, ⟨by decide +kernel, by decide +kernel⟩, by decide +kernel, mT (i := 11) (by decide +kernel) rfl⟩
def yM_findWinds : YI := (⟨"KiteYardsModel", "findWinds", "()V"⟩, (prog_11_method_49_code, (4, ((none), ({ frames := 2, cells := 0, slots := 0, locals := 48 } : Room)))))
theorem okM_findWinds : YOK yM_findWinds 0 := ⟨by decide +kernel, mT (i := 909) (by decide +kernel) rfl, ⟨by decide +kernel, by decide +kernel⟩, by decide +kernel, mT (i := 11) (by decide +kernel) rfl⟩
def yM_rests : YI := (⟨"KiteYardsModel", "rests", "(IIIII)I"⟩, (prog_11_method_53_code, (6, ((Option.some FieldType.int), ({ frames := 4, cells := 0, slots := 0, locals := 104 } : Room)))))
theorem okM_rests : YOK yM_rests 5 := ⟨by decide +kernel, mT (i := 913) (by decide +kernel) rfl, ⟨by decide +kernel, by decide +kernel⟩, by decide +kernel, mT (i := 11) (by decide +kernel) rfl⟩
def yM_findRests : YI := (⟨"KiteYardsModel", "findRests", "(IIII)V"⟩, (prog_11_method_52_code, (11, ((none), ({ frames := 3, cells := 0, slots := 0, locals := 74 } : Room)))))
theorem okM_findRests : YOK yM_findRests 4 := ⟨by decide +kernel, mT (i := 919) (by decide +kernel) rfl, ⟨by decide +kernel, by decide +kernel⟩, by decide +kernel, mT (i := 11) (by decide +kernel) rfl⟩
def yM_farBy : YI := (⟨"KiteYardsModel", "farBy", "(IIIIZI)I"⟩, (prog_11_method_51_code, (7, ((Option.some FieldType.int), ({ frames := 2, cells := 0, slots := 0, locals := 48 } : Room)))))
theorem okM_farBy : YOK yM_farBy 6 := ⟨by decide +kernel, mT (i := 923) (by decide +kernel) rfl, ⟨by decide +kernel, by decide +kernel⟩, by decide +kernel, mT (i := 11) (by decide +kernel) rfl⟩
def yM_gusts : YI := (⟨"KiteYardsModel", "gusts", "(IIZ)I"⟩, (prog_11_method_54_code, (7, ((Option.some FieldType.int), ({ frames := 2, cells := 0, slots := 0, locals := 48 } : Room)))))
theorem okM_gusts : YOK yM_gusts 3 := ⟨by decide +kernel, mT (i := 927) (by decide +kernel) rfl, ⟨by decide +kernel, by decide +kernel⟩, by decide +kernel, mT (i := 11) (by decide +kernel) rfl⟩
def yM_seed : YI := (⟨"KiteYardsModel", "seed", "(J)J"⟩, (prog_11_method_55_code, (5, ((Option.some FieldType.long), ({ frames := 0, cells := 0, slots := 0, locals := 0 } : Room)))))
theorem okM_seed : YOK yM_seed 1 := ⟨by decide +kernel, mT (i := 932) (by decide +kernel) rfl, ⟨by decide +kernel, by decide +kernel⟩, by decide +kernel, mT (i := 11) (by decide +kernel) rfl⟩
def yM_afternoons : YI := (⟨"KiteYardsModel", "afternoons", "(I)I"⟩, (prog_11_method_56_code, (5, ((Option.some FieldType.int), ({ frames := 2, cells := 0, slots := 0, locals := 48 } : Room)))))
theorem okM_afternoons : YOK yM_afternoons 1 := ⟨by decide +kernel, mT (i := 936) (by decide +kernel) rfl, ⟨by decide +kernel, by decide +kernel⟩, by decide +kernel, mT (i := 11) (by decide +kernel) rfl⟩
def yM_keep : YI := (⟨"KiteYardsModel", "keep", "(I)I"⟩, (prog_11_method_57_code, (3, ((Option.some FieldType.int), ({ frames := 1, cells := 0, slots := 0, locals := 25 } : Room)))))
theorem okM_keep : YOK yM_keep 1 := ⟨by decide +kernel, mT (i := 943) (by decide +kernel) rfl, ⟨by decide +kernel, by decide +kernel⟩, by decide +kernel, mT (i := 11) (by decide +kernel) rfl⟩
def yM_again : YI := (⟨"KiteYardsModel", "again", "(I)I"⟩, (prog_11_method_58_code, (3, ((Option.some FieldType.int), ({ frames := 1, cells := 0, slots := 0, locals := 25 } : Room)))))
theorem okM_again : YOK yM_again 1 := ⟨by decide +kernel, mT (i := 947) (by decide +kernel) rfl, ⟨by decide +kernel, by decide +kernel⟩, by decide +kernel, mT (i := 11) (by decide +kernel) rfl⟩
def yLaw : YI := (x, (code, (maxLocals, (ret, room_1))))
theorem fText_9 : FL "KiteYards$Text" 9 6 0 true (.array .int) := ⟨_, rfl, by decide +kernel, mT (i := 27) (by decide +kernel) rfl, by decide +kernel, by decide +kernel, by decide +kernel⟩
theorem fText_15 : FL "KiteYards$Text" 15 6 1 false .int := ⟨_, rfl, by decide +kernel, mT (i := 28) (by decide +kernel) rfl, by decide +kernel, by decide +kernel, by decide +kernel⟩
theorem fK_84 : FL "KiteYards" 84 6 1 false .int := ⟨_, rfl, by decide +kernel, mT (i := 29) (by decide +kernel) rfl, by decide +kernel, by decide +kernel, by decide +kernel⟩
theorem fLine_25 : FL "KiteYards$Line" 25 2 0 false .int := ⟨_, rfl, by decide +kernel, mT (i := 42) (by decide +kernel) rfl, by decide +kernel, by decide +kernel, by decide +kernel⟩
theorem fFlight_18 : FL "KiteYards$Flight" 18 2 0 false .int := ⟨_, rfl, by decide +kernel, mT (i := 43) (by decide +kernel) rfl, by decide +kernel, by decide +kernel, by decide +kernel⟩
theorem fK_106 : FL "KiteYards" 106 2 0 false .int := ⟨_, rfl, by decide +kernel, mT (i := 44) (by decide +kernel) rfl, by decide +kernel, by decide +kernel, by decide +kernel⟩
theorem fText_58 : FL "KiteYards$Text" 58 2 0 false .int := ⟨_, rfl, by decide +kernel, mT (i := 45) (by decide +kernel) rfl, by decide +kernel, by decide +kernel, by decide +kernel⟩
theorem fFlight_47 : FL "KiteYards$Flight" 47 2 1 false .int := ⟨_, rfl, by decide +kernel, mT (i := 46) (by decide +kernel) rfl, by decide +kernel, by decide +kernel, by decide +kernel⟩
theorem fLine_42 : FL "KiteYards$Line" 42 2 1 false .int := ⟨_, rfl, by decide +kernel, mT (i := 47) (by decide +kernel) rfl, by decide +kernel, by decide +kernel, by decide +kernel⟩
theorem fText_38 : FL "KiteYards$Text" 38 2 1 false .int := ⟨_, rfl, by decide +kernel, mT (i := 48) (by decide +kernel) rfl, by decide +kernel, by decide +kernel, by decide +kernel⟩
theorem fK_109 : FL "KiteYards" 109 2 1 false .int := ⟨_, rfl, by decide +kernel, mT (i := 49) (by decide +kernel) rfl, by decide +kernel, by decide +kernel, by decide +kernel⟩
theorem fFlight_50 : FL "KiteYards$Flight" 50 2 2 false .int := ⟨_, rfl, by decide +kernel, mT (i := 50) (by decide +kernel) rfl, by decide +kernel, by decide +kernel, by decide +kernel⟩
theorem fLine_45 : FL "KiteYards$Line" 45 2 2 false .int := ⟨_, rfl, by decide +kernel, mT (i := 51) (by decide +kernel) rfl, by decide +kernel, by decide +kernel, by decide +kernel⟩
theorem fText_43 : FL "KiteYards$Text" 43 2 2 false .int := ⟨_, rfl, by decide +kernel, mT (i := 52) (by decide +kernel) rfl, by decide +kernel, by decide +kernel, by decide +kernel⟩
theorem fK_112 : FL "KiteYards" 112 2 2 false .int := ⟨_, rfl, by decide +kernel, mT (i := 53) (by decide +kernel) rfl, by decide +kernel, by decide +kernel, by decide +kernel⟩
theorem fFlight_44 : FL "KiteYards$Flight" 44 2 3 false .int := ⟨_, rfl, by decide +kernel, mT (i := 54) (by decide +kernel) rfl, by decide +kernel, by decide +kernel, by decide +kernel⟩
theorem fLine_48 : FL "KiteYards$Line" 48 2 3 false .int := ⟨_, rfl, by decide +kernel, mT (i := 55) (by decide +kernel) rfl, by decide +kernel, by decide +kernel, by decide +kernel⟩
theorem fText_46 : FL "KiteYards$Text" 46 2 3 false .int := ⟨_, rfl, by decide +kernel, mT (i := 56) (by decide +kernel) rfl, by decide +kernel, by decide +kernel, by decide +kernel⟩
theorem fK_115 : FL "KiteYards" 115 2 3 false .int := ⟨_, rfl, by decide +kernel, mT (i := 57) (by decide +kernel) rfl, by decide +kernel, by decide +kernel, by decide +kernel⟩
theorem fLine_9 : FL "KiteYards$Line" 9 2 4 false .int := ⟨_, rfl, by decide +kernel, mT (i := 58) (by decide +kernel) rfl, by decide +kernel, by decide +kernel, by decide +kernel⟩
theorem fFlight_60 : FL "KiteYards$Flight" 60 2 4 false .int := ⟨_, rfl, by decide +kernel, mT (i := 59) (by decide +kernel) rfl, by decide +kernel, by decide +kernel, by decide +kernel⟩
theorem fText_49 : FL "KiteYards$Text" 49 2 4 false .int := ⟨_, rfl, by decide +kernel, mT (i := 60) (by decide +kernel) rfl, by decide +kernel, by decide +kernel, by decide +kernel⟩
theorem fK_118 : FL "KiteYards" 118 2 4 false .int := ⟨_, rfl, by decide +kernel, mT (i := 61) (by decide +kernel) rfl, by decide +kernel, by decide +kernel, by decide +kernel⟩
theorem fLine_15 : FL "KiteYards$Line" 15 2 5 true (.array .int) := ⟨_, rfl, by decide +kernel, mT (i := 62) (by decide +kernel) rfl, by decide +kernel, by decide +kernel, by decide +kernel⟩
theorem fFlight_28 : FL "KiteYards$Flight" 28 2 5 true (.array .int) := ⟨_, rfl, by decide +kernel, mT (i := 63) (by decide +kernel) rfl, by decide +kernel, by decide +kernel, by decide +kernel⟩
theorem fText_61 : FL "KiteYards$Text" 61 2 5 true (.array .int) := ⟨_, rfl, by decide +kernel, mT (i := 64) (by decide +kernel) rfl, by decide +kernel, by decide +kernel, by decide +kernel⟩
theorem fK_136 : FL "KiteYards" 136 2 5 true (.array .int) := ⟨_, rfl, by decide +kernel, mT (i := 65) (by decide +kernel) rfl, by decide +kernel, by decide +kernel, by decide +kernel⟩
theorem fLine_19 : FL "KiteYards$Line" 19 2 6 true (.array .int) := ⟨_, rfl, by decide +kernel, mT (i := 66) (by decide +kernel) rfl, by decide +kernel, by decide +kernel, by decide +kernel⟩
theorem fFlight_53 : FL "KiteYards$Flight" 53 2 6 true (.array .int) := ⟨_, rfl, by decide +kernel, mT (i := 67) (by decide +kernel) rfl, by decide +kernel, by decide +kernel, by decide +kernel⟩
theorem fText_64 : FL "KiteYards$Text" 64 2 6 true (.array .int) := ⟨_, rfl, by decide +kernel, mT (i := 68) (by decide +kernel) rfl, by decide +kernel, by decide +kernel, by decide +kernel⟩
theorem fK_144 : FL "KiteYards" 144 2 6 true (.array .int) := ⟨_, rfl, by decide +kernel, mT (i := 69) (by decide +kernel) rfl, by decide +kernel, by decide +kernel, by decide +kernel⟩
theorem fLine_22 : FL "KiteYards$Line" 22 2 7 true (.array .int) := ⟨_, rfl, by decide +kernel, mT (i := 70) (by decide +kernel) rfl, by decide +kernel, by decide +kernel, by decide +kernel⟩
theorem fFlight_35 : FL "KiteYards$Flight" 35 2 7 true (.array .int) := ⟨_, rfl, by decide +kernel, mT (i := 71) (by decide +kernel) rfl, by decide +kernel, by decide +kernel, by decide +kernel⟩
theorem fText_67 : FL "KiteYards$Text" 67 2 7 true (.array .int) := ⟨_, rfl, by decide +kernel, mT (i := 72) (by decide +kernel) rfl, by decide +kernel, by decide +kernel, by decide +kernel⟩
theorem fK_147 : FL "KiteYards" 147 2 7 true (.array .int) := ⟨_, rfl, by decide +kernel, mT (i := 73) (by decide +kernel) rfl, by decide +kernel, by decide +kernel, by decide +kernel⟩
theorem fPast_13 : FL "KiteYards$Past" 13 3 0 true (.array (.object "KiteYards$Line")) := ⟨_, rfl, by decide +kernel, mT (i := 104) (by decide +kernel) rfl, by decide +kernel, by decide +kernel, by decide +kernel⟩
theorem fPast_19 : FL "KiteYards$Past" 19 3 1 false .int := ⟨_, rfl, by decide +kernel, mT (i := 105) (by decide +kernel) rfl, by decide +kernel, by decide +kernel, by decide +kernel⟩
theorem fK_130 : FL "KiteYards" 130 3 1 false .int := ⟨_, rfl, by decide +kernel, mT (i := 106) (by decide +kernel) rfl, by decide +kernel, by decide +kernel, by decide +kernel⟩
theorem fSightings_9 : FL "KiteYards$Sightings" 9 4 0 true (.array .int) := ⟨_, rfl, by decide +kernel, mT (i := 119) (by decide +kernel) rfl, by decide +kernel, by decide +kernel, by decide +kernel⟩
theorem fSightings_15 : FL "KiteYards$Sightings" 15 4 1 true (.array .int) := ⟨_, rfl, by decide +kernel, mT (i := 120) (by decide +kernel) rfl, by decide +kernel, by decide +kernel, by decide +kernel⟩
theorem fSightings_18 : FL "KiteYards$Sightings" 18 4 2 false .int := ⟨_, rfl, by decide +kernel, mT (i := 121) (by decide +kernel) rfl, by decide +kernel, by decide +kernel, by decide +kernel⟩
theorem fK_131 : FL "KiteYards" 131 4 2 false .int := ⟨_, rfl, by decide +kernel, mT (i := 122) (by decide +kernel) rfl, by decide +kernel, by decide +kernel, by decide +kernel⟩
theorem fFlight_9 : FL "KiteYards$Flight" 9 1 0 true (.array .int) := ⟨_, rfl, by decide +kernel, mT (i := 137) (by decide +kernel) rfl, by decide +kernel, by decide +kernel, by decide +kernel⟩
theorem fK_150 : FL "KiteYards" 150 1 0 true (.array .int) := ⟨_, rfl, by decide +kernel, mT (i := 138) (by decide +kernel) rfl, by decide +kernel, by decide +kernel, by decide +kernel⟩
theorem fFlight_15 : FL "KiteYards$Flight" 15 1 1 true (.array .int) := ⟨_, rfl, by decide +kernel, mT (i := 139) (by decide +kernel) rfl, by decide +kernel, by decide +kernel, by decide +kernel⟩
theorem fSightings_33 : FL "KiteYards$Sightings" 33 1 1 true (.array .int) := ⟨_, rfl, by decide +kernel, mT (i := 140) (by decide +kernel) rfl, by decide +kernel, by decide +kernel, by decide +kernel⟩
theorem fK_153 : FL "KiteYards" 153 1 1 true (.array .int) := ⟨_, rfl, by decide +kernel, mT (i := 141) (by decide +kernel) rfl, by decide +kernel, by decide +kernel, by decide +kernel⟩
theorem fFlight_24 : FL "KiteYards$Flight" 24 1 2 false .int := ⟨_, rfl, by decide +kernel, mT (i := 142) (by decide +kernel) rfl, by decide +kernel, by decide +kernel, by decide +kernel⟩
theorem fSightings_30 : FL "KiteYards$Sightings" 30 1 2 false .int := ⟨_, rfl, by decide +kernel, mT (i := 143) (by decide +kernel) rfl, by decide +kernel, by decide +kernel, by decide +kernel⟩
theorem fFlight_25 : FL "KiteYards$Flight" 25 1 3 false .int := ⟨_, rfl, by decide +kernel, mT (i := 144) (by decide +kernel) rfl, by decide +kernel, by decide +kernel, by decide +kernel⟩
theorem fK_127 : FL "KiteYards" 127 1 3 false .int := ⟨_, rfl, by decide +kernel, mT (i := 145) (by decide +kernel) rfl, by decide +kernel, by decide +kernel, by decide +kernel⟩
theorem fWay_9 : FL "KiteYards$Way" 9 7 0 true (.array .int) := ⟨_, rfl, by decide +kernel, mT (i := 161) (by decide +kernel) rfl, by decide +kernel, by decide +kernel, by decide +kernel⟩
theorem fK_283 : FL "KiteYards" 283 7 0 true (.array .int) := ⟨_, rfl, by decide +kernel, mT (i := 162) (by decide +kernel) rfl, by decide +kernel, by decide +kernel, by decide +kernel⟩
theorem fWay_15 : FL "KiteYards$Way" 15 7 1 false .int := ⟨_, rfl, by decide +kernel, mT (i := 163) (by decide +kernel) rfl, by decide +kernel, by decide +kernel, by decide +kernel⟩
theorem fWay_19 : FL "KiteYards$Way" 19 7 2 false .int := ⟨_, rfl, by decide +kernel, mT (i := 164) (by decide +kernel) rfl, by decide +kernel, by decide +kernel, by decide +kernel⟩
theorem fBest_9 : FL "KiteYards$Best" 9 0 0 false .int := ⟨_, rfl, by decide +kernel, mT (i := 178) (by decide +kernel) rfl, by decide +kernel, by decide +kernel, by decide +kernel⟩
theorem fK_184 : FL "KiteYards" 184 0 0 false .int := ⟨_, rfl, by decide +kernel, mT (i := 179) (by decide +kernel) rfl, by decide +kernel, by decide +kernel, by decide +kernel⟩
theorem fBest_15 : FL "KiteYards$Best" 15 0 1 false .int := ⟨_, rfl, by decide +kernel, mT (i := 180) (by decide +kernel) rfl, by decide +kernel, by decide +kernel, by decide +kernel⟩
theorem fK_187 : FL "KiteYards" 187 0 1 false .int := ⟨_, rfl, by decide +kernel, mT (i := 181) (by decide +kernel) rfl, by decide +kernel, by decide +kernel, by decide +kernel⟩
theorem fTally_15 : FL "KiteYards$Tally" 15 5 0 false .int := ⟨_, rfl, by decide +kernel, mT (i := 193) (by decide +kernel) rfl, by decide +kernel, by decide +kernel, by decide +kernel⟩
theorem fK_228 : FL "KiteYards" 228 5 0 false .int := ⟨_, rfl, by decide +kernel, mT (i := 194) (by decide +kernel) rfl, by decide +kernel, by decide +kernel, by decide +kernel⟩
theorem fTally_9 : FL "KiteYards$Tally" 9 5 1 false .int := ⟨_, rfl, by decide +kernel, mT (i := 195) (by decide +kernel) rfl, by decide +kernel, by decide +kernel, by decide +kernel⟩
theorem fK_229 : FL "KiteYards" 229 5 1 false .int := ⟨_, rfl, by decide +kernel, mT (i := 196) (by decide +kernel) rfl, by decide +kernel, by decide +kernel, by decide +kernel⟩
theorem fK_10 : FL "KiteYards" 10 8 0 true (.object "KiteYards$Text") := ⟨_, rfl, by decide +kernel, mT (i := 202) (by decide +kernel) rfl, by decide +kernel, by decide +kernel, by decide +kernel⟩
theorem fK_19 : FL "KiteYards" 19 8 1 true (.object "KiteYards$Line") := ⟨_, rfl, by decide +kernel, mT (i := 203) (by decide +kernel) rfl, by decide +kernel, by decide +kernel, by decide +kernel⟩
theorem fK_26 : FL "KiteYards" 26 8 2 true (.object "KiteYards$Past") := ⟨_, rfl, by decide +kernel, mT (i := 204) (by decide +kernel) rfl, by decide +kernel, by decide +kernel, by decide +kernel⟩
theorem fK_34 : FL "KiteYards" 34 8 3 true (.array (.object "KiteYards$Line")) := ⟨_, rfl, by decide +kernel, mT (i := 205) (by decide +kernel) rfl, by decide +kernel, by decide +kernel, by decide +kernel⟩
theorem fK_38 : FL "KiteYards" 38 8 4 true (.array .boolean) := ⟨_, rfl, by decide +kernel, mT (i := 206) (by decide +kernel) rfl, by decide +kernel, by decide +kernel, by decide +kernel⟩
theorem fK_45 : FL "KiteYards" 45 8 5 true (.object "KiteYards$Sightings") := ⟨_, rfl, by decide +kernel, mT (i := 207) (by decide +kernel) rfl, by decide +kernel, by decide +kernel, by decide +kernel⟩
theorem fK_49 : FL "KiteYards" 49 8 6 false .long := ⟨_, rfl, by decide +kernel, mT (i := 208) (by decide +kernel) rfl, by decide +kernel, by decide +kernel, by decide +kernel⟩
theorem fK_53 : FL "KiteYards" 53 8 7 true (.object "KiteYards$Line") := ⟨_, rfl, by decide +kernel, mT (i := 209) (by decide +kernel) rfl, by decide +kernel, by decide +kernel, by decide +kernel⟩
theorem fK_59 : FL "KiteYards" 59 8 8 true (.object "KiteYards$Flight") := ⟨_, rfl, by decide +kernel, mT (i := 210) (by decide +kernel) rfl, by decide +kernel, by decide +kernel, by decide +kernel⟩
theorem fK_66 : FL "KiteYards" 66 8 9 true (.object "KiteYards$Way") := ⟨_, rfl, by decide +kernel, mT (i := 211) (by decide +kernel) rfl, by decide +kernel, by decide +kernel, by decide +kernel⟩
theorem fK_73 : FL "KiteYards" 73 8 10 true (.object "KiteYards$Best") := ⟨_, rfl, by decide +kernel, mT (i := 212) (by decide +kernel) rfl, by decide +kernel, by decide +kernel, by decide +kernel⟩
theorem fK_80 : FL "KiteYards" 80 8 11 true (.object "KiteYards$Tally") := ⟨_, rfl, by decide +kernel, mT (i := 213) (by decide +kernel) rfl, by decide +kernel, by decide +kernel, by decide +kernel⟩
theorem fM_66 : FL "KiteYardsModel" 66 9 0 false .int := ⟨_, rfl, by decide +kernel, mT (i := 604) (by decide +kernel) rfl, by decide +kernel, by decide +kernel, by decide +kernel⟩
theorem fM_7 : FL "KiteYardsModel" 7 9 1 true (.array .int) := ⟨_, rfl, by decide +kernel, mT (i := 605) (by decide +kernel) rfl, by decide +kernel, by decide +kernel, by decide +kernel⟩
theorem fM_75 : FL "KiteYardsModel" 75 9 2 false .int := ⟨_, rfl, by decide +kernel, mT (i := 606) (by decide +kernel) rfl, by decide +kernel, by decide +kernel, by decide +kernel⟩
theorem fM_78 : FL "KiteYardsModel" 78 9 3 false .int := ⟨_, rfl, by decide +kernel, mT (i := 607) (by decide +kernel) rfl, by decide +kernel, by decide +kernel, by decide +kernel⟩
theorem fM_108 : FL "KiteYardsModel" 108 9 4 false .int := ⟨_, rfl, by decide +kernel, mT (i := 608) (by decide +kernel) rfl, by decide +kernel, by decide +kernel, by decide +kernel⟩
theorem fM_13 : FL "KiteYardsModel" 13 9 5 false .int := ⟨_, rfl, by decide +kernel, mT (i := 609) (by decide +kernel) rfl, by decide +kernel, by decide +kernel, by decide +kernel⟩
theorem fM_17 : FL "KiteYardsModel" 17 9 6 true (.array .int) := ⟨_, rfl, by decide +kernel, mT (i := 610) (by decide +kernel) rfl, by decide +kernel, by decide +kernel, by decide +kernel⟩
theorem fM_97 : FL "KiteYardsModel" 97 9 7 false .int := ⟨_, rfl, by decide +kernel, mT (i := 611) (by decide +kernel) rfl, by decide +kernel, by decide +kernel, by decide +kernel⟩
theorem fM_85 : FL "KiteYardsModel" 85 9 8 false .int := ⟨_, rfl, by decide +kernel, mT (i := 612) (by decide +kernel) rfl, by decide +kernel, by decide +kernel, by decide +kernel⟩
theorem fM_88 : FL "KiteYardsModel" 88 9 9 false .int := ⟨_, rfl, by decide +kernel, mT (i := 613) (by decide +kernel) rfl, by decide +kernel, by decide +kernel, by decide +kernel⟩
theorem fM_91 : FL "KiteYardsModel" 91 9 10 false .int := ⟨_, rfl, by decide +kernel, mT (i := 614) (by decide +kernel) rfl, by decide +kernel, by decide +kernel, by decide +kernel⟩
theorem fM_94 : FL "KiteYardsModel" 94 9 11 false .int := ⟨_, rfl, by decide +kernel, mT (i := 615) (by decide +kernel) rfl, by decide +kernel, by decide +kernel, by decide +kernel⟩
theorem fM_20 : FL "KiteYardsModel" 20 9 12 true (.array .int) := ⟨_, rfl, by decide +kernel, mT (i := 616) (by decide +kernel) rfl, by decide +kernel, by decide +kernel, by decide +kernel⟩
theorem fM_23 : FL "KiteYardsModel" 23 9 13 true (.array .int) := ⟨_, rfl, by decide +kernel, mT (i := 617) (by decide +kernel) rfl, by decide +kernel, by decide +kernel, by decide +kernel⟩
theorem fM_26 : FL "KiteYardsModel" 26 9 14 true (.array .int) := ⟨_, rfl, by decide +kernel, mT (i := 618) (by decide +kernel) rfl, by decide +kernel, by decide +kernel, by decide +kernel⟩
theorem fM_29 : FL "KiteYardsModel" 29 9 15 true (.array .int) := ⟨_, rfl, by decide +kernel, mT (i := 619) (by decide +kernel) rfl, by decide +kernel, by decide +kernel, by decide +kernel⟩
theorem fM_32 : FL "KiteYardsModel" 32 9 16 true (.array .int) := ⟨_, rfl, by decide +kernel, mT (i := 620) (by decide +kernel) rfl, by decide +kernel, by decide +kernel, by decide +kernel⟩
theorem fM_35 : FL "KiteYardsModel" 35 9 17 true (.array .int) := ⟨_, rfl, by decide +kernel, mT (i := 621) (by decide +kernel) rfl, by decide +kernel, by decide +kernel, by decide +kernel⟩
theorem fM_111 : FL "KiteYardsModel" 111 9 18 false .int := ⟨_, rfl, by decide +kernel, mT (i := 622) (by decide +kernel) rfl, by decide +kernel, by decide +kernel, by decide +kernel⟩
theorem fM_38 : FL "KiteYardsModel" 38 9 19 true (.array .int) := ⟨_, rfl, by decide +kernel, mT (i := 623) (by decide +kernel) rfl, by decide +kernel, by decide +kernel, by decide +kernel⟩
theorem fM_41 : FL "KiteYardsModel" 41 9 20 true (.array .boolean) := ⟨_, rfl, by decide +kernel, mT (i := 624) (by decide +kernel) rfl, by decide +kernel, by decide +kernel, by decide +kernel⟩
theorem fM_131 : FL "KiteYardsModel" 131 9 21 false .int := ⟨_, rfl, by decide +kernel, mT (i := 625) (by decide +kernel) rfl, by decide +kernel, by decide +kernel, by decide +kernel⟩
theorem fM_45 : FL "KiteYardsModel" 45 9 22 true (.array .int) := ⟨_, rfl, by decide +kernel, mT (i := 626) (by decide +kernel) rfl, by decide +kernel, by decide +kernel, by decide +kernel⟩
theorem fM_48 : FL "KiteYardsModel" 48 9 23 true (.array .int) := ⟨_, rfl, by decide +kernel, mT (i := 627) (by decide +kernel) rfl, by decide +kernel, by decide +kernel, by decide +kernel⟩
theorem fM_244 : FL "KiteYardsModel" 244 9 24 false .long := ⟨_, rfl, by decide +kernel, mT (i := 628) (by decide +kernel) rfl, by decide +kernel, by decide +kernel, by decide +kernel⟩
theorem fM_51 : FL "KiteYardsModel" 51 9 25 true (.array .int) := ⟨_, rfl, by decide +kernel, mT (i := 629) (by decide +kernel) rfl, by decide +kernel, by decide +kernel, by decide +kernel⟩
theorem fM_54 : FL "KiteYardsModel" 54 9 26 true (.array .int) := ⟨_, rfl, by decide +kernel, mT (i := 630) (by decide +kernel) rfl, by decide +kernel, by decide +kernel, by decide +kernel⟩
theorem fM_57 : FL "KiteYardsModel" 57 9 27 true (.array .int) := ⟨_, rfl, by decide +kernel, mT (i := 631) (by decide +kernel) rfl, by decide +kernel, by decide +kernel, by decide +kernel⟩
theorem fM_60 : FL "KiteYardsModel" 60 9 28 true (.array .int) := ⟨_, rfl, by decide +kernel, mT (i := 632) (by decide +kernel) rfl, by decide +kernel, by decide +kernel, by decide +kernel⟩
theorem fM_114 : FL "KiteYardsModel" 114 9 29 false .int := ⟨_, rfl, by decide +kernel, mT (i := 633) (by decide +kernel) rfl, by decide +kernel, by decide +kernel, by decide +kernel⟩
theorem fM_159 : FL "KiteYardsModel" 159 9 30 false .int := ⟨_, rfl, by decide +kernel, mT (i := 634) (by decide +kernel) rfl, by decide +kernel, by decide +kernel, by decide +kernel⟩
theorem fM_162 : FL "KiteYardsModel" 162 9 31 false .int := ⟨_, rfl, by decide +kernel, mT (i := 635) (by decide +kernel) rfl, by decide +kernel, by decide +kernel, by decide +kernel⟩
theorem fM_212 : FL "KiteYardsModel" 212 9 32 false .int := ⟨_, rfl, by decide +kernel, mT (i := 636) (by decide +kernel) rfl, by decide +kernel, by decide +kernel, by decide +kernel⟩
theorem fM_215 : FL "KiteYardsModel" 215 9 33 false .int := ⟨_, rfl, by decide +kernel, mT (i := 637) (by decide +kernel) rfl, by decide +kernel, by decide +kernel, by decide +kernel⟩
theorem fM_218 : FL "KiteYardsModel" 218 9 34 false .int := ⟨_, rfl, by decide +kernel, mT (i := 638) (by decide +kernel) rfl, by decide +kernel, by decide +kernel, by decide +kernel⟩
theorem fM_224 : FL "KiteYardsModel" 224 9 35 false .int := ⟨_, rfl, by decide +kernel, mT (i := 639) (by decide +kernel) rfl, by decide +kernel, by decide +kernel, by decide +kernel⟩
theorem fM_227 : FL "KiteYardsModel" 227 9 36 false .int := ⟨_, rfl, by decide +kernel, mT (i := 640) (by decide +kernel) rfl, by decide +kernel, by decide +kernel, by decide +kernel⟩
theorem fM_63 : FL "KiteYardsModel" 63 9 37 true (.array .int) := ⟨_, rfl, by decide +kernel, mT (i := 641) (by decide +kernel) rfl, by decide +kernel, by decide +kernel, by decide +kernel⟩
theorem kK_1 : Cond.methodLink "KiteYards" 1 Lib.objectInit ∈ WT := mT (i := 18) (by decide +kernel) rfl
theorem kK_9 : CIN "KiteYards" 9 yText_init := ⟨"KiteYards", nT (i := 23) (by decide +kernel), mT (i := 24) (by decide +kernel) rfl, rfl⟩
theorem kK_18 : CIN "KiteYards" 18 yLine_init := ⟨"KiteYards", nT (i := 38) (by decide +kernel), mT (i := 39) (by decide +kernel) rfl, rfl⟩
theorem kK_25 : CIN "KiteYards" 25 yPast_init := ⟨"KiteYards", nT (i := 93) (by decide +kernel), mT (i := 94) (by decide +kernel) rfl, rfl⟩
theorem kK_30 : CS "KiteYards" 30 yK_newLines := ⟨mT (i := 112) (by decide +kernel) rfl, mT (i := 98) (by decide +kernel) rfl⟩
theorem kK_44 : CIN "KiteYards" 44 ySightings_init := ⟨"KiteYards", nT (i := 115) (by decide +kernel), mT (i := 116) (by decide +kernel) rfl, rfl⟩
theorem kK_58 : CIN "KiteYards" 58 yFlight_init := ⟨"KiteYards", nT (i := 133) (by decide +kernel), mT (i := 134) (by decide +kernel) rfl, rfl⟩
theorem kK_65 : CIN "KiteYards" 65 yWay_init := ⟨"KiteYards", nT (i := 157) (by decide +kernel), mT (i := 158) (by decide +kernel) rfl, rfl⟩
theorem kK_72 : CIN "KiteYards" 72 yBest_init := ⟨"KiteYards", nT (i := 174) (by decide +kernel), mT (i := 175) (by decide +kernel) rfl, rfl⟩
theorem kK_79 : CIN "KiteYards" 79 yTally_init := ⟨"KiteYards", nT (i := 189) (by decide +kernel), mT (i := 190) (by decide +kernel) rfl, rfl⟩
theorem kText_3 : Cond.methodLink "KiteYards$Text" 3 Lib.objectInit ∈ WT := mT (i := 26) (by decide +kernel) rfl
theorem kLine_3 : Cond.methodLink "KiteYards$Line" 3 Lib.objectInit ∈ WT := mT (i := 41) (by decide +kernel) rfl
theorem kPast_3 : Cond.methodLink "KiteYards$Past" 3 Lib.objectInit ∈ WT := mT (i := 96) (by decide +kernel) rfl
theorem kPast_9 : CSN "KiteYards$Past" 9 yK_newLines := ⟨"KiteYards", nT (i := 97) (by decide +kernel), mT (i := 98) (by decide +kernel) rfl⟩
theorem kK_320 : CS "KiteYards" 320 yMath_max := ⟨mT (i := 100) (by decide +kernel) rfl, mT (i := 101) (by decide +kernel) rfl⟩
theorem kSightings_3 : Cond.methodLink "KiteYards$Sightings" 3 Lib.objectInit ∈ WT := mT (i := 118) (by decide +kernel) rfl
theorem kFlight_3 : Cond.methodLink "KiteYards$Flight" 3 Lib.objectInit ∈ WT := mT (i := 136) (by decide +kernel) rfl
theorem kWay_3 : Cond.methodLink "KiteYards$Way" 3 Lib.objectInit ∈ WT := mT (i := 160) (by decide +kernel) rfl
theorem kBest_3 : Cond.methodLink "KiteYards$Best" 3 Lib.objectInit ∈ WT := mT (i := 177) (by decide +kernel) rfl
theorem kTally_3 : Cond.methodLink "KiteYards$Tally" 3 Lib.objectInit ∈ WT := mT (i := 192) (by decide +kernel) rfl
theorem kK_88 : CV "KiteYards" 88 yText_append := ⟨mT (i := 243) (by decide +kernel) rfl, mT (i := 244) (by decide +kernel) rfl, mT (i := 245) (by decide +kernel) rfl⟩
theorem kText_19 : CSN "KiteYards$Text" 19 yK_put := ⟨"KiteYards", nT (i := 247) (by decide +kernel), mT (i := 248) (by decide +kernel) rfl⟩
theorem kK_92 : CV "KiteYards" 92 yText_firstFault := ⟨mT (i := 258) (by decide +kernel) rfl, mT (i := 259) (by decide +kernel) rfl, mT (i := 260) (by decide +kernel) rfl⟩
theorem kText_23 : CSN "KiteYards$Text" 23 yK_at := ⟨"KiteYards", nT (i := 262) (by decide +kernel), mT (i := 263) (by decide +kernel) rfl⟩
theorem kText_27 : CV "KiteYards$Text" 27 yText_fits := ⟨mT (i := 265) (by decide +kernel) rfl, mT (i := 267) (by decide +kernel) rfl, mS (q := (yN yText_fits, _)) 0 rfl⟩
theorem kText_31 : CV "KiteYards$Text" 31 yText_fitsPart := ⟨mT (i := 269) (by decide +kernel) rfl, mT (i := 271) (by decide +kernel) rfl, mS (q := (yN yText_fitsPart, _)) 1 rfl⟩
theorem kK_96 : CV "KiteYards" 96 yText_tell := ⟨mT (i := 277) (by decide +kernel) rfl, mT (i := 278) (by decide +kernel) rfl, mT (i := 279) (by decide +kernel) rfl⟩
theorem kK_100 : CV "KiteYards" 100 yPast_forget := ⟨mT (i := 288) (by decide +kernel) rfl, mT (i := 289) (by decide +kernel) rfl, mT (i := 290) (by decide +kernel) rfl⟩
theorem kK_103 : CV "KiteYards" 103 yK_forgetKept := ⟨mT (i := 292) (by decide +kernel) rfl, mT (i := 294) (by decide +kernel) rfl, mS (q := (yN yK_forgetKept, _)) 3 rfl⟩
theorem kText_34 : CV "KiteYards$Text" 34 yText_figure := ⟨mT (i := 281) (by decide +kernel) rfl, mT (i := 283) (by decide +kernel) rfl, mS (q := (yN yText_figure, _)) 2 rfl⟩
theorem kText_52 : CS "KiteYards$Text" 52 yMath_min := ⟨mT (i := 285) (by decide +kernel) rfl, mT (i := 286) (by decide +kernel) rfl⟩
theorem kK_121 : CV "KiteYards" 121 yLine_yardsFrom := ⟨mT (i := 300) (by decide +kernel) rfl, mT (i := 301) (by decide +kernel) rfl, mT (i := 302) (by decide +kernel) rfl⟩
theorem kK_124 : CV "KiteYards" 124 yFlight_follow := ⟨mT (i := 306) (by decide +kernel) rfl, mT (i := 307) (by decide +kernel) rfl, mT (i := 308) (by decide +kernel) rfl⟩
theorem kLine_28 : CS "KiteYards$Line" 28 yMath_max := ⟨mT (i := 304) (by decide +kernel) rfl, mT (i := 101) (by decide +kernel) rfl⟩
theorem kLine_34 : CSN "KiteYards$Line" 34 yK_at := ⟨"KiteYards", nT (i := 305) (by decide +kernel), mT (i := 263) (by decide +kernel) rfl⟩
theorem kFlight_31 : CSN "KiteYards$Flight" 31 yK_at := ⟨"KiteYards", nT (i := 310) (by decide +kernel), mT (i := 263) (by decide +kernel) rfl⟩
theorem kFlight_38 : CS "KiteYards$Flight" 38 yMath_max := ⟨mT (i := 311) (by decide +kernel) rfl, mT (i := 101) (by decide +kernel) rfl⟩
theorem kFlight_56 : CS "KiteYards$Flight" 56 yMath_abs := ⟨mT (i := 312) (by decide +kernel) rfl, mT (i := 313) (by decide +kernel) rfl⟩
theorem kFlight_63 : CSN "KiteYards$Flight" 63 yK_put := ⟨"KiteYards", nT (i := 315) (by decide +kernel), mT (i := 248) (by decide +kernel) rfl⟩
theorem kK_132 : CV "KiteYards" 132 yLine_has := ⟨mT (i := 320) (by decide +kernel) rfl, mT (i := 321) (by decide +kernel) rfl, mT (i := 322) (by decide +kernel) rfl⟩
theorem kK_140 : CS "KiteYards" 140 yK_at := ⟨mT (i := 324) (by decide +kernel) rfl, mT (i := 263) (by decide +kernel) rfl⟩
theorem kK_156 : CS "KiteYards" 156 yK_within := ⟨mT (i := 329) (by decide +kernel) rfl, mT (i := 330) (by decide +kernel) rfl⟩
theorem kK_160 : CV "KiteYards" 160 yPast_remember := ⟨mT (i := 332) (by decide +kernel) rfl, mT (i := 333) (by decide +kernel) rfl, mT (i := 334) (by decide +kernel) rfl⟩
theorem kK_163 : CS "KiteYards" 163 yK_put := ⟨mT (i := 349) (by decide +kernel) rfl, mT (i := 248) (by decide +kernel) rfl⟩
theorem kPast_23 : CV "KiteYards$Past" 23 yPast_forgetFirst := ⟨mT (i := 336) (by decide +kernel) rfl, mT (i := 338) (by decide +kernel) rfl, mS (q := (yN yPast_forgetFirst, _)) 4 rfl⟩
theorem kPast_26 : CV "KiteYards$Past" 26 yLine_take := ⟨mT (i := 340) (by decide +kernel) rfl, mT (i := 341) (by decide +kernel) rfl, mT (i := 342) (by decide +kernel) rfl⟩
theorem kLine_38 : CV "KiteYards$Line" 38 yLine_takeSome := ⟨mT (i := 344) (by decide +kernel) rfl, mT (i := 345) (by decide +kernel) rfl, mT (i := 346) (by decide +kernel) rfl⟩
theorem kLine_51 : CSN "KiteYards$Line" 51 yK_put := ⟨"KiteYards", nT (i := 348) (by decide +kernel), mT (i := 248) (by decide +kernel) rfl⟩
theorem kK_167 : CS "KiteYards" 167 yK_toldTogether := ⟨mT (i := 362) (by decide +kernel) rfl, mT (i := 363) (by decide +kernel) rfl⟩
theorem kK_171 : CV "KiteYards" 171 yPast_giveBack := ⟨mT (i := 369) (by decide +kernel) rfl, mT (i := 370) (by decide +kernel) rfl, mT (i := 371) (by decide +kernel) rfl⟩
theorem kK_174 : CV "KiteYards" 174 yFlight_views := ⟨mT (i := 377) (by decide +kernel) rfl, mT (i := 378) (by decide +kernel) rfl, mT (i := 379) (by decide +kernel) rfl⟩
theorem kFlight_67 : CV "KiteYards$Flight" 67 yFlight_sight := ⟨mT (i := 381) (by decide +kernel) rfl, mT (i := 383) (by decide +kernel) rfl, mS (q := (yN yFlight_sight, _)) 5 rfl⟩
theorem kK_177 : CS "KiteYards" 177 yK_isFirstOrSecond := ⟨mT (i := 389) (by decide +kernel) rfl, mT (i := 390) (by decide +kernel) rfl⟩
theorem kK_180 : CV "KiteYards" 180 yK_seekYards := ⟨mT (i := 392) (by decide +kernel) rfl, mT (i := 394) (by decide +kernel) rfl, mS (q := (yN yK_seekYards, _)) 6 rfl⟩
theorem kK_252 : CV "KiteYards" 252 yBest_clear := ⟨mT (i := 396) (by decide +kernel) rfl, mT (i := 397) (by decide +kernel) rfl, mT (i := 398) (by decide +kernel) rfl⟩
theorem kK_239 : CV "KiteYards" 239 yLine_take := ⟨mT (i := 400) (by decide +kernel) rfl, mT (i := 341) (by decide +kernel) rfl, mT (i := 342) (by decide +kernel) rfl⟩
theorem kK_255 : CV "KiteYards" 255 yWay_start := ⟨mT (i := 401) (by decide +kernel) rfl, mT (i := 402) (by decide +kernel) rfl, mT (i := 403) (by decide +kernel) rfl⟩
theorem kK_259 : CV "KiteYards" 259 yWay_most := ⟨mT (i := 405) (by decide +kernel) rfl, mT (i := 406) (by decide +kernel) rfl, mT (i := 407) (by decide +kernel) rfl⟩
theorem kK_262 : CV "KiteYards" 262 yWay_sum := ⟨mT (i := 409) (by decide +kernel) rfl, mT (i := 410) (by decide +kernel) rfl, mT (i := 411) (by decide +kernel) rfl⟩
theorem kK_265 : CV "KiteYards" 265 yBest_wants := ⟨mT (i := 414) (by decide +kernel) rfl, mT (i := 415) (by decide +kernel) rfl, mT (i := 416) (by decide +kernel) rfl⟩
theorem kK_268 : CV "KiteYards" 268 yK_letOutByWay := ⟨mT (i := 418) (by decide +kernel) rfl, mT (i := 420) (by decide +kernel) rfl, mS (q := (yN yK_letOutByWay, _)) 7 rfl⟩
theorem kK_272 : CV "KiteYards" 272 yK_trialViews := ⟨mT (i := 422) (by decide +kernel) rfl, mT (i := 424) (by decide +kernel) rfl, mS (q := (yN yK_trialViews, _)) 8 rfl⟩
theorem kK_275 : CV "KiteYards" 275 yWay_number := ⟨mT (i := 426) (by decide +kernel) rfl, mT (i := 427) (by decide +kernel) rfl, mT (i := 428) (by decide +kernel) rfl⟩
theorem kK_277 : CV "KiteYards" 277 yBest_keepThis := ⟨mT (i := 430) (by decide +kernel) rfl, mT (i := 431) (by decide +kernel) rfl, mT (i := 432) (by decide +kernel) rfl⟩
theorem kK_280 : CV "KiteYards" 280 yWay_step := ⟨mT (i := 434) (by decide +kernel) rfl, mT (i := 435) (by decide +kernel) rfl, mT (i := 436) (by decide +kernel) rfl⟩
theorem kWay_22 : CSN "KiteYards$Way" 22 yK_at := ⟨"KiteYards", nT (i := 413) (by decide +kernel), mT (i := 263) (by decide +kernel) rfl⟩
theorem kWay_26 : CSN "KiteYards$Way" 26 yK_put := ⟨"KiteYards", nT (i := 438) (by decide +kernel), mT (i := 248) (by decide +kernel) rfl⟩
theorem kK_190 : CV "KiteYards" 190 yK_seekBridles := ⟨mT (i := 443) (by decide +kernel) rfl, mT (i := 445) (by decide +kernel) rfl, mS (q := (yN yK_seekBridles, _)) 9 rfl⟩
theorem kK_286 : CV "KiteYards" 286 yK_setByWay := ⟨mT (i := 447) (by decide +kernel) rfl, mT (i := 449) (by decide +kernel) rfl, mS (q := (yN yK_setByWay, _)) 10 rfl⟩
theorem kK_193 : CS "KiteYards" 193 yInt_bitCount := ⟨mT (i := 463) (by decide +kernel) rfl, mT (i := 464) (by decide +kernel) rfl⟩
theorem kK_198 : CS "KiteYards" 198 yK_orders := ⟨mT (i := 469) (by decide +kernel) rfl, mT (i := 470) (by decide +kernel) rfl⟩
theorem kK_201 : CV "KiteYards" 201 yK_viewOf := ⟨mT (i := 472) (by decide +kernel) rfl, mT (i := 474) (by decide +kernel) rfl, mS (q := (yN yK_viewOf, _)) 11 rfl⟩
theorem kK_204 : CS "KiteYards" 204 yK_fraction := ⟨mT (i := 482) (by decide +kernel) rfl, mT (i := 483) (by decide +kernel) rfl⟩
theorem kK_289 : CV "KiteYards" 289 yLine_takeSome := ⟨mT (i := 476) (by decide +kernel) rfl, mT (i := 345) (by decide +kernel) rfl, mT (i := 346) (by decide +kernel) rfl⟩
theorem kK_293 : CV "KiteYards" 293 yFlight_viewsWithin := ⟨mT (i := 477) (by decide +kernel) rfl, mT (i := 478) (by decide +kernel) rfl, mT (i := 479) (by decide +kernel) rfl⟩
theorem kFlight_71 : CS "KiteYards$Flight" 71 yMath_min := ⟨mT (i := 481) (by decide +kernel) rfl, mT (i := 286) (by decide +kernel) rfl⟩
theorem kK_309 : CS "KiteYards" 309 yMath_abs := ⟨mT (i := 485) (by decide +kernel) rfl, mT (i := 313) (by decide +kernel) rfl⟩
theorem kK_317 : CS "KiteYards" 317 yK_commonDivisor := ⟨mT (i := 486) (by decide +kernel) rfl, mT (i := 487) (by decide +kernel) rfl⟩
theorem kK_208 : CS "KiteYards" 208 yK_isWord := ⟨mT (i := 493) (by decide +kernel) rfl, mT (i := 494) (by decide +kernel) rfl⟩
theorem kK_211 : CV "KiteYards" 211 yLine_tugsMore := ⟨mT (i := 496) (by decide +kernel) rfl, mT (i := 497) (by decide +kernel) rfl, mT (i := 498) (by decide +kernel) rfl⟩
theorem kK_214 : CS "KiteYards" 214 yK_shifted := ⟨mT (i := 500) (by decide +kernel) rfl, mT (i := 501) (by decide +kernel) rfl⟩
theorem kK_314 : CS "KiteYards" 314 yMath_floorMod := ⟨mT (i := 503) (by decide +kernel) rfl, mT (i := 504) (by decide +kernel) rfl⟩
theorem kK_218 : CS "KiteYards" 218 yK_meetBySlips := ⟨mT (i := 514) (by decide +kernel) rfl, mT (i := 515) (by decide +kernel) rfl⟩
theorem kK_222 : CV "KiteYards" 222 ySightings_add := ⟨mT (i := 521) (by decide +kernel) rfl, mT (i := 522) (by decide +kernel) rfl, mT (i := 523) (by decide +kernel) rfl⟩
theorem kSightings_22 : CSN "KiteYards$Sightings" 22 yK_put := ⟨"KiteYards", nT (i := 525) (by decide +kernel), mT (i := 248) (by decide +kernel) rfl⟩
theorem kK_225 : CV "KiteYards" 225 yK_seekWinds := ⟨mT (i := 534) (by decide +kernel) rfl, mT (i := 536) (by decide +kernel) rfl, mS (q := (yN yK_seekWinds, _)) 12 rfl⟩
theorem kK_296 : CV "KiteYards" 296 yTally_clear := ⟨mT (i := 538) (by decide +kernel) rfl, mT (i := 539) (by decide +kernel) rfl, mT (i := 540) (by decide +kernel) rfl⟩
theorem kK_297 : CV "KiteYards" 297 ySightings_agreeWith := ⟨mT (i := 542) (by decide +kernel) rfl, mT (i := 543) (by decide +kernel) rfl, mT (i := 544) (by decide +kernel) rfl⟩
theorem kK_301 : CV "KiteYards" 301 yTally_add := ⟨mT (i := 547) (by decide +kernel) rfl, mT (i := 548) (by decide +kernel) rfl, mT (i := 549) (by decide +kernel) rfl⟩
theorem kSightings_26 : CSN "KiteYards$Sightings" 26 yK_at := ⟨"KiteYards", nT (i := 546) (by decide +kernel), mT (i := 263) (by decide +kernel) rfl⟩
theorem kK_232 : CV "KiteYards" 232 yK_seekRests := ⟨mT (i := 555) (by decide +kernel) rfl, mT (i := 557) (by decide +kernel) rfl, mS (q := (yN yK_seekRests, _)) 13 rfl⟩
theorem kK_303 : CV "KiteYards" 303 yK_isNearest := ⟨mT (i := 559) (by decide +kernel) rfl, mT (i := 561) (by decide +kernel) rfl, mS (q := (yN yK_isNearest, _)) 14 rfl⟩
theorem kK_306 : CV "KiteYards" 306 yK_distanceBy := ⟨mT (i := 563) (by decide +kernel) rfl, mT (i := 565) (by decide +kernel) rfl, mS (q := (yN yK_distanceBy, _)) 15 rfl⟩
theorem kK_236 : CV "KiteYards" 236 yK_calmIn := ⟨mT (i := 571) (by decide +kernel) rfl, mT (i := 573) (by decide +kernel) rfl, mS (q := (yN yK_calmIn, _)) 16 rfl⟩
theorem kK_248 : CV "KiteYards" 248 yK_slotLine := ⟨mT (i := 590) (by decide +kernel) rfl, mT (i := 592) (by decide +kernel) rfl, mS (q := (yN yK_slotLine, _)) 17 rfl⟩
theorem kM_1 : Cond.methodLink "KiteYardsModel" 1 Lib.objectInit ∈ WT := mT (i := 603) (by decide +kernel) rfl
theorem kM_69 : CS "KiteYardsModel" 69 yM_in := ⟨mT (i := 724) (by decide +kernel) rfl, mT (i := 725) (by decide +kernel) rfl⟩
theorem kM_104 : CV "KiteYardsModel" 104 yM_readString := ⟨mT (i := 735) (by decide +kernel) rfl, mT (i := 737) (by decide +kernel) rfl, mS (q := (yN yM_readString, _)) 18 rfl⟩
theorem kM_100 : CV "KiteYardsModel" 100 yM_readHead := ⟨mT (i := 739) (by decide +kernel) rfl, mT (i := 741) (by decide +kernel) rfl, mS (q := (yN yM_readHead, _)) 19 rfl⟩
theorem kM_81 : CV "KiteYardsModel" 81 yM_figure := ⟨mT (i := 743) (by decide +kernel) rfl, mT (i := 745) (by decide +kernel) rfl, mS (q := (yN yM_figure, _)) 20 rfl⟩
theorem kM_124 : CV "KiteYardsModel" 124 yM_layPage := ⟨mT (i := 755) (by decide +kernel) rfl, mT (i := 757) (by decide +kernel) rfl, mS (q := (yN yM_layPage, _)) 21 rfl⟩
theorem kM_127 : CV "KiteYardsModel" 127 yM_yardsFrom := ⟨mT (i := 766) (by decide +kernel) rfl, mT (i := 768) (by decide +kernel) rfl, mS (q := (yN yM_yardsFrom, _)) 23 rfl⟩
theorem kM_120 : CV "KiteYardsModel" 120 yM_lay := ⟨mT (i := 759) (by decide +kernel) rfl, mT (i := 761) (by decide +kernel) rfl, mS (q := (yN yM_lay, _)) 22 rfl⟩
theorem kM_117 : CS "KiteYardsModel" 117 yM_far := ⟨mT (i := 763) (by decide +kernel) rfl, mT (i := 764) (by decide +kernel) rfl⟩
theorem kM_134 : CV "KiteYardsModel" 134 yM_noKite := ⟨mT (i := 774) (by decide +kernel) rfl, mT (i := 776) (by decide +kernel) rfl, mS (q := (yN yM_noKite, _)) 24 rfl⟩
theorem kM_144 : CV "KiteYardsModel" 144 yM_note := ⟨mT (i := 785) (by decide +kernel) rfl, mT (i := 787) (by decide +kernel) rfl, mS (q := (yN yM_note, _)) 25 rfl⟩
theorem kM_155 : CV "KiteYardsModel" 155 yM_doesSee := ⟨mT (i := 813) (by decide +kernel) rfl, mT (i := 815) (by decide +kernel) rfl, mS (q := (yN yM_doesSee, _)) 26 rfl⟩
theorem kM_171 : CS "KiteYardsModel" 171 yM_noSpot := ⟨mT (i := 821) (by decide +kernel) rfl, mT (i := 822) (by decide +kernel) rfl⟩
theorem kM_175 : CV "KiteYardsModel" 175 yM_findWay := ⟨mT (i := 824) (by decide +kernel) rfl, mT (i := 826) (by decide +kernel) rfl, mS (q := (yN yM_findWay, _)) 27 rfl⟩
theorem kM_165 : CS "KiteYardsModel" 165 yM_power := ⟨mT (i := 828) (by decide +kernel) rfl, mT (i := 829) (by decide +kernel) rfl⟩
theorem kM_168 : CV "KiteYardsModel" 168 yM_begin := ⟨mT (i := 831) (by decide +kernel) rfl, mT (i := 833) (by decide +kernel) rfl, mS (q := (yN yM_begin, _)) 28 rfl⟩
theorem kM_185 : CV "KiteYardsModel" 185 yM_worthOf := ⟨mT (i := 851) (by decide +kernel) rfl, mT (i := 853) (by decide +kernel) rfl, mS (q := (yN yM_worthOf, _)) 29 rfl⟩
theorem kM_179 : CS "KiteYardsModel" 179 yM_has := ⟨mT (i := 855) (by decide +kernel) rfl, mT (i := 856) (by decide +kernel) rfl⟩
theorem kM_188 : CS "KiteYardsModel" 188 yM_many := ⟨mT (i := 858) (by decide +kernel) rfl, mT (i := 859) (by decide +kernel) rfl⟩
theorem kM_191 : CS "KiteYardsModel" 191 yM_orders := ⟨mT (i := 861) (by decide +kernel) rfl, mT (i := 862) (by decide +kernel) rfl⟩
theorem kM_194 : CS "KiteYardsModel" 194 yM_fraction := ⟨mT (i := 864) (by decide +kernel) rfl, mT (i := 865) (by decide +kernel) rfl⟩
theorem kM_182 : CS "KiteYardsModel" 182 yM_divisor := ⟨mT (i := 867) (by decide +kernel) rfl, mT (i := 868) (by decide +kernel) rfl⟩
theorem kM_200 : CS "KiteYardsModel" 200 yM_noWord := ⟨mT (i := 874) (by decide +kernel) rfl, mT (i := 875) (by decide +kernel) rfl⟩
theorem kM_203 : CV "KiteYardsModel" 203 yM_bridles := ⟨mT (i := 878) (by decide +kernel) rfl, mT (i := 880) (by decide +kernel) rfl, mS (q := (yN yM_bridles, _)) 30 rfl⟩
theorem kM_206 : CS "KiteYardsModel" 206 yM_moved := ⟨mT (i := 882) (by decide +kernel) rfl, mT (i := 883) (by decide +kernel) rfl⟩
theorem kM_221 : CV "KiteYardsModel" 221 yM_findWinds := ⟨mT (i := 906) (by decide +kernel) rfl, mT (i := 908) (by decide +kernel) rfl, mS (q := (yN yM_findWinds, _)) 31 rfl⟩
theorem kM_238 : CV "KiteYardsModel" 238 yM_findRests := ⟨mT (i := 916) (by decide +kernel) rfl, mT (i := 918) (by decide +kernel) rfl, mS (q := (yN yM_findRests, _)) 32 rfl⟩
theorem kM_230 : CV "KiteYardsModel" 230 yM_farBy := ⟨mT (i := 920) (by decide +kernel) rfl, mT (i := 922) (by decide +kernel) rfl, mS (q := (yN yM_farBy, _)) 33 rfl⟩
theorem kLaw_9 : CI "KiteYardsLaw" 9 yK_init := ⟨mT (i := 15) (by decide +kernel) rfl, mT (i := 16) (by decide +kernel) rfl, rfl⟩
theorem kLaw_12 : CI "KiteYardsLaw" 12 yM_init := ⟨mT (i := 600) (by decide +kernel) rfl, mT (i := 601) (by decide +kernel) rfl, rfl⟩
theorem kLaw_13 : CV "KiteYardsLaw" 13 yK_write := ⟨mT (i := 239) (by decide +kernel) rfl, mT (i := 240) (by decide +kernel) rfl, mT (i := 241) (by decide +kernel) rfl⟩
theorem kLaw_17 : CV "KiteYardsLaw" 17 yM_write := ⟨mT (i := 719) (by decide +kernel) rfl, mT (i := 720) (by decide +kernel) rfl, mT (i := 721) (by decide +kernel) rfl⟩
theorem kLaw_18 : CV "KiteYardsLaw" 18 yK_wipe := ⟨mT (i := 250) (by decide +kernel) rfl, mT (i := 251) (by decide +kernel) rfl, mT (i := 252) (by decide +kernel) rfl⟩
theorem kLaw_22 : CV "KiteYardsLaw" 22 yM_wipe := ⟨mT (i := 727) (by decide +kernel) rfl, mT (i := 728) (by decide +kernel) rfl, mT (i := 729) (by decide +kernel) rfl⟩
theorem kLaw_23 : CV "KiteYardsLaw" 23 yK_fault := ⟨mT (i := 254) (by decide +kernel) rfl, mT (i := 255) (by decide +kernel) rfl, mT (i := 256) (by decide +kernel) rfl⟩
theorem kLaw_26 : CV "KiteYardsLaw" 26 yM_fault := ⟨mT (i := 731) (by decide +kernel) rfl, mT (i := 732) (by decide +kernel) rfl, mT (i := 733) (by decide +kernel) rfl⟩
theorem kLaw_27 : CV "KiteYardsLaw" 27 yK_fly := ⟨mT (i := 273) (by decide +kernel) rfl, mT (i := 274) (by decide +kernel) rfl, mT (i := 275) (by decide +kernel) rfl⟩
theorem kLaw_30 : CV "KiteYardsLaw" 30 yM_fly := ⟨mT (i := 747) (by decide +kernel) rfl, mT (i := 748) (by decide +kernel) rfl, mT (i := 749) (by decide +kernel) rfl⟩
theorem kLaw_31 : CV "KiteYardsLaw" 31 yK_about := ⟨mT (i := 296) (by decide +kernel) rfl, mT (i := 297) (by decide +kernel) rfl, mT (i := 298) (by decide +kernel) rfl⟩
theorem kLaw_34 : CV "KiteYardsLaw" 34 yM_about := ⟨mT (i := 751) (by decide +kernel) rfl, mT (i := 752) (by decide +kernel) rfl, mT (i := 753) (by decide +kernel) rfl⟩
theorem kLaw_35 : CV "KiteYardsLaw" 35 yK_kite := ⟨mT (i := 316) (by decide +kernel) rfl, mT (i := 317) (by decide +kernel) rfl, mT (i := 318) (by decide +kernel) rfl⟩
theorem kLaw_39 : CV "KiteYardsLaw" 39 yM_kite := ⟨mT (i := 770) (by decide +kernel) rfl, mT (i := 771) (by decide +kernel) rfl, mT (i := 772) (by decide +kernel) rfl⟩
theorem kLaw_40 : CV "KiteYardsLaw" 40 yK_letOut := ⟨mT (i := 325) (by decide +kernel) rfl, mT (i := 326) (by decide +kernel) rfl, mT (i := 327) (by decide +kernel) rfl⟩
theorem kLaw_43 : CV "KiteYardsLaw" 43 yM_letOut := ⟨mT (i := 778) (by decide +kernel) rfl, mT (i := 779) (by decide +kernel) rfl, mT (i := 780) (by decide +kernel) rfl⟩
theorem kLaw_44 : CV "KiteYardsLaw" 44 yK_set := ⟨mT (i := 350) (by decide +kernel) rfl, mT (i := 351) (by decide +kernel) rfl, mT (i := 352) (by decide +kernel) rfl⟩
theorem kLaw_47 : CV "KiteYardsLaw" 47 yM_set := ⟨mT (i := 789) (by decide +kernel) rfl, mT (i := 790) (by decide +kernel) rfl, mT (i := 791) (by decide +kernel) rfl⟩
theorem kLaw_48 : CV "KiteYardsLaw" 48 yK_cut := ⟨mT (i := 354) (by decide +kernel) rfl, mT (i := 355) (by decide +kernel) rfl, mT (i := 356) (by decide +kernel) rfl⟩
theorem kLaw_51 : CV "KiteYardsLaw" 51 yM_cut := ⟨mT (i := 795) (by decide +kernel) rfl, mT (i := 796) (by decide +kernel) rfl, mT (i := 797) (by decide +kernel) rfl⟩
theorem kLaw_52 : CV "KiteYardsLaw" 52 yK_turn := ⟨mT (i := 358) (by decide +kernel) rfl, mT (i := 359) (by decide +kernel) rfl, mT (i := 360) (by decide +kernel) rfl⟩
theorem kLaw_55 : CV "KiteYardsLaw" 55 yM_turn := ⟨mT (i := 799) (by decide +kernel) rfl, mT (i := 800) (by decide +kernel) rfl, mT (i := 801) (by decide +kernel) rfl⟩
theorem kLaw_56 : CV "KiteYardsLaw" 56 yK_undo := ⟨mT (i := 365) (by decide +kernel) rfl, mT (i := 366) (by decide +kernel) rfl, mT (i := 367) (by decide +kernel) rfl⟩
theorem kLaw_59 : CV "KiteYardsLaw" 59 yM_undo := ⟨mT (i := 803) (by decide +kernel) rfl, mT (i := 804) (by decide +kernel) rfl, mT (i := 805) (by decide +kernel) rfl⟩
theorem kLaw_60 : CV "KiteYardsLaw" 60 yK_sees := ⟨mT (i := 373) (by decide +kernel) rfl, mT (i := 374) (by decide +kernel) rfl, mT (i := 375) (by decide +kernel) rfl⟩
theorem kLaw_63 : CV "KiteYardsLaw" 63 yM_sees := ⟨mT (i := 807) (by decide +kernel) rfl, mT (i := 808) (by decide +kernel) rfl, mT (i := 809) (by decide +kernel) rfl⟩
theorem kLaw_64 : CV "KiteYardsLaw" 64 yK_cheapest := ⟨mT (i := 385) (by decide +kernel) rfl, mT (i := 386) (by decide +kernel) rfl, mT (i := 387) (by decide +kernel) rfl⟩
theorem kLaw_67 : CV "KiteYardsLaw" 67 yM_cheapest := ⟨mT (i := 817) (by decide +kernel) rfl, mT (i := 818) (by decide +kernel) rfl, mT (i := 819) (by decide +kernel) rfl⟩
theorem kLaw_68 : CV "KiteYardsLaw" 68 yK_fewest := ⟨mT (i := 439) (by decide +kernel) rfl, mT (i := 440) (by decide +kernel) rfl, mT (i := 441) (by decide +kernel) rfl⟩
theorem kLaw_71 : CV "KiteYardsLaw" 71 yM_fewest := ⟨mT (i := 835) (by decide +kernel) rfl, mT (i := 836) (by decide +kernel) rfl, mT (i := 837) (by decide +kernel) rfl⟩
theorem kLaw_72 : CV "KiteYardsLaw" 72 yK_whereToCut := ⟨mT (i := 451) (by decide +kernel) rfl, mT (i := 452) (by decide +kernel) rfl, mT (i := 453) (by decide +kernel) rfl⟩
theorem kLaw_75 : CV "KiteYardsLaw" 75 yM_whereToCut := ⟨mT (i := 839) (by decide +kernel) rfl, mT (i := 840) (by decide +kernel) rfl, mT (i := 841) (by decide +kernel) rfl⟩
theorem kLaw_76 : CV "KiteYardsLaw" 76 yK_drops := ⟨mT (i := 455) (by decide +kernel) rfl, mT (i := 456) (by decide +kernel) rfl, mT (i := 457) (by decide +kernel) rfl⟩
theorem kLaw_79 : CV "KiteYardsLaw" 79 yM_drops := ⟨mT (i := 843) (by decide +kernel) rfl, mT (i := 844) (by decide +kernel) rfl, mT (i := 845) (by decide +kernel) rfl⟩
theorem kLaw_80 : CV "KiteYardsLaw" 80 yK_share := ⟨mT (i := 459) (by decide +kernel) rfl, mT (i := 460) (by decide +kernel) rfl, mT (i := 461) (by decide +kernel) rfl⟩
theorem kLaw_84 : CV "KiteYardsLaw" 84 yM_share := ⟨mT (i := 847) (by decide +kernel) rfl, mT (i := 848) (by decide +kernel) rfl, mT (i := 849) (by decide +kernel) rfl⟩
theorem kLaw_85 : CV "KiteYardsLaw" 85 yK_arrives := ⟨mT (i := 489) (by decide +kernel) rfl, mT (i := 490) (by decide +kernel) rfl, mT (i := 491) (by decide +kernel) rfl⟩
theorem kLaw_88 : CV "KiteYardsLaw" 88 yM_arrives := ⟨mT (i := 870) (by decide +kernel) rfl, mT (i := 871) (by decide +kernel) rfl, mT (i := 872) (by decide +kernel) rfl⟩
theorem kLaw_89 : CV "KiteYardsLaw" 89 yK_sent := ⟨mT (i := 506) (by decide +kernel) rfl, mT (i := 507) (by decide +kernel) rfl, mT (i := 508) (by decide +kernel) rfl⟩
theorem kLaw_92 : CV "KiteYardsLaw" 92 yM_sent := ⟨mT (i := 885) (by decide +kernel) rfl, mT (i := 886) (by decide +kernel) rfl, mT (i := 887) (by decide +kernel) rfl⟩
theorem kLaw_93 : CV "KiteYardsLaw" 93 yK_taken := ⟨mT (i := 510) (by decide +kernel) rfl, mT (i := 511) (by decide +kernel) rfl, mT (i := 512) (by decide +kernel) rfl⟩
theorem kLaw_97 : CV "KiteYardsLaw" 97 yM_taken := ⟨mT (i := 889) (by decide +kernel) rfl, mT (i := 890) (by decide +kernel) rfl, mT (i := 891) (by decide +kernel) rfl⟩
theorem kLaw_98 : CV "KiteYardsLaw" 98 yK_seeAt := ⟨mT (i := 517) (by decide +kernel) rfl, mT (i := 518) (by decide +kernel) rfl, mT (i := 519) (by decide +kernel) rfl⟩
theorem kLaw_101 : CV "KiteYardsLaw" 101 yM_seeAt := ⟨mT (i := 893) (by decide +kernel) rfl, mT (i := 894) (by decide +kernel) rfl, mT (i := 895) (by decide +kernel) rfl⟩
theorem kLaw_102 : CV "KiteYardsLaw" 102 yK_unsee := ⟨mT (i := 526) (by decide +kernel) rfl, mT (i := 527) (by decide +kernel) rfl, mT (i := 528) (by decide +kernel) rfl⟩
theorem kLaw_105 : CV "KiteYardsLaw" 105 yM_unsee := ⟨mT (i := 898) (by decide +kernel) rfl, mT (i := 899) (by decide +kernel) rfl, mT (i := 900) (by decide +kernel) rfl⟩
theorem kLaw_106 : CV "KiteYardsLaw" 106 yK_winds := ⟨mT (i := 530) (by decide +kernel) rfl, mT (i := 531) (by decide +kernel) rfl, mT (i := 532) (by decide +kernel) rfl⟩
theorem kLaw_109 : CV "KiteYardsLaw" 109 yM_winds := ⟨mT (i := 902) (by decide +kernel) rfl, mT (i := 903) (by decide +kernel) rfl, mT (i := 904) (by decide +kernel) rfl⟩
theorem kLaw_110 : CV "KiteYardsLaw" 110 yK_rests := ⟨mT (i := 551) (by decide +kernel) rfl, mT (i := 552) (by decide +kernel) rfl, mT (i := 553) (by decide +kernel) rfl⟩
theorem kLaw_114 : CV "KiteYardsLaw" 114 yM_rests := ⟨mT (i := 910) (by decide +kernel) rfl, mT (i := 911) (by decide +kernel) rfl, mT (i := 912) (by decide +kernel) rfl⟩
theorem kLaw_115 : CV "KiteYardsLaw" 115 yK_gusts := ⟨mT (i := 567) (by decide +kernel) rfl, mT (i := 568) (by decide +kernel) rfl, mT (i := 569) (by decide +kernel) rfl⟩
theorem kLaw_119 : CV "KiteYardsLaw" 119 yM_gusts := ⟨mT (i := 924) (by decide +kernel) rfl, mT (i := 925) (by decide +kernel) rfl, mT (i := 926) (by decide +kernel) rfl⟩
theorem kLaw_122 : CV "KiteYardsLaw" 122 yK_seed := ⟨mT (i := 575) (by decide +kernel) rfl, mT (i := 576) (by decide +kernel) rfl, mT (i := 577) (by decide +kernel) rfl⟩
theorem kLaw_126 : CV "KiteYardsLaw" 126 yM_seed := ⟨mT (i := 929) (by decide +kernel) rfl, mT (i := 930) (by decide +kernel) rfl, mT (i := 931) (by decide +kernel) rfl⟩
theorem kLaw_127 : CV "KiteYardsLaw" 127 yK_afternoons := ⟨mT (i := 579) (by decide +kernel) rfl, mT (i := 580) (by decide +kernel) rfl, mT (i := 581) (by decide +kernel) rfl⟩
theorem kLaw_130 : CV "KiteYardsLaw" 130 yM_afternoons := ⟨mT (i := 933) (by decide +kernel) rfl, mT (i := 934) (by decide +kernel) rfl, mT (i := 935) (by decide +kernel) rfl⟩
theorem kLaw_131 : CV "KiteYardsLaw" 131 yK_keep := ⟨mT (i := 586) (by decide +kernel) rfl, mT (i := 587) (by decide +kernel) rfl, mT (i := 588) (by decide +kernel) rfl⟩
theorem kLaw_134 : CV "KiteYardsLaw" 134 yM_keep := ⟨mT (i := 940) (by decide +kernel) rfl, mT (i := 941) (by decide +kernel) rfl, mT (i := 942) (by decide +kernel) rfl⟩
theorem kLaw_135 : CV "KiteYardsLaw" 135 yK_again := ⟨mT (i := 594) (by decide +kernel) rfl, mT (i := 595) (by decide +kernel) rfl, mT (i := 596) (by decide +kernel) rfl⟩
theorem kLaw_138 : CV "KiteYardsLaw" 138 yM_again := ⟨mT (i := 944) (by decide +kernel) rfl, mT (i := 945) (by decide +kernel) rfl, mT (i := 946) (by decide +kernel) rfl⟩
theorem qInt_265 : Cond.constant "java/lang/Integer" 265 (1431655765) ∈ WT := mT (i := 466) (by decide +kernel) rfl
theorem qInt_266 : Cond.constant "java/lang/Integer" 266 (858993459) ∈ WT := mT (i := 467) (by decide +kernel) rfl
theorem qInt_267 : Cond.constant "java/lang/Integer" 267 (252645135) ∈ WT := mT (i := 468) (by decide +kernel) rfl
theorem qK_242 : Cond.constantLong "KiteYards" 242 (6364136223846793005) ∈ WT := mT (i := 583) (by decide +kernel) rfl
theorem qK_244 : Cond.constantLong "KiteYards" 244 (1442695040888963407) ∈ WT := mT (i := 584) (by decide +kernel) rfl
theorem qK_246 : Cond.constantLong "KiteYards" 246 (25) ∈ WT := mT (i := 585) (by decide +kernel) rfl
theorem qM_73 : Cond.constantLong "KiteYardsModel" 73 (255) ∈ WT := mT (i := 723) (by decide +kernel) rfl
theorem qM_138 : Cond.constantLong "KiteYardsModel" 138 (-9) ∈ WT := mT (i := 782) (by decide +kernel) rfl
theorem qM_140 : Cond.constantLong "KiteYardsModel" 140 (9) ∈ WT := mT (i := 783) (by decide +kernel) rfl
theorem qM_142 : Cond.constantLong "KiteYardsModel" 142 (30) ∈ WT := mT (i := 784) (by decide +kernel) rfl
theorem qM_147 : Cond.constantLong "KiteYardsModel" 147 (-2) ∈ WT := mT (i := 793) (by decide +kernel) rfl
theorem qM_149 : Cond.constantLong "KiteYardsModel" 149 (2) ∈ WT := mT (i := 794) (by decide +kernel) rfl
theorem qM_151 : Cond.constantLong "KiteYardsModel" 151 (-100) ∈ WT := mT (i := 811) (by decide +kernel) rfl
theorem qM_153 : Cond.constantLong "KiteYardsModel" 153 (100) ∈ WT := mT (i := 812) (by decide +kernel) rfl
theorem qM_198 : Cond.constantLong "KiteYardsModel" 198 (6) ∈ WT := mT (i := 877) (by decide +kernel) rfl
theorem qM_210 : Cond.constantLong "KiteYardsModel" 210 (-30) ∈ WT := mT (i := 897) (by decide +kernel) rfl
theorem qM_234 : Cond.constantLong "KiteYardsModel" 234 (-20) ∈ WT := mT (i := 914) (by decide +kernel) rfl
theorem qM_236 : Cond.constantLong "KiteYardsModel" 236 (20) ∈ WT := mT (i := 915) (by decide +kernel) rfl
theorem qM_242 : Cond.constantLong "KiteYardsModel" 242 (10) ∈ WT := mT (i := 928) (by decide +kernel) rfl
theorem qM_248 : Cond.constantLong "KiteYardsModel" 248 (6364136223846793005) ∈ WT := mT (i := 937) (by decide +kernel) rfl
theorem qM_250 : Cond.constantLong "KiteYardsModel" 250 (1442695040888963407) ∈ WT := mT (i := 938) (by decide +kernel) rfl
theorem qM_252 : Cond.constantLong "KiteYardsModel" 252 (25) ∈ WT := mT (i := 939) (by decide +kernel) rfl
theorem qLaw_120 : Cond.constantLong "KiteYardsLaw" 120 (4294967295) ∈ WT := mT (i := 948) (by decide +kernel) rfl
theorem wLaw_7 : NW "KiteYardsLaw" 7 8 [.null, .null, .null, .null, .null, .null, .long 0, .null, .null, .null, .null, .null] 12 := ⟨_, rfl, by decide +kernel, rfl, mT (i := 13) (by decide +kernel) rfl, mT (i := 14) (by decide +kernel) rfl, mT (i := 1) (by decide +kernel) rfl⟩
theorem wK_7 : NW "KiteYards" 7 6 [.null, .int 0] 2 := ⟨_, rfl, by decide +kernel, rfl, mT (i := 21) (by decide +kernel) rfl, mT (i := 22) (by decide +kernel) rfl, mT (i := 2) (by decide +kernel) rfl⟩
theorem wK_16 : NW "KiteYards" 16 2 [.int 0, .int 0, .int 0, .int 0, .int 0, .null, .null, .null] 8 := ⟨_, rfl, by decide +kernel, rfl, mT (i := 36) (by decide +kernel) rfl, mT (i := 37) (by decide +kernel) rfl, mT (i := 3) (by decide +kernel) rfl⟩
theorem wK_23 : NW "KiteYards" 23 3 [.null, .int 0] 2 := ⟨_, rfl, by decide +kernel, rfl, mT (i := 91) (by decide +kernel) rfl, mT (i := 92) (by decide +kernel) rfl, mT (i := 4) (by decide +kernel) rfl⟩
theorem wK_42 : NW "KiteYards" 42 4 [.null, .null, .int 0] 3 := ⟨_, rfl, by decide +kernel, rfl, mT (i := 113) (by decide +kernel) rfl, mT (i := 114) (by decide +kernel) rfl, mT (i := 6) (by decide +kernel) rfl⟩
theorem wK_56 : NW "KiteYards" 56 1 [.null, .null, .int 0, .int 0] 4 := ⟨_, rfl, by decide +kernel, rfl, mT (i := 131) (by decide +kernel) rfl, mT (i := 132) (by decide +kernel) rfl, mT (i := 7) (by decide +kernel) rfl⟩
theorem wK_63 : NW "KiteYards" 63 7 [.null, .int 0, .int 0] 3 := ⟨_, rfl, by decide +kernel, rfl, mT (i := 155) (by decide +kernel) rfl, mT (i := 156) (by decide +kernel) rfl, mT (i := 8) (by decide +kernel) rfl⟩
theorem wK_70 : NW "KiteYards" 70 0 [.int 0, .int 0] 2 := ⟨_, rfl, by decide +kernel, rfl, mT (i := 172) (by decide +kernel) rfl, mT (i := 173) (by decide +kernel) rfl, mT (i := 9) (by decide +kernel) rfl⟩
theorem wK_77 : NW "KiteYards" 77 5 [.int 0, .int 0] 2 := ⟨_, rfl, by decide +kernel, rfl, mT (i := 187) (by decide +kernel) rfl, mT (i := 188) (by decide +kernel) rfl, mT (i := 10) (by decide +kernel) rfl⟩
theorem wLaw_10 : NW "KiteYardsLaw" 10 9 [.int 0, .null, .int 0, .int 0, .int 0, .int 0, .null, .int 0, .int 0, .int 0, .int 0, .int 0, .null, .null, .null, .null, .null, .null, .int 0, .null, .null, .int 0, .null, .null, .long 0, .null, .null, .null, .null, .int 0, .int 0, .int 0, .int 0, .int 0, .int 0, .int 0, .int 0, .null] 38 := ⟨_, rfl, by decide +kernel, rfl, mT (i := 598) (by decide +kernel) rfl, mT (i := 599) (by decide +kernel) rfl, mT (i := 11) (by decide +kernel) rfl⟩
theorem aI : Cond.arrayClass .int ∈ WT := mT (i := 35) (by decide +kernel) rfl
theorem aZ : Cond.arrayClass .boolean ∈ WT := mT (i := 130) (by decide +kernel) rfl
end
section
theorem cText_init_0 : Dc yText_init 0 (.aload_n 0) 1 1 := ⟨by decide +kernel, rfl⟩
theorem cText_init_1 : Dc yText_init 1 (.invokespecial 3) 3 4 := ⟨by decide +kernel, rfl⟩
theorem cText_init_4 : Dc yText_init 4 (.aload_n 0) 1 5 := ⟨by decide +kernel, rfl⟩
theorem cText_init_5 : Dc yText_init 5 (.bipush 32) 2 7 := ⟨by decide +kernel, rfl⟩
theorem cText_init_7 : Dc yText_init 7 (.newarray .int) 2 9 := ⟨by decide +kernel, rfl⟩
theorem cText_init_9 : Dc yText_init 9 (.putfield 9) 3 12 := ⟨by decide +kernel, rfl⟩
theorem cText_init_12 : Dc yText_init 12 (.return_) 1 13 := ⟨by decide +kernel, rfl⟩
theorem cLine_init_0 : Dc yLine_init 0 (.aload_n 0) 1 1 := ⟨by decide +kernel, rfl⟩
theorem cLine_init_1 : Dc yLine_init 1 (.invokespecial 3) 3 4 := ⟨by decide +kernel, rfl⟩
theorem cLine_init_4 : Dc yLine_init 4 (.aload_n 0) 1 5 := ⟨by decide +kernel, rfl⟩
theorem cLine_init_5 : Dc yLine_init 5 (.iconst 1) 1 6 := ⟨by decide +kernel, rfl⟩
theorem cLine_init_6 : Dc yLine_init 6 (.putfield 9) 3 9 := ⟨by decide +kernel, rfl⟩
theorem cLine_init_9 : Dc yLine_init 9 (.aload_n 0) 1 10 := ⟨by decide +kernel, rfl⟩
theorem cLine_init_10 : Dc yLine_init 10 (.iconst 5) 1 11 := ⟨by decide +kernel, rfl⟩
theorem cLine_init_11 : Dc yLine_init 11 (.newarray .int) 2 13 := ⟨by decide +kernel, rfl⟩
theorem cLine_init_13 : Dc yLine_init 13 (.putfield 15) 3 16 := ⟨by decide +kernel, rfl⟩
theorem cLine_init_16 : Dc yLine_init 16 (.aload_n 0) 1 17 := ⟨by decide +kernel, rfl⟩
theorem cLine_init_17 : Dc yLine_init 17 (.iconst 5) 1 18 := ⟨by decide +kernel, rfl⟩
theorem cLine_init_18 : Dc yLine_init 18 (.newarray .int) 2 20 := ⟨by decide +kernel, rfl⟩
theorem cLine_init_20 : Dc yLine_init 20 (.putfield 19) 3 23 := ⟨by decide +kernel, rfl⟩
theorem cLine_init_23 : Dc yLine_init 23 (.aload_n 0) 1 24 := ⟨by decide +kernel, rfl⟩
theorem cLine_init_24 : Dc yLine_init 24 (.iconst 5) 1 25 := ⟨by decide +kernel, rfl⟩
theorem cLine_init_25 : Dc yLine_init 25 (.newarray .int) 2 27 := ⟨by decide +kernel, rfl⟩
theorem cLine_init_27 : Dc yLine_init 27 (.putfield 22) 3 30 := ⟨by decide +kernel, rfl⟩
theorem cLine_init_30 : Dc yLine_init 30 (.return_) 1 31 := ⟨by decide +kernel, rfl⟩
theorem cPast_init_0 : Dc yPast_init 0 (.aload_n 0) 1 1 := ⟨by decide +kernel, rfl⟩
theorem cPast_init_1 : Dc yPast_init 1 (.invokespecial 3) 3 4 := ⟨by decide +kernel, rfl⟩
theorem cPast_init_4 : Dc yPast_init 4 (.aload_n 0) 1 5 := ⟨by decide +kernel, rfl⟩
theorem cPast_init_5 : Dc yPast_init 5 (.bipush 14) 2 7 := ⟨by decide +kernel, rfl⟩
theorem cPast_init_7 : Dc yPast_init 7 (.invokestatic 9) 3 10 := ⟨by decide +kernel, rfl⟩
theorem cPast_init_10 : Dc yPast_init 10 (.putfield 13) 3 13 := ⟨by decide +kernel, rfl⟩
theorem cPast_init_13 : Dc yPast_init 13 (.return_) 1 14 := ⟨by decide +kernel, rfl⟩
theorem cMath_max_0 : Dc yMath_max 0 (.iload_n 0) 1 1 := ⟨by decide +kernel, rfl⟩
theorem cMath_max_1 : Dc yMath_max 1 (.iload_n 1) 1 2 := ⟨by decide +kernel, rfl⟩
theorem cMath_max_2 : Db yMath_max 2 (.if_icmp .lt 7) 3 5 (7) 9 := ⟨by decide +kernel, rfl, by decide⟩
theorem cMath_max_5 : Dc yMath_max 5 (.iload_n 0) 1 6 := ⟨by decide +kernel, rfl⟩
theorem cMath_max_6 : Db yMath_max 6 (.goto 4) 3 9 (4) 10 := ⟨by decide +kernel, rfl, by decide⟩
theorem cMath_max_9 : Dc yMath_max 9 (.iload_n 1) 1 10 := ⟨by decide +kernel, rfl⟩
theorem cMath_max_10 : Dc yMath_max 10 (.ireturn) 1 11 := ⟨by decide +kernel, rfl⟩
theorem cSightings_init_0 : Dc ySightings_init 0 (.aload_n 0) 1 1 := ⟨by decide +kernel, rfl⟩
theorem cSightings_init_1 : Dc ySightings_init 1 (.invokespecial 3) 3 4 := ⟨by decide +kernel, rfl⟩
theorem cSightings_init_4 : Dc ySightings_init 4 (.aload_n 0) 1 5 := ⟨by decide +kernel, rfl⟩
theorem cSightings_init_5 : Dc ySightings_init 5 (.bipush 6) 2 7 := ⟨by decide +kernel, rfl⟩
theorem cSightings_init_7 : Dc ySightings_init 7 (.newarray .int) 2 9 := ⟨by decide +kernel, rfl⟩
theorem cSightings_init_9 : Dc ySightings_init 9 (.putfield 9) 3 12 := ⟨by decide +kernel, rfl⟩
theorem cSightings_init_12 : Dc ySightings_init 12 (.aload_n 0) 1 13 := ⟨by decide +kernel, rfl⟩
theorem cSightings_init_13 : Dc ySightings_init 13 (.bipush 6) 2 15 := ⟨by decide +kernel, rfl⟩
theorem cSightings_init_15 : Dc ySightings_init 15 (.newarray .int) 2 17 := ⟨by decide +kernel, rfl⟩
theorem cSightings_init_17 : Dc ySightings_init 17 (.putfield 15) 3 20 := ⟨by decide +kernel, rfl⟩
theorem cSightings_init_20 : Dc ySightings_init 20 (.return_) 1 21 := ⟨by decide +kernel, rfl⟩
theorem cFlight_init_0 : Dc yFlight_init 0 (.aload_n 0) 1 1 := ⟨by decide +kernel, rfl⟩
theorem cFlight_init_1 : Dc yFlight_init 1 (.invokespecial 3) 3 4 := ⟨by decide +kernel, rfl⟩
theorem cFlight_init_4 : Dc yFlight_init 4 (.aload_n 0) 1 5 := ⟨by decide +kernel, rfl⟩
theorem cFlight_init_5 : Dc yFlight_init 5 (.iconst 5) 1 6 := ⟨by decide +kernel, rfl⟩
theorem cFlight_init_6 : Dc yFlight_init 6 (.newarray .int) 2 8 := ⟨by decide +kernel, rfl⟩
theorem cFlight_init_8 : Dc yFlight_init 8 (.putfield 9) 3 11 := ⟨by decide +kernel, rfl⟩
theorem cFlight_init_11 : Dc yFlight_init 11 (.aload_n 0) 1 12 := ⟨by decide +kernel, rfl⟩
theorem cFlight_init_12 : Dc yFlight_init 12 (.iconst 5) 1 13 := ⟨by decide +kernel, rfl⟩
theorem cFlight_init_13 : Dc yFlight_init 13 (.newarray .int) 2 15 := ⟨by decide +kernel, rfl⟩
theorem cFlight_init_15 : Dc yFlight_init 15 (.putfield 15) 3 18 := ⟨by decide +kernel, rfl⟩
theorem cFlight_init_18 : Dc yFlight_init 18 (.return_) 1 19 := ⟨by decide +kernel, rfl⟩
theorem cWay_init_0 : Dc yWay_init 0 (.aload_n 0) 1 1 := ⟨by decide +kernel, rfl⟩
theorem cWay_init_1 : Dc yWay_init 1 (.invokespecial 3) 3 4 := ⟨by decide +kernel, rfl⟩
theorem cWay_init_4 : Dc yWay_init 4 (.aload_n 0) 1 5 := ⟨by decide +kernel, rfl⟩
theorem cWay_init_5 : Dc yWay_init 5 (.iconst 5) 1 6 := ⟨by decide +kernel, rfl⟩
theorem cWay_init_6 : Dc yWay_init 6 (.newarray .int) 2 8 := ⟨by decide +kernel, rfl⟩
theorem cWay_init_8 : Dc yWay_init 8 (.putfield 9) 3 11 := ⟨by decide +kernel, rfl⟩
theorem cWay_init_11 : Dc yWay_init 11 (.return_) 1 12 := ⟨by decide +kernel, rfl⟩
theorem cBest_init_0 : Dc yBest_init 0 (.aload_n 0) 1 1 := ⟨by decide +kernel, rfl⟩
theorem cBest_init_1 : Dc yBest_init 1 (.invokespecial 3) 3 4 := ⟨by decide +kernel, rfl⟩
theorem cBest_init_4 : Dc yBest_init 4 (.aload_n 0) 1 5 := ⟨by decide +kernel, rfl⟩
theorem cBest_init_5 : Dc yBest_init 5 (.bipush (-9)) 2 7 := ⟨by decide +kernel, rfl⟩
theorem cBest_init_7 : Dc yBest_init 7 (.putfield 9) 3 10 := ⟨by decide +kernel, rfl⟩
theorem cBest_init_10 : Dc yBest_init 10 (.aload_n 0) 1 11 := ⟨by decide +kernel, rfl⟩
theorem cBest_init_11 : Dc yBest_init 11 (.bipush (-9)) 2 13 := ⟨by decide +kernel, rfl⟩
theorem cBest_init_13 : Dc yBest_init 13 (.putfield 15) 3 16 := ⟨by decide +kernel, rfl⟩
theorem cBest_init_16 : Dc yBest_init 16 (.return_) 1 17 := ⟨by decide +kernel, rfl⟩
theorem cTally_init_0 : Dc yTally_init 0 (.aload_n 0) 1 1 := ⟨by decide +kernel, rfl⟩
theorem cTally_init_1 : Dc yTally_init 1 (.invokespecial 3) 3 4 := ⟨by decide +kernel, rfl⟩
theorem cTally_init_4 : Dc yTally_init 4 (.aload_n 0) 1 5 := ⟨by decide +kernel, rfl⟩
theorem cTally_init_5 : Dc yTally_init 5 (.bipush (-9)) 2 7 := ⟨by decide +kernel, rfl⟩
theorem cTally_init_7 : Dc yTally_init 7 (.putfield 9) 3 10 := ⟨by decide +kernel, rfl⟩
theorem cTally_init_10 : Dc yTally_init 10 (.return_) 1 11 := ⟨by decide +kernel, rfl⟩
theorem cText_append_0 : Dc yText_append 0 (.aload_n 0) 1 1 := ⟨by decide +kernel, rfl⟩
theorem cText_append_1 : Dc yText_append 1 (.getfield 9) 3 4 := ⟨by decide +kernel, rfl⟩
theorem cText_append_4 : Dc yText_append 4 (.aload_n 0) 1 5 := ⟨by decide +kernel, rfl⟩
theorem cText_append_5 : Dc yText_append 5 (.getfield 15) 3 8 := ⟨by decide +kernel, rfl⟩
theorem cText_append_8 : Dc yText_append 8 (.iload_n 1) 1 9 := ⟨by decide +kernel, rfl⟩
theorem cText_append_9 : Dc yText_append 9 (.invokestatic 19) 3 12 := ⟨by decide +kernel, rfl⟩
theorem cText_append_12 : Dc yText_append 12 (.aload_n 0) 1 13 := ⟨by decide +kernel, rfl⟩
theorem cText_append_13 : Dc yText_append 13 (.dup) 1 14 := ⟨by decide +kernel, rfl⟩
theorem cText_append_14 : Dc yText_append 14 (.getfield 15) 3 17 := ⟨by decide +kernel, rfl⟩
theorem cText_append_17 : Dc yText_append 17 (.iconst 1) 1 18 := ⟨by decide +kernel, rfl⟩
theorem cText_append_18 : Dc yText_append 18 (.iadd) 1 19 := ⟨by decide +kernel, rfl⟩
theorem cText_append_19 : Dc yText_append 19 (.putfield 15) 3 22 := ⟨by decide +kernel, rfl⟩
theorem cText_append_22 : Dc yText_append 22 (.aload_n 0) 1 23 := ⟨by decide +kernel, rfl⟩
theorem cText_append_23 : Dc yText_append 23 (.getfield 15) 3 26 := ⟨by decide +kernel, rfl⟩
theorem cText_append_26 : Dc yText_append 26 (.ireturn) 1 27 := ⟨by decide +kernel, rfl⟩
theorem cText_firstFault_0 : Dc yText_firstFault 0 (.iconst 0) 1 1 := ⟨by decide +kernel, rfl⟩
theorem cText_firstFault_1 : Dc yText_firstFault 1 (.istore_n 1) 1 2 := ⟨by decide +kernel, rfl⟩
theorem cText_firstFault_2 : Dc yText_firstFault 2 (.iload_n 1) 1 3 := ⟨by decide +kernel, rfl⟩
theorem cText_firstFault_3 : Dc yText_firstFault 3 (.aload_n 0) 1 4 := ⟨by decide +kernel, rfl⟩
theorem cText_firstFault_4 : Dc yText_firstFault 4 (.getfield 15) 3 7 := ⟨by decide +kernel, rfl⟩
theorem cText_firstFault_7 : Db yText_firstFault 7 (.if_icmp .ge 27) 3 10 (27) 34 := ⟨by decide +kernel, rfl, by decide⟩
theorem cText_firstFault_10 : Dc yText_firstFault 10 (.aload_n 0) 1 11 := ⟨by decide +kernel, rfl⟩
theorem cText_firstFault_11 : Dc yText_firstFault 11 (.iload_n 1) 1 12 := ⟨by decide +kernel, rfl⟩
theorem cText_firstFault_12 : Dc yText_firstFault 12 (.aload_n 0) 1 13 := ⟨by decide +kernel, rfl⟩
theorem cText_firstFault_13 : Dc yText_firstFault 13 (.getfield 9) 3 16 := ⟨by decide +kernel, rfl⟩
theorem cText_firstFault_16 : Dc yText_firstFault 16 (.iload_n 1) 1 17 := ⟨by decide +kernel, rfl⟩
theorem cText_firstFault_17 : Dc yText_firstFault 17 (.invokestatic 23) 3 20 := ⟨by decide +kernel, rfl⟩
theorem cText_firstFault_20 : Dc yText_firstFault 20 (.invokevirtual 27) 3 23 := ⟨by decide +kernel, rfl⟩
theorem cText_firstFault_23 : Db yText_firstFault 23 (.ifCond .ne 5) 3 26 (5) 28 := ⟨by decide +kernel, rfl, by decide⟩
theorem cText_firstFault_26 : Dc yText_firstFault 26 (.iload_n 1) 1 27 := ⟨by decide +kernel, rfl⟩
theorem cText_firstFault_27 : Dc yText_firstFault 27 (.ireturn) 1 28 := ⟨by decide +kernel, rfl⟩
theorem cText_firstFault_28 : Dc yText_firstFault 28 (.iinc 1 1) 3 31 := ⟨by decide +kernel, rfl⟩
theorem cText_firstFault_31 : Db yText_firstFault 31 (.goto (-29)) 3 34 (-29) 2 := ⟨by decide +kernel, rfl, by decide⟩
theorem cText_firstFault_34 : Dc yText_firstFault 34 (.aload_n 0) 1 35 := ⟨by decide +kernel, rfl⟩
theorem cText_firstFault_35 : Dc yText_firstFault 35 (.getfield 15) 3 38 := ⟨by decide +kernel, rfl⟩
theorem cText_firstFault_38 : Dc yText_firstFault 38 (.bipush 6) 2 40 := ⟨by decide +kernel, rfl⟩
theorem cText_firstFault_40 : Db yText_firstFault 40 (.if_icmp .lt 19) 3 43 (19) 59 := ⟨by decide +kernel, rfl, by decide⟩
theorem cText_firstFault_43 : Dc yText_firstFault 43 (.aload_n 0) 1 44 := ⟨by decide +kernel, rfl⟩
theorem cText_firstFault_44 : Dc yText_firstFault 44 (.getfield 15) 3 47 := ⟨by decide +kernel, rfl⟩
theorem cText_firstFault_47 : Dc yText_firstFault 47 (.bipush 6) 2 49 := ⟨by decide +kernel, rfl⟩
theorem cText_firstFault_49 : Dc yText_firstFault 49 (.isub) 1 50 := ⟨by decide +kernel, rfl⟩
theorem cText_firstFault_50 : Dc yText_firstFault 50 (.iconst 4) 1 51 := ⟨by decide +kernel, rfl⟩
theorem cText_firstFault_51 : Dc yText_firstFault 51 (.irem) 1 52 := ⟨by decide +kernel, rfl⟩
theorem cText_firstFault_52 : Db yText_firstFault 52 (.ifCond .ne 7) 3 55 (7) 59 := ⟨by decide +kernel, rfl, by decide⟩
theorem cText_firstFault_55 : Dc yText_firstFault 55 (.iconst 1) 1 56 := ⟨by decide +kernel, rfl⟩
theorem cText_firstFault_56 : Db yText_firstFault 56 (.goto 4) 3 59 (4) 60 := ⟨by decide +kernel, rfl, by decide⟩
theorem cText_firstFault_59 : Dc yText_firstFault 59 (.iconst 0) 1 60 := ⟨by decide +kernel, rfl⟩
theorem cText_firstFault_60 : Dc yText_firstFault 60 (.istore_n 1) 1 61 := ⟨by decide +kernel, rfl⟩
theorem cText_firstFault_61 : Dc yText_firstFault 61 (.iload_n 1) 1 62 := ⟨by decide +kernel, rfl⟩
theorem cText_firstFault_62 : Db yText_firstFault 62 (.ifCond .eq 8) 3 65 (8) 70 := ⟨by decide +kernel, rfl, by decide⟩
theorem cText_firstFault_65 : Dc yText_firstFault 65 (.bipush (-9)) 2 67 := ⟨by decide +kernel, rfl⟩
theorem cText_firstFault_67 : Db yText_firstFault 67 (.goto 7) 3 70 (7) 74 := ⟨by decide +kernel, rfl, by decide⟩
theorem cText_firstFault_70 : Dc yText_firstFault 70 (.aload_n 0) 1 71 := ⟨by decide +kernel, rfl⟩
theorem cText_firstFault_71 : Dc yText_firstFault 71 (.getfield 15) 3 74 := ⟨by decide +kernel, rfl⟩
theorem cText_firstFault_74 : Dc yText_firstFault 74 (.ireturn) 1 75 := ⟨by decide +kernel, rfl⟩
theorem cText_fits_0 : Dc yText_fits 0 (.iload_n 1) 1 1 := ⟨by decide +kernel, rfl⟩
theorem cText_fits_1 : decode (yB yText_fits) 1 = .ok (.tableswitch 141 0 5 #[39, 51, 51, 69, 87, 123], 39) := by decide +kernel
theorem cText_fits_40 : Dc yText_fits 40 (.iload_n 2) 1 41 := ⟨by decide +kernel, rfl⟩
theorem cText_fits_41 : Dc yText_fits 41 (.bipush 75) 2 43 := ⟨by decide +kernel, rfl⟩
theorem cText_fits_43 : Db yText_fits 43 (.if_icmp .ne 7) 3 46 (7) 50 := ⟨by decide +kernel, rfl, by decide⟩
theorem cText_fits_46 : Dc yText_fits 46 (.iconst 1) 1 47 := ⟨by decide +kernel, rfl⟩
theorem cText_fits_47 : Db yText_fits 47 (.goto 4) 3 50 (4) 51 := ⟨by decide +kernel, rfl, by decide⟩
theorem cText_fits_50 : Dc yText_fits 50 (.iconst 0) 1 51 := ⟨by decide +kernel, rfl⟩
theorem cText_fits_51 : Dc yText_fits 51 (.ireturn) 1 52 := ⟨by decide +kernel, rfl⟩
theorem cText_fits_52 : Dc yText_fits 52 (.iload_n 2) 1 53 := ⟨by decide +kernel, rfl⟩
theorem cText_fits_53 : Dc yText_fits 53 (.bipush 48) 2 55 := ⟨by decide +kernel, rfl⟩
theorem cText_fits_55 : Db yText_fits 55 (.if_icmp .lt 13) 3 58 (13) 68 := ⟨by decide +kernel, rfl, by decide⟩
theorem cText_fits_58 : Dc yText_fits 58 (.iload_n 2) 1 59 := ⟨by decide +kernel, rfl⟩
theorem cText_fits_59 : Dc yText_fits 59 (.bipush 52) 2 61 := ⟨by decide +kernel, rfl⟩
theorem cText_fits_61 : Db yText_fits 61 (.if_icmp .gt 7) 3 64 (7) 68 := ⟨by decide +kernel, rfl, by decide⟩
theorem cText_fits_64 : Dc yText_fits 64 (.iconst 1) 1 65 := ⟨by decide +kernel, rfl⟩
theorem cText_fits_65 : Db yText_fits 65 (.goto 4) 3 68 (4) 69 := ⟨by decide +kernel, rfl, by decide⟩
theorem cText_fits_68 : Dc yText_fits 68 (.iconst 0) 1 69 := ⟨by decide +kernel, rfl⟩
theorem cText_fits_69 : Dc yText_fits 69 (.ireturn) 1 70 := ⟨by decide +kernel, rfl⟩
theorem cText_fits_70 : Dc yText_fits 70 (.iload_n 2) 1 71 := ⟨by decide +kernel, rfl⟩
theorem cText_fits_71 : Dc yText_fits 71 (.bipush 48) 2 73 := ⟨by decide +kernel, rfl⟩
theorem cText_fits_73 : Db yText_fits 73 (.if_icmp .lt 13) 3 76 (13) 86 := ⟨by decide +kernel, rfl, by decide⟩
theorem cText_fits_76 : Dc yText_fits 76 (.iload_n 2) 1 77 := ⟨by decide +kernel, rfl⟩
theorem cText_fits_77 : Dc yText_fits 77 (.bipush 53) 2 79 := ⟨by decide +kernel, rfl⟩
theorem cText_fits_79 : Db yText_fits 79 (.if_icmp .gt 7) 3 82 (7) 86 := ⟨by decide +kernel, rfl, by decide⟩
theorem cText_fits_82 : Dc yText_fits 82 (.iconst 1) 1 83 := ⟨by decide +kernel, rfl⟩
theorem cText_fits_83 : Db yText_fits 83 (.goto 4) 3 86 (4) 87 := ⟨by decide +kernel, rfl, by decide⟩
theorem cText_fits_86 : Dc yText_fits 86 (.iconst 0) 1 87 := ⟨by decide +kernel, rfl⟩
theorem cText_fits_87 : Dc yText_fits 87 (.ireturn) 1 88 := ⟨by decide +kernel, rfl⟩
theorem cText_fits_88 : Dc yText_fits 88 (.iload_n 2) 1 89 := ⟨by decide +kernel, rfl⟩
theorem cText_fits_89 : Dc yText_fits 89 (.bipush 48) 2 91 := ⟨by decide +kernel, rfl⟩
theorem cText_fits_91 : Db yText_fits 91 (.if_icmp .lt 31) 3 94 (31) 122 := ⟨by decide +kernel, rfl, by decide⟩
theorem cText_fits_94 : Dc yText_fits 94 (.iload_n 2) 1 95 := ⟨by decide +kernel, rfl⟩
theorem cText_fits_95 : Dc yText_fits 95 (.aload_n 0) 1 96 := ⟨by decide +kernel, rfl⟩
theorem cText_fits_96 : Dc yText_fits 96 (.getfield 9) 3 99 := ⟨by decide +kernel, rfl⟩
theorem cText_fits_99 : Dc yText_fits 99 (.iconst 3) 1 100 := ⟨by decide +kernel, rfl⟩
theorem cText_fits_100 : Dc yText_fits 100 (.invokestatic 23) 3 103 := ⟨by decide +kernel, rfl⟩
theorem cText_fits_103 : Dc yText_fits 103 (.bipush 53) 2 105 := ⟨by decide +kernel, rfl⟩
theorem cText_fits_105 : Db yText_fits 105 (.if_icmp .ne 8) 3 108 (8) 113 := ⟨by decide +kernel, rfl, by decide⟩
theorem cText_fits_108 : Dc yText_fits 108 (.bipush 48) 2 110 := ⟨by decide +kernel, rfl⟩
theorem cText_fits_110 : Db yText_fits 110 (.goto 5) 3 113 (5) 115 := ⟨by decide +kernel, rfl, by decide⟩
theorem cText_fits_113 : Dc yText_fits 113 (.bipush 57) 2 115 := ⟨by decide +kernel, rfl⟩
theorem cText_fits_115 : Db yText_fits 115 (.if_icmp .gt 7) 3 118 (7) 122 := ⟨by decide +kernel, rfl, by decide⟩
theorem cText_fits_118 : Dc yText_fits 118 (.iconst 1) 1 119 := ⟨by decide +kernel, rfl⟩
theorem cText_fits_119 : Db yText_fits 119 (.goto 4) 3 122 (4) 123 := ⟨by decide +kernel, rfl, by decide⟩
theorem cText_fits_122 : Dc yText_fits 122 (.iconst 0) 1 123 := ⟨by decide +kernel, rfl⟩
theorem cText_fits_123 : Dc yText_fits 123 (.ireturn) 1 124 := ⟨by decide +kernel, rfl⟩
theorem cText_fits_124 : Dc yText_fits 124 (.iload_n 2) 1 125 := ⟨by decide +kernel, rfl⟩
theorem cText_fits_125 : Dc yText_fits 125 (.bipush 49) 2 127 := ⟨by decide +kernel, rfl⟩
theorem cText_fits_127 : Db yText_fits 127 (.if_icmp .lt 13) 3 130 (13) 140 := ⟨by decide +kernel, rfl, by decide⟩
theorem cText_fits_130 : Dc yText_fits 130 (.iload_n 2) 1 131 := ⟨by decide +kernel, rfl⟩
theorem cText_fits_131 : Dc yText_fits 131 (.bipush 57) 2 133 := ⟨by decide +kernel, rfl⟩
theorem cText_fits_133 : Db yText_fits 133 (.if_icmp .gt 7) 3 136 (7) 140 := ⟨by decide +kernel, rfl, by decide⟩
theorem cText_fits_136 : Dc yText_fits 136 (.iconst 1) 1 137 := ⟨by decide +kernel, rfl⟩
theorem cText_fits_137 : Db yText_fits 137 (.goto 4) 3 140 (4) 141 := ⟨by decide +kernel, rfl, by decide⟩
theorem cText_fits_140 : Dc yText_fits 140 (.iconst 0) 1 141 := ⟨by decide +kernel, rfl⟩
theorem cText_fits_141 : Dc yText_fits 141 (.ireturn) 1 142 := ⟨by decide +kernel, rfl⟩
theorem cText_fits_142 : Dc yText_fits 142 (.aload_n 0) 1 143 := ⟨by decide +kernel, rfl⟩
theorem cText_fits_143 : Dc yText_fits 143 (.iload_n 1) 1 144 := ⟨by decide +kernel, rfl⟩
theorem cText_fits_144 : Dc yText_fits 144 (.bipush 6) 2 146 := ⟨by decide +kernel, rfl⟩
theorem cText_fits_146 : Dc yText_fits 146 (.isub) 1 147 := ⟨by decide +kernel, rfl⟩
theorem cText_fits_147 : Dc yText_fits 147 (.iload_n 2) 1 148 := ⟨by decide +kernel, rfl⟩
theorem cText_fits_148 : Dc yText_fits 148 (.invokevirtual 31) 3 151 := ⟨by decide +kernel, rfl⟩
theorem cText_fits_151 : Dc yText_fits 151 (.ireturn) 1 152 := ⟨by decide +kernel, rfl⟩
theorem cText_fitsPart_0 : Dc yText_fitsPart 0 (.iload_n 1) 1 1 := ⟨by decide +kernel, rfl⟩
theorem cText_fitsPart_1 : Dc yText_fitsPart 1 (.bipush 20) 2 3 := ⟨by decide +kernel, rfl⟩
theorem cText_fitsPart_3 : Db yText_fitsPart 3 (.if_icmp .lt 5) 3 6 (5) 8 := ⟨by decide +kernel, rfl, by decide⟩
theorem cText_fitsPart_6 : Dc yText_fitsPart 6 (.iconst 0) 1 7 := ⟨by decide +kernel, rfl⟩
theorem cText_fitsPart_7 : Dc yText_fitsPart 7 (.ireturn) 1 8 := ⟨by decide +kernel, rfl⟩
theorem cText_fitsPart_8 : Dc yText_fitsPart 8 (.iload_n 1) 1 9 := ⟨by decide +kernel, rfl⟩
theorem cText_fitsPart_9 : Dc yText_fitsPart 9 (.iconst 4) 1 10 := ⟨by decide +kernel, rfl⟩
theorem cText_fitsPart_10 : Dc yText_fitsPart 10 (.irem) 1 11 := ⟨by decide +kernel, rfl⟩
theorem cText_fitsPart_11 : decode (yB yText_fitsPart) 11 = .ok (.tableswitch 73 0 2 #[25, 37, 55], 25) := by decide +kernel
theorem cText_fitsPart_36 : Dc yText_fitsPart 36 (.iload_n 2) 1 37 := ⟨by decide +kernel, rfl⟩
theorem cText_fitsPart_37 : Dc yText_fitsPart 37 (.bipush 89) 2 39 := ⟨by decide +kernel, rfl⟩
theorem cText_fitsPart_39 : Db yText_fitsPart 39 (.if_icmp .ne 7) 3 42 (7) 46 := ⟨by decide +kernel, rfl, by decide⟩
theorem cText_fitsPart_42 : Dc yText_fitsPart 42 (.iconst 1) 1 43 := ⟨by decide +kernel, rfl⟩
theorem cText_fitsPart_43 : Db yText_fitsPart 43 (.goto 4) 3 46 (4) 47 := ⟨by decide +kernel, rfl, by decide⟩
theorem cText_fitsPart_46 : Dc yText_fitsPart 46 (.iconst 0) 1 47 := ⟨by decide +kernel, rfl⟩
theorem cText_fitsPart_47 : Dc yText_fitsPart 47 (.ireturn) 1 48 := ⟨by decide +kernel, rfl⟩
theorem cText_fitsPart_48 : Dc yText_fitsPart 48 (.iload_n 2) 1 49 := ⟨by decide +kernel, rfl⟩
theorem cText_fitsPart_49 : Dc yText_fitsPart 49 (.bipush 49) 2 51 := ⟨by decide +kernel, rfl⟩
theorem cText_fitsPart_51 : Db yText_fitsPart 51 (.if_icmp .lt 13) 3 54 (13) 64 := ⟨by decide +kernel, rfl, by decide⟩
theorem cText_fitsPart_54 : Dc yText_fitsPart 54 (.iload_n 2) 1 55 := ⟨by decide +kernel, rfl⟩
theorem cText_fitsPart_55 : Dc yText_fitsPart 55 (.bipush 57) 2 57 := ⟨by decide +kernel, rfl⟩
theorem cText_fitsPart_57 : Db yText_fitsPart 57 (.if_icmp .gt 7) 3 60 (7) 64 := ⟨by decide +kernel, rfl, by decide⟩
theorem cText_fitsPart_60 : Dc yText_fitsPart 60 (.iconst 1) 1 61 := ⟨by decide +kernel, rfl⟩
theorem cText_fitsPart_61 : Db yText_fitsPart 61 (.goto 4) 3 64 (4) 65 := ⟨by decide +kernel, rfl, by decide⟩
theorem cText_fitsPart_64 : Dc yText_fitsPart 64 (.iconst 0) 1 65 := ⟨by decide +kernel, rfl⟩
theorem cText_fitsPart_65 : Dc yText_fitsPart 65 (.ireturn) 1 66 := ⟨by decide +kernel, rfl⟩
theorem cText_fitsPart_66 : Dc yText_fitsPart 66 (.iload_n 2) 1 67 := ⟨by decide +kernel, rfl⟩
theorem cText_fitsPart_67 : Dc yText_fitsPart 67 (.bipush 48) 2 69 := ⟨by decide +kernel, rfl⟩
theorem cText_fitsPart_69 : Db yText_fitsPart 69 (.if_icmp .lt 13) 3 72 (13) 82 := ⟨by decide +kernel, rfl, by decide⟩
theorem cText_fitsPart_72 : Dc yText_fitsPart 72 (.iload_n 2) 1 73 := ⟨by decide +kernel, rfl⟩
theorem cText_fitsPart_73 : Dc yText_fitsPart 73 (.bipush 52) 2 75 := ⟨by decide +kernel, rfl⟩
theorem cText_fitsPart_75 : Db yText_fitsPart 75 (.if_icmp .gt 7) 3 78 (7) 82 := ⟨by decide +kernel, rfl, by decide⟩
theorem cText_fitsPart_78 : Dc yText_fitsPart 78 (.iconst 1) 1 79 := ⟨by decide +kernel, rfl⟩
theorem cText_fitsPart_79 : Db yText_fitsPart 79 (.goto 4) 3 82 (4) 83 := ⟨by decide +kernel, rfl, by decide⟩
theorem cText_fitsPart_82 : Dc yText_fitsPart 82 (.iconst 0) 1 83 := ⟨by decide +kernel, rfl⟩
theorem cText_fitsPart_83 : Dc yText_fitsPart 83 (.ireturn) 1 84 := ⟨by decide +kernel, rfl⟩
theorem cText_fitsPart_84 : Dc yText_fitsPart 84 (.iload_n 2) 1 85 := ⟨by decide +kernel, rfl⟩
theorem cText_fitsPart_85 : Dc yText_fitsPart 85 (.bipush 48) 2 87 := ⟨by decide +kernel, rfl⟩
theorem cText_fitsPart_87 : Db yText_fitsPart 87 (.if_icmp .lt 13) 3 90 (13) 100 := ⟨by decide +kernel, rfl, by decide⟩
theorem cText_fitsPart_90 : Dc yText_fitsPart 90 (.iload_n 2) 1 91 := ⟨by decide +kernel, rfl⟩
theorem cText_fitsPart_91 : Dc yText_fitsPart 91 (.bipush 51) 2 93 := ⟨by decide +kernel, rfl⟩
theorem cText_fitsPart_93 : Db yText_fitsPart 93 (.if_icmp .gt 7) 3 96 (7) 100 := ⟨by decide +kernel, rfl, by decide⟩
theorem cText_fitsPart_96 : Dc yText_fitsPart 96 (.iconst 1) 1 97 := ⟨by decide +kernel, rfl⟩
theorem cText_fitsPart_97 : Db yText_fitsPart 97 (.goto 4) 3 100 (4) 101 := ⟨by decide +kernel, rfl, by decide⟩
theorem cText_fitsPart_100 : Dc yText_fitsPart 100 (.iconst 0) 1 101 := ⟨by decide +kernel, rfl⟩
theorem cText_fitsPart_101 : Dc yText_fitsPart 101 (.ireturn) 1 102 := ⟨by decide +kernel, rfl⟩
theorem cText_tell_0 : Dc yText_tell 0 (.aload_n 1) 1 1 := ⟨by decide +kernel, rfl⟩
theorem cText_tell_1 : Dc yText_tell 1 (.aload_n 0) 1 2 := ⟨by decide +kernel, rfl⟩
theorem cText_tell_2 : Dc yText_tell 2 (.iconst 1) 1 3 := ⟨by decide +kernel, rfl⟩
theorem cText_tell_3 : Dc yText_tell 3 (.invokevirtual 34) 3 6 := ⟨by decide +kernel, rfl⟩
theorem cText_tell_6 : Dc yText_tell 6 (.iconst 2) 1 7 := ⟨by decide +kernel, rfl⟩
theorem cText_tell_7 : Dc yText_tell 7 (.isub) 1 8 := ⟨by decide +kernel, rfl⟩
theorem cText_tell_8 : Dc yText_tell 8 (.putfield 38) 3 11 := ⟨by decide +kernel, rfl⟩
theorem cText_tell_11 : Dc yText_tell 11 (.aload_n 1) 1 12 := ⟨by decide +kernel, rfl⟩
theorem cText_tell_12 : Dc yText_tell 12 (.aload_n 0) 1 13 := ⟨by decide +kernel, rfl⟩
theorem cText_tell_13 : Dc yText_tell 13 (.iconst 2) 1 14 := ⟨by decide +kernel, rfl⟩
theorem cText_tell_14 : Dc yText_tell 14 (.invokevirtual 34) 3 17 := ⟨by decide +kernel, rfl⟩
theorem cText_tell_17 : Dc yText_tell 17 (.iconst 2) 1 18 := ⟨by decide +kernel, rfl⟩
theorem cText_tell_18 : Dc yText_tell 18 (.isub) 1 19 := ⟨by decide +kernel, rfl⟩
theorem cText_tell_19 : Dc yText_tell 19 (.putfield 43) 3 22 := ⟨by decide +kernel, rfl⟩
theorem cText_tell_22 : Dc yText_tell 22 (.aload_n 1) 1 23 := ⟨by decide +kernel, rfl⟩
theorem cText_tell_23 : Dc yText_tell 23 (.bipush 10) 2 25 := ⟨by decide +kernel, rfl⟩
theorem cText_tell_25 : Dc yText_tell 25 (.aload_n 0) 1 26 := ⟨by decide +kernel, rfl⟩
theorem cText_tell_26 : Dc yText_tell 26 (.iconst 3) 1 27 := ⟨by decide +kernel, rfl⟩
theorem cText_tell_27 : Dc yText_tell 27 (.invokevirtual 34) 3 30 := ⟨by decide +kernel, rfl⟩
theorem cText_tell_30 : Dc yText_tell 30 (.imul) 1 31 := ⟨by decide +kernel, rfl⟩
theorem cText_tell_31 : Dc yText_tell 31 (.aload_n 0) 1 32 := ⟨by decide +kernel, rfl⟩
theorem cText_tell_32 : Dc yText_tell 32 (.iconst 4) 1 33 := ⟨by decide +kernel, rfl⟩
theorem cText_tell_33 : Dc yText_tell 33 (.invokevirtual 34) 3 36 := ⟨by decide +kernel, rfl⟩
theorem cText_tell_36 : Dc yText_tell 36 (.iadd) 1 37 := ⟨by decide +kernel, rfl⟩
theorem cText_tell_37 : Dc yText_tell 37 (.putfield 46) 3 40 := ⟨by decide +kernel, rfl⟩
theorem cText_tell_40 : Dc yText_tell 40 (.aload_n 1) 1 41 := ⟨by decide +kernel, rfl⟩
theorem cText_tell_41 : Dc yText_tell 41 (.aload_n 0) 1 42 := ⟨by decide +kernel, rfl⟩
theorem cText_tell_42 : Dc yText_tell 42 (.iconst 5) 1 43 := ⟨by decide +kernel, rfl⟩
theorem cText_tell_43 : Dc yText_tell 43 (.invokevirtual 34) 3 46 := ⟨by decide +kernel, rfl⟩
theorem cText_tell_46 : Dc yText_tell 46 (.putfield 49) 3 49 := ⟨by decide +kernel, rfl⟩
theorem cText_tell_49 : Dc yText_tell 49 (.aload_n 1) 1 50 := ⟨by decide +kernel, rfl⟩
theorem cText_tell_50 : Dc yText_tell 50 (.iconst 5) 1 51 := ⟨by decide +kernel, rfl⟩
theorem cText_tell_51 : Dc yText_tell 51 (.aload_n 0) 1 52 := ⟨by decide +kernel, rfl⟩
theorem cText_tell_52 : Dc yText_tell 52 (.getfield 15) 3 55 := ⟨by decide +kernel, rfl⟩
theorem cText_tell_55 : Dc yText_tell 55 (.bipush 6) 2 57 := ⟨by decide +kernel, rfl⟩
theorem cText_tell_57 : Dc yText_tell 57 (.isub) 1 58 := ⟨by decide +kernel, rfl⟩
theorem cText_tell_58 : Dc yText_tell 58 (.iconst 4) 1 59 := ⟨by decide +kernel, rfl⟩
theorem cText_tell_59 : Dc yText_tell 59 (.idiv) 1 60 := ⟨by decide +kernel, rfl⟩
theorem cText_tell_60 : Dc yText_tell 60 (.invokestatic 52) 3 63 := ⟨by decide +kernel, rfl⟩
theorem cText_tell_63 : Dc yText_tell 63 (.putfield 58) 3 66 := ⟨by decide +kernel, rfl⟩
theorem cText_tell_66 : Dc yText_tell 66 (.iconst 0) 1 67 := ⟨by decide +kernel, rfl⟩
theorem cText_tell_67 : Dc yText_tell 67 (.istore_n 2) 1 68 := ⟨by decide +kernel, rfl⟩
theorem cText_tell_68 : Dc yText_tell 68 (.iload_n 2) 1 69 := ⟨by decide +kernel, rfl⟩
theorem cText_tell_69 : Dc yText_tell 69 (.aload_n 1) 1 70 := ⟨by decide +kernel, rfl⟩
theorem cText_tell_70 : Dc yText_tell 70 (.getfield 58) 3 73 := ⟨by decide +kernel, rfl⟩
theorem cText_tell_73 : Db yText_tell 73 (.if_icmp .ge 63) 3 76 (63) 136 := ⟨by decide +kernel, rfl, by decide⟩
theorem cText_tell_76 : Dc yText_tell 76 (.bipush 6) 2 78 := ⟨by decide +kernel, rfl⟩
theorem cText_tell_78 : Dc yText_tell 78 (.iconst 4) 1 79 := ⟨by decide +kernel, rfl⟩
theorem cText_tell_79 : Dc yText_tell 79 (.iload_n 2) 1 80 := ⟨by decide +kernel, rfl⟩
theorem cText_tell_80 : Dc yText_tell 80 (.imul) 1 81 := ⟨by decide +kernel, rfl⟩
theorem cText_tell_81 : Dc yText_tell 81 (.iadd) 1 82 := ⟨by decide +kernel, rfl⟩
theorem cText_tell_82 : Dc yText_tell 82 (.istore_n 3) 1 83 := ⟨by decide +kernel, rfl⟩
theorem cText_tell_83 : Dc yText_tell 83 (.aload_n 1) 1 84 := ⟨by decide +kernel, rfl⟩
theorem cText_tell_84 : Dc yText_tell 84 (.getfield 61) 3 87 := ⟨by decide +kernel, rfl⟩
theorem cText_tell_87 : Dc yText_tell 87 (.iload_n 2) 1 88 := ⟨by decide +kernel, rfl⟩
theorem cText_tell_88 : Dc yText_tell 88 (.aload_n 0) 1 89 := ⟨by decide +kernel, rfl⟩
theorem cText_tell_89 : Dc yText_tell 89 (.iload_n 3) 1 90 := ⟨by decide +kernel, rfl⟩
theorem cText_tell_90 : Dc yText_tell 90 (.iconst 1) 1 91 := ⟨by decide +kernel, rfl⟩
theorem cText_tell_91 : Dc yText_tell 91 (.iadd) 1 92 := ⟨by decide +kernel, rfl⟩
theorem cText_tell_92 : Dc yText_tell 92 (.invokevirtual 34) 3 95 := ⟨by decide +kernel, rfl⟩
theorem cText_tell_95 : Dc yText_tell 95 (.invokestatic 19) 3 98 := ⟨by decide +kernel, rfl⟩
theorem cText_tell_98 : Dc yText_tell 98 (.aload_n 1) 1 99 := ⟨by decide +kernel, rfl⟩
theorem cText_tell_99 : Dc yText_tell 99 (.getfield 64) 3 102 := ⟨by decide +kernel, rfl⟩
theorem cText_tell_102 : Dc yText_tell 102 (.iload_n 2) 1 103 := ⟨by decide +kernel, rfl⟩
theorem cText_tell_103 : Dc yText_tell 103 (.aload_n 0) 1 104 := ⟨by decide +kernel, rfl⟩
theorem cText_tell_104 : Dc yText_tell 104 (.iload_n 3) 1 105 := ⟨by decide +kernel, rfl⟩
theorem cText_tell_105 : Dc yText_tell 105 (.iconst 2) 1 106 := ⟨by decide +kernel, rfl⟩
theorem cText_tell_106 : Dc yText_tell 106 (.iadd) 1 107 := ⟨by decide +kernel, rfl⟩
theorem cText_tell_107 : Dc yText_tell 107 (.invokevirtual 34) 3 110 := ⟨by decide +kernel, rfl⟩
theorem cText_tell_110 : Dc yText_tell 110 (.iconst 2) 1 111 := ⟨by decide +kernel, rfl⟩
theorem cText_tell_111 : Dc yText_tell 111 (.isub) 1 112 := ⟨by decide +kernel, rfl⟩
theorem cText_tell_112 : Dc yText_tell 112 (.invokestatic 19) 3 115 := ⟨by decide +kernel, rfl⟩
theorem cText_tell_115 : Dc yText_tell 115 (.aload_n 1) 1 116 := ⟨by decide +kernel, rfl⟩
theorem cText_tell_116 : Dc yText_tell 116 (.getfield 67) 3 119 := ⟨by decide +kernel, rfl⟩
theorem cText_tell_119 : Dc yText_tell 119 (.iload_n 2) 1 120 := ⟨by decide +kernel, rfl⟩
theorem cText_tell_120 : Dc yText_tell 120 (.aload_n 0) 1 121 := ⟨by decide +kernel, rfl⟩
theorem cText_tell_121 : Dc yText_tell 121 (.iload_n 3) 1 122 := ⟨by decide +kernel, rfl⟩
theorem cText_tell_122 : Dc yText_tell 122 (.iconst 3) 1 123 := ⟨by decide +kernel, rfl⟩
theorem cText_tell_123 : Dc yText_tell 123 (.iadd) 1 124 := ⟨by decide +kernel, rfl⟩
theorem cText_tell_124 : Dc yText_tell 124 (.invokevirtual 34) 3 127 := ⟨by decide +kernel, rfl⟩
theorem cText_tell_127 : Dc yText_tell 127 (.invokestatic 19) 3 130 := ⟨by decide +kernel, rfl⟩
theorem cText_tell_130 : Dc yText_tell 130 (.iinc 2 1) 3 133 := ⟨by decide +kernel, rfl⟩
theorem cText_tell_133 : Db yText_tell 133 (.goto (-65)) 3 136 (-65) 68 := ⟨by decide +kernel, rfl, by decide⟩
theorem cText_tell_136 : Dc yText_tell 136 (.return_) 1 137 := ⟨by decide +kernel, rfl⟩
theorem cText_figure_0 : Dc yText_figure 0 (.aload_n 0) 1 1 := ⟨by decide +kernel, rfl⟩
theorem cText_figure_1 : Dc yText_figure 1 (.getfield 9) 3 4 := ⟨by decide +kernel, rfl⟩
theorem cText_figure_4 : Dc yText_figure 4 (.iload_n 1) 1 5 := ⟨by decide +kernel, rfl⟩
theorem cText_figure_5 : Dc yText_figure 5 (.invokestatic 23) 3 8 := ⟨by decide +kernel, rfl⟩
theorem cText_figure_8 : Dc yText_figure 8 (.bipush 48) 2 10 := ⟨by decide +kernel, rfl⟩
theorem cText_figure_10 : Dc yText_figure 10 (.isub) 1 11 := ⟨by decide +kernel, rfl⟩
theorem cText_figure_11 : Dc yText_figure 11 (.ireturn) 1 12 := ⟨by decide +kernel, rfl⟩
theorem cMath_min_0 : Dc yMath_min 0 (.iload_n 0) 1 1 := ⟨by decide +kernel, rfl⟩
theorem cMath_min_1 : Dc yMath_min 1 (.iload_n 1) 1 2 := ⟨by decide +kernel, rfl⟩
theorem cMath_min_2 : Db yMath_min 2 (.if_icmp .gt 7) 3 5 (7) 9 := ⟨by decide +kernel, rfl, by decide⟩
theorem cMath_min_5 : Dc yMath_min 5 (.iload_n 0) 1 6 := ⟨by decide +kernel, rfl⟩
theorem cMath_min_6 : Db yMath_min 6 (.goto 4) 3 9 (4) 10 := ⟨by decide +kernel, rfl, by decide⟩
theorem cMath_min_9 : Dc yMath_min 9 (.iload_n 1) 1 10 := ⟨by decide +kernel, rfl⟩
theorem cMath_min_10 : Dc yMath_min 10 (.ireturn) 1 11 := ⟨by decide +kernel, rfl⟩
theorem cPast_forget_0 : Dc yPast_forget 0 (.aload_n 0) 1 1 := ⟨by decide +kernel, rfl⟩
theorem cPast_forget_1 : Dc yPast_forget 1 (.iconst 0) 1 2 := ⟨by decide +kernel, rfl⟩
theorem cPast_forget_2 : Dc yPast_forget 2 (.putfield 19) 3 5 := ⟨by decide +kernel, rfl⟩
theorem cPast_forget_5 : Dc yPast_forget 5 (.return_) 1 6 := ⟨by decide +kernel, rfl⟩
theorem cLine_yardsFrom_0 : Dc yLine_yardsFrom 0 (.iconst 0) 1 1 := ⟨by decide +kernel, rfl⟩
theorem cLine_yardsFrom_1 : Dc yLine_yardsFrom 1 (.istore_n 2) 1 2 := ⟨by decide +kernel, rfl⟩
theorem cLine_yardsFrom_2 : Dc yLine_yardsFrom 2 (.iconst 0) 1 3 := ⟨by decide +kernel, rfl⟩
theorem cLine_yardsFrom_3 : Dc yLine_yardsFrom 3 (.iload_n 1) 1 4 := ⟨by decide +kernel, rfl⟩
theorem cLine_yardsFrom_4 : Dc yLine_yardsFrom 4 (.invokestatic 28) 3 7 := ⟨by decide +kernel, rfl⟩
theorem cLine_yardsFrom_7 : Dc yLine_yardsFrom 7 (.istore_n 3) 1 8 := ⟨by decide +kernel, rfl⟩
theorem cLine_yardsFrom_8 : Dc yLine_yardsFrom 8 (.iload_n 3) 1 9 := ⟨by decide +kernel, rfl⟩
theorem cLine_yardsFrom_9 : Dc yLine_yardsFrom 9 (.aload_n 0) 1 10 := ⟨by decide +kernel, rfl⟩
theorem cLine_yardsFrom_10 : Dc yLine_yardsFrom 10 (.getfield 25) 3 13 := ⟨by decide +kernel, rfl⟩
theorem cLine_yardsFrom_13 : Db yLine_yardsFrom 13 (.if_icmp .ge 20) 3 16 (20) 33 := ⟨by decide +kernel, rfl, by decide⟩
theorem cLine_yardsFrom_16 : Dc yLine_yardsFrom 16 (.iload_n 2) 1 17 := ⟨by decide +kernel, rfl⟩
theorem cLine_yardsFrom_17 : Dc yLine_yardsFrom 17 (.aload_n 0) 1 18 := ⟨by decide +kernel, rfl⟩
theorem cLine_yardsFrom_18 : Dc yLine_yardsFrom 18 (.getfield 15) 3 21 := ⟨by decide +kernel, rfl⟩
theorem cLine_yardsFrom_21 : Dc yLine_yardsFrom 21 (.iload_n 3) 1 22 := ⟨by decide +kernel, rfl⟩
theorem cLine_yardsFrom_22 : Dc yLine_yardsFrom 22 (.invokestatic 34) 3 25 := ⟨by decide +kernel, rfl⟩
theorem cLine_yardsFrom_25 : Dc yLine_yardsFrom 25 (.iadd) 1 26 := ⟨by decide +kernel, rfl⟩
theorem cLine_yardsFrom_26 : Dc yLine_yardsFrom 26 (.istore_n 2) 1 27 := ⟨by decide +kernel, rfl⟩
theorem cLine_yardsFrom_27 : Dc yLine_yardsFrom 27 (.iinc 3 1) 3 30 := ⟨by decide +kernel, rfl⟩
theorem cLine_yardsFrom_30 : Db yLine_yardsFrom 30 (.goto (-22)) 3 33 (-22) 8 := ⟨by decide +kernel, rfl, by decide⟩
theorem cLine_yardsFrom_33 : Dc yLine_yardsFrom 33 (.iload_n 2) 1 34 := ⟨by decide +kernel, rfl⟩
theorem cLine_yardsFrom_34 : Dc yLine_yardsFrom 34 (.ireturn) 1 35 := ⟨by decide +kernel, rfl⟩
theorem cFlight_follow_0 : Dc yFlight_follow 0 (.iconst 0) 1 1 := ⟨by decide +kernel, rfl⟩
theorem cFlight_follow_1 : Dc yFlight_follow 1 (.istore_n 2) 1 2 := ⟨by decide +kernel, rfl⟩
theorem cFlight_follow_2 : Dc yFlight_follow 2 (.iconst 0) 1 3 := ⟨by decide +kernel, rfl⟩
theorem cFlight_follow_3 : Dc yFlight_follow 3 (.istore_n 3) 1 4 := ⟨by decide +kernel, rfl⟩
theorem cFlight_follow_4 : Dc yFlight_follow 4 (.iconst 0) 1 5 := ⟨by decide +kernel, rfl⟩
theorem cFlight_follow_5 : Dc yFlight_follow 5 (.istore 4) 2 7 := ⟨by decide +kernel, rfl⟩
theorem cFlight_follow_7 : Dc yFlight_follow 7 (.aload_n 0) 1 8 := ⟨by decide +kernel, rfl⟩
theorem cFlight_follow_8 : Dc yFlight_follow 8 (.aload_n 1) 1 9 := ⟨by decide +kernel, rfl⟩
theorem cFlight_follow_9 : Dc yFlight_follow 9 (.getfield 18) 3 12 := ⟨by decide +kernel, rfl⟩
theorem cFlight_follow_12 : Dc yFlight_follow 12 (.putfield 24) 3 15 := ⟨by decide +kernel, rfl⟩
theorem cFlight_follow_15 : Dc yFlight_follow 15 (.aload_n 0) 1 16 := ⟨by decide +kernel, rfl⟩
theorem cFlight_follow_16 : Dc yFlight_follow 16 (.iconst 0) 1 17 := ⟨by decide +kernel, rfl⟩
theorem cFlight_follow_17 : Dc yFlight_follow 17 (.putfield 25) 3 20 := ⟨by decide +kernel, rfl⟩
theorem cFlight_follow_20 : Dc yFlight_follow 20 (.iconst 0) 1 21 := ⟨by decide +kernel, rfl⟩
theorem cFlight_follow_21 : Dc yFlight_follow 21 (.istore 5) 2 23 := ⟨by decide +kernel, rfl⟩
theorem cFlight_follow_23 : Dc yFlight_follow 23 (.iload 5) 2 25 := ⟨by decide +kernel, rfl⟩
theorem cFlight_follow_25 : Dc yFlight_follow 25 (.aload_n 0) 1 26 := ⟨by decide +kernel, rfl⟩
theorem cFlight_follow_26 : Dc yFlight_follow 26 (.getfield 24) 3 29 := ⟨by decide +kernel, rfl⟩
theorem cFlight_follow_29 : Db yFlight_follow 29 (.if_icmp .ge 127) 3 32 (127) 156 := ⟨by decide +kernel, rfl, by decide⟩
theorem cFlight_follow_32 : Dc yFlight_follow 32 (.iload_n 2) 1 33 := ⟨by decide +kernel, rfl⟩
theorem cFlight_follow_33 : Dc yFlight_follow 33 (.iconst 0) 1 34 := ⟨by decide +kernel, rfl⟩
theorem cFlight_follow_34 : Dc yFlight_follow 34 (.aload_n 1) 1 35 := ⟨by decide +kernel, rfl⟩
theorem cFlight_follow_35 : Dc yFlight_follow 35 (.getfield 28) 3 38 := ⟨by decide +kernel, rfl⟩
theorem cFlight_follow_38 : Dc yFlight_follow 38 (.iload 5) 2 40 := ⟨by decide +kernel, rfl⟩
theorem cFlight_follow_40 : Dc yFlight_follow 40 (.invokestatic 31) 3 43 := ⟨by decide +kernel, rfl⟩
theorem cFlight_follow_43 : Dc yFlight_follow 43 (.aload_n 1) 1 44 := ⟨by decide +kernel, rfl⟩
theorem cFlight_follow_44 : Dc yFlight_follow 44 (.getfield 35) 3 47 := ⟨by decide +kernel, rfl⟩
theorem cFlight_follow_47 : Dc yFlight_follow 47 (.iload 5) 2 49 := ⟨by decide +kernel, rfl⟩
theorem cFlight_follow_49 : Dc yFlight_follow 49 (.invokestatic 31) 3 52 := ⟨by decide +kernel, rfl⟩
theorem cFlight_follow_52 : Dc yFlight_follow 52 (.isub) 1 53 := ⟨by decide +kernel, rfl⟩
theorem cFlight_follow_53 : Dc yFlight_follow 53 (.invokestatic 38) 3 56 := ⟨by decide +kernel, rfl⟩
theorem cFlight_follow_56 : Dc yFlight_follow 56 (.iadd) 1 57 := ⟨by decide +kernel, rfl⟩
theorem cFlight_follow_57 : Dc yFlight_follow 57 (.istore_n 2) 1 58 := ⟨by decide +kernel, rfl⟩
theorem cFlight_follow_58 : Dc yFlight_follow 58 (.iload_n 2) 1 59 := ⟨by decide +kernel, rfl⟩
theorem cFlight_follow_59 : Dc yFlight_follow 59 (.aload_n 1) 1 60 := ⟨by decide +kernel, rfl⟩
theorem cFlight_follow_60 : Dc yFlight_follow 60 (.getfield 44) 3 63 := ⟨by decide +kernel, rfl⟩
theorem cFlight_follow_63 : Db yFlight_follow 63 (.if_icmp .ge 10) 3 66 (10) 73 := ⟨by decide +kernel, rfl, by decide⟩
theorem cFlight_follow_66 : Dc yFlight_follow 66 (.aload_n 1) 1 67 := ⟨by decide +kernel, rfl⟩
theorem cFlight_follow_67 : Dc yFlight_follow 67 (.getfield 47) 3 70 := ⟨by decide +kernel, rfl⟩
theorem cFlight_follow_70 : Db yFlight_follow 70 (.goto 7) 3 73 (7) 77 := ⟨by decide +kernel, rfl, by decide⟩
theorem cFlight_follow_73 : Dc yFlight_follow 73 (.aload_n 1) 1 74 := ⟨by decide +kernel, rfl⟩
theorem cFlight_follow_74 : Dc yFlight_follow 74 (.getfield 50) 3 77 := ⟨by decide +kernel, rfl⟩
theorem cFlight_follow_77 : Dc yFlight_follow 77 (.istore 6) 2 79 := ⟨by decide +kernel, rfl⟩
theorem cFlight_follow_79 : Dc yFlight_follow 79 (.iload 6) 2 81 := ⟨by decide +kernel, rfl⟩
theorem cFlight_follow_81 : Dc yFlight_follow 81 (.aload_n 1) 1 82 := ⟨by decide +kernel, rfl⟩
theorem cFlight_follow_82 : Dc yFlight_follow 82 (.getfield 53) 3 85 := ⟨by decide +kernel, rfl⟩
theorem cFlight_follow_85 : Dc yFlight_follow 85 (.iload 5) 2 87 := ⟨by decide +kernel, rfl⟩
theorem cFlight_follow_87 : Dc yFlight_follow 87 (.invokestatic 31) 3 90 := ⟨by decide +kernel, rfl⟩
theorem cFlight_follow_90 : Dc yFlight_follow 90 (.iadd) 1 91 := ⟨by decide +kernel, rfl⟩
theorem cFlight_follow_91 : Dc yFlight_follow 91 (.istore 7) 2 93 := ⟨by decide +kernel, rfl⟩
theorem cFlight_follow_93 : Dc yFlight_follow 93 (.iload_n 3) 1 94 := ⟨by decide +kernel, rfl⟩
theorem cFlight_follow_94 : Dc yFlight_follow 94 (.iload 7) 2 96 := ⟨by decide +kernel, rfl⟩
theorem cFlight_follow_96 : Dc yFlight_follow 96 (.iadd) 1 97 := ⟨by decide +kernel, rfl⟩
theorem cFlight_follow_97 : Dc yFlight_follow 97 (.istore_n 3) 1 98 := ⟨by decide +kernel, rfl⟩
theorem cFlight_follow_98 : Dc yFlight_follow 98 (.iload 7) 2 100 := ⟨by decide +kernel, rfl⟩
theorem cFlight_follow_100 : Dc yFlight_follow 100 (.iload 4) 2 102 := ⟨by decide +kernel, rfl⟩
theorem cFlight_follow_102 : Dc yFlight_follow 102 (.isub) 1 103 := ⟨by decide +kernel, rfl⟩
theorem cFlight_follow_103 : Dc yFlight_follow 103 (.invokestatic 56) 3 106 := ⟨by decide +kernel, rfl⟩
theorem cFlight_follow_106 : Dc yFlight_follow 106 (.aload_n 1) 1 107 := ⟨by decide +kernel, rfl⟩
theorem cFlight_follow_107 : Dc yFlight_follow 107 (.getfield 60) 3 110 := ⟨by decide +kernel, rfl⟩
theorem cFlight_follow_110 : Db yFlight_follow 110 (.if_icmp .le 16) 3 113 (16) 126 := ⟨by decide +kernel, rfl, by decide⟩
theorem cFlight_follow_113 : Dc yFlight_follow 113 (.aload_n 0) 1 114 := ⟨by decide +kernel, rfl⟩
theorem cFlight_follow_114 : Dc yFlight_follow 114 (.dup) 1 115 := ⟨by decide +kernel, rfl⟩
theorem cFlight_follow_115 : Dc yFlight_follow 115 (.getfield 25) 3 118 := ⟨by decide +kernel, rfl⟩
theorem cFlight_follow_118 : Dc yFlight_follow 118 (.iconst 1) 1 119 := ⟨by decide +kernel, rfl⟩
theorem cFlight_follow_119 : Dc yFlight_follow 119 (.iload 5) 2 121 := ⟨by decide +kernel, rfl⟩
theorem cFlight_follow_121 : Dc yFlight_follow 121 (.ishl) 1 122 := ⟨by decide +kernel, rfl⟩
theorem cFlight_follow_122 : Dc yFlight_follow 122 (.ior) 1 123 := ⟨by decide +kernel, rfl⟩
theorem cFlight_follow_123 : Dc yFlight_follow 123 (.putfield 25) 3 126 := ⟨by decide +kernel, rfl⟩
theorem cFlight_follow_126 : Dc yFlight_follow 126 (.aload_n 0) 1 127 := ⟨by decide +kernel, rfl⟩
theorem cFlight_follow_127 : Dc yFlight_follow 127 (.getfield 9) 3 130 := ⟨by decide +kernel, rfl⟩
theorem cFlight_follow_130 : Dc yFlight_follow 130 (.iload 5) 2 132 := ⟨by decide +kernel, rfl⟩
theorem cFlight_follow_132 : Dc yFlight_follow 132 (.iload_n 2) 1 133 := ⟨by decide +kernel, rfl⟩
theorem cFlight_follow_133 : Dc yFlight_follow 133 (.invokestatic 63) 3 136 := ⟨by decide +kernel, rfl⟩
theorem cFlight_follow_136 : Dc yFlight_follow 136 (.aload_n 0) 1 137 := ⟨by decide +kernel, rfl⟩
theorem cFlight_follow_137 : Dc yFlight_follow 137 (.getfield 15) 3 140 := ⟨by decide +kernel, rfl⟩
theorem cFlight_follow_140 : Dc yFlight_follow 140 (.iload 5) 2 142 := ⟨by decide +kernel, rfl⟩
theorem cFlight_follow_142 : Dc yFlight_follow 142 (.iload_n 3) 1 143 := ⟨by decide +kernel, rfl⟩
theorem cFlight_follow_143 : Dc yFlight_follow 143 (.invokestatic 63) 3 146 := ⟨by decide +kernel, rfl⟩
theorem cFlight_follow_146 : Dc yFlight_follow 146 (.iload 7) 2 148 := ⟨by decide +kernel, rfl⟩
theorem cFlight_follow_148 : Dc yFlight_follow 148 (.istore 4) 2 150 := ⟨by decide +kernel, rfl⟩
theorem cFlight_follow_150 : Dc yFlight_follow 150 (.iinc 5 1) 3 153 := ⟨by decide +kernel, rfl⟩
theorem cFlight_follow_153 : Db yFlight_follow 153 (.goto (-130)) 3 156 (-130) 23 := ⟨by decide +kernel, rfl, by decide⟩
theorem cFlight_follow_156 : Dc yFlight_follow 156 (.return_) 1 157 := ⟨by decide +kernel, rfl⟩
theorem cMath_abs_0 : Dc yMath_abs 0 (.iload_n 0) 1 1 := ⟨by decide +kernel, rfl⟩
theorem cMath_abs_1 : Db yMath_abs 1 (.ifCond .ge 8) 3 4 (8) 9 := ⟨by decide +kernel, rfl, by decide⟩
theorem cMath_abs_4 : Dc yMath_abs 4 (.iload_n 0) 1 5 := ⟨by decide +kernel, rfl⟩
theorem cMath_abs_5 : Dc yMath_abs 5 (.ineg) 1 6 := ⟨by decide +kernel, rfl⟩
theorem cMath_abs_6 : Db yMath_abs 6 (.goto 4) 3 9 (4) 10 := ⟨by decide +kernel, rfl, by decide⟩
theorem cMath_abs_9 : Dc yMath_abs 9 (.iload_n 0) 1 10 := ⟨by decide +kernel, rfl⟩
theorem cMath_abs_10 : Dc yMath_abs 10 (.ireturn) 1 11 := ⟨by decide +kernel, rfl⟩
theorem cLine_has_0 : Dc yLine_has 0 (.iload_n 1) 1 1 := ⟨by decide +kernel, rfl⟩
theorem cLine_has_1 : Db yLine_has 1 (.ifCond .lt 15) 3 4 (15) 16 := ⟨by decide +kernel, rfl, by decide⟩
theorem cLine_has_4 : Dc yLine_has 4 (.iload_n 1) 1 5 := ⟨by decide +kernel, rfl⟩
theorem cLine_has_5 : Dc yLine_has 5 (.aload_n 0) 1 6 := ⟨by decide +kernel, rfl⟩
theorem cLine_has_6 : Dc yLine_has 6 (.getfield 25) 3 9 := ⟨by decide +kernel, rfl⟩
theorem cLine_has_9 : Db yLine_has 9 (.if_icmp .ge 7) 3 12 (7) 16 := ⟨by decide +kernel, rfl, by decide⟩
theorem cLine_has_12 : Dc yLine_has 12 (.iconst 1) 1 13 := ⟨by decide +kernel, rfl⟩
theorem cLine_has_13 : Db yLine_has 13 (.goto 4) 3 16 (4) 17 := ⟨by decide +kernel, rfl, by decide⟩
theorem cLine_has_16 : Dc yLine_has 16 (.iconst 0) 1 17 := ⟨by decide +kernel, rfl⟩
theorem cLine_has_17 : Dc yLine_has 17 (.ireturn) 1 18 := ⟨by decide +kernel, rfl⟩
theorem cPast_remember_0 : Dc yPast_remember 0 (.aload_n 0) 1 1 := ⟨by decide +kernel, rfl⟩
theorem cPast_remember_1 : Dc yPast_remember 1 (.getfield 19) 3 4 := ⟨by decide +kernel, rfl⟩
theorem cPast_remember_4 : Dc yPast_remember 4 (.aload_n 0) 1 5 := ⟨by decide +kernel, rfl⟩
theorem cPast_remember_5 : Dc yPast_remember 5 (.getfield 13) 3 8 := ⟨by decide +kernel, rfl⟩
theorem cPast_remember_8 : Dc yPast_remember 8 (.arraylength) 1 9 := ⟨by decide +kernel, rfl⟩
theorem cPast_remember_9 : Db yPast_remember 9 (.if_icmp .lt 7) 3 12 (7) 16 := ⟨by decide +kernel, rfl, by decide⟩
theorem cPast_remember_12 : Dc yPast_remember 12 (.aload_n 0) 1 13 := ⟨by decide +kernel, rfl⟩
theorem cPast_remember_13 : Dc yPast_remember 13 (.invokevirtual 23) 3 16 := ⟨by decide +kernel, rfl⟩
theorem cPast_remember_16 : Dc yPast_remember 16 (.aload_n 0) 1 17 := ⟨by decide +kernel, rfl⟩
theorem cPast_remember_17 : Dc yPast_remember 17 (.getfield 19) 3 20 := ⟨by decide +kernel, rfl⟩
theorem cPast_remember_20 : Db yPast_remember 20 (.ifCond .lt 50) 3 23 (50) 70 := ⟨by decide +kernel, rfl, by decide⟩
theorem cPast_remember_23 : Dc yPast_remember 23 (.aload_n 0) 1 24 := ⟨by decide +kernel, rfl⟩
theorem cPast_remember_24 : Dc yPast_remember 24 (.getfield 19) 3 27 := ⟨by decide +kernel, rfl⟩
theorem cPast_remember_27 : Dc yPast_remember 27 (.aload_n 0) 1 28 := ⟨by decide +kernel, rfl⟩
theorem cPast_remember_28 : Dc yPast_remember 28 (.getfield 13) 3 31 := ⟨by decide +kernel, rfl⟩
theorem cPast_remember_31 : Dc yPast_remember 31 (.arraylength) 1 32 := ⟨by decide +kernel, rfl⟩
theorem cPast_remember_32 : Db yPast_remember 32 (.if_icmp .ge 38) 3 35 (38) 70 := ⟨by decide +kernel, rfl, by decide⟩
theorem cPast_remember_35 : Dc yPast_remember 35 (.aload_n 0) 1 36 := ⟨by decide +kernel, rfl⟩
theorem cPast_remember_36 : Dc yPast_remember 36 (.getfield 13) 3 39 := ⟨by decide +kernel, rfl⟩
theorem cPast_remember_39 : Dc yPast_remember 39 (.aload_n 0) 1 40 := ⟨by decide +kernel, rfl⟩
theorem cPast_remember_40 : Dc yPast_remember 40 (.getfield 19) 3 43 := ⟨by decide +kernel, rfl⟩
theorem cPast_remember_43 : Dc yPast_remember 43 (.aaload) 1 44 := ⟨by decide +kernel, rfl⟩
theorem cPast_remember_44 : Db yPast_remember 44 (.ifnull 26) 3 47 (26) 70 := ⟨by decide +kernel, rfl, by decide⟩
theorem cPast_remember_47 : Dc yPast_remember 47 (.aload_n 0) 1 48 := ⟨by decide +kernel, rfl⟩
theorem cPast_remember_48 : Dc yPast_remember 48 (.getfield 13) 3 51 := ⟨by decide +kernel, rfl⟩
theorem cPast_remember_51 : Dc yPast_remember 51 (.aload_n 0) 1 52 := ⟨by decide +kernel, rfl⟩
theorem cPast_remember_52 : Dc yPast_remember 52 (.getfield 19) 3 55 := ⟨by decide +kernel, rfl⟩
theorem cPast_remember_55 : Dc yPast_remember 55 (.aaload) 1 56 := ⟨by decide +kernel, rfl⟩
theorem cPast_remember_56 : Dc yPast_remember 56 (.aload_n 1) 1 57 := ⟨by decide +kernel, rfl⟩
theorem cPast_remember_57 : Dc yPast_remember 57 (.invokevirtual 26) 3 60 := ⟨by decide +kernel, rfl⟩
theorem cPast_remember_60 : Dc yPast_remember 60 (.aload_n 0) 1 61 := ⟨by decide +kernel, rfl⟩
theorem cPast_remember_61 : Dc yPast_remember 61 (.dup) 1 62 := ⟨by decide +kernel, rfl⟩
theorem cPast_remember_62 : Dc yPast_remember 62 (.getfield 19) 3 65 := ⟨by decide +kernel, rfl⟩
theorem cPast_remember_65 : Dc yPast_remember 65 (.iconst 1) 1 66 := ⟨by decide +kernel, rfl⟩
theorem cPast_remember_66 : Dc yPast_remember 66 (.iadd) 1 67 := ⟨by decide +kernel, rfl⟩
theorem cPast_remember_67 : Dc yPast_remember 67 (.putfield 19) 3 70 := ⟨by decide +kernel, rfl⟩
theorem cPast_remember_70 : Dc yPast_remember 70 (.return_) 1 71 := ⟨by decide +kernel, rfl⟩
theorem cPast_forgetFirst_0 : Dc yPast_forgetFirst 0 (.aload_n 0) 1 1 := ⟨by decide +kernel, rfl⟩
theorem cPast_forgetFirst_1 : Dc yPast_forgetFirst 1 (.getfield 13) 3 4 := ⟨by decide +kernel, rfl⟩
theorem cPast_forgetFirst_4 : Dc yPast_forgetFirst 4 (.arraylength) 1 5 := ⟨by decide +kernel, rfl⟩
theorem cPast_forgetFirst_5 : Db yPast_forgetFirst 5 (.ifCond .ne 4) 3 8 (4) 9 := ⟨by decide +kernel, rfl, by decide⟩
theorem cPast_forgetFirst_8 : Dc yPast_forgetFirst 8 (.return_) 1 9 := ⟨by decide +kernel, rfl⟩
theorem cPast_forgetFirst_9 : Dc yPast_forgetFirst 9 (.aload_n 0) 1 10 := ⟨by decide +kernel, rfl⟩
theorem cPast_forgetFirst_10 : Dc yPast_forgetFirst 10 (.getfield 13) 3 13 := ⟨by decide +kernel, rfl⟩
theorem cPast_forgetFirst_13 : Dc yPast_forgetFirst 13 (.iconst 0) 1 14 := ⟨by decide +kernel, rfl⟩
theorem cPast_forgetFirst_14 : Dc yPast_forgetFirst 14 (.aaload) 1 15 := ⟨by decide +kernel, rfl⟩
theorem cPast_forgetFirst_15 : Dc yPast_forgetFirst 15 (.astore_n 1) 1 16 := ⟨by decide +kernel, rfl⟩
theorem cPast_forgetFirst_16 : Dc yPast_forgetFirst 16 (.iconst 1) 1 17 := ⟨by decide +kernel, rfl⟩
theorem cPast_forgetFirst_17 : Dc yPast_forgetFirst 17 (.istore_n 2) 1 18 := ⟨by decide +kernel, rfl⟩
theorem cPast_forgetFirst_18 : Dc yPast_forgetFirst 18 (.iload_n 2) 1 19 := ⟨by decide +kernel, rfl⟩
theorem cPast_forgetFirst_19 : Dc yPast_forgetFirst 19 (.aload_n 0) 1 20 := ⟨by decide +kernel, rfl⟩
theorem cPast_forgetFirst_20 : Dc yPast_forgetFirst 20 (.getfield 13) 3 23 := ⟨by decide +kernel, rfl⟩
theorem cPast_forgetFirst_23 : Dc yPast_forgetFirst 23 (.arraylength) 1 24 := ⟨by decide +kernel, rfl⟩
theorem cPast_forgetFirst_24 : Db yPast_forgetFirst 24 (.if_icmp .ge 23) 3 27 (23) 47 := ⟨by decide +kernel, rfl, by decide⟩
theorem cPast_forgetFirst_27 : Dc yPast_forgetFirst 27 (.aload_n 0) 1 28 := ⟨by decide +kernel, rfl⟩
theorem cPast_forgetFirst_28 : Dc yPast_forgetFirst 28 (.getfield 13) 3 31 := ⟨by decide +kernel, rfl⟩
theorem cPast_forgetFirst_31 : Dc yPast_forgetFirst 31 (.iload_n 2) 1 32 := ⟨by decide +kernel, rfl⟩
theorem cPast_forgetFirst_32 : Dc yPast_forgetFirst 32 (.iconst 1) 1 33 := ⟨by decide +kernel, rfl⟩
theorem cPast_forgetFirst_33 : Dc yPast_forgetFirst 33 (.isub) 1 34 := ⟨by decide +kernel, rfl⟩
theorem cPast_forgetFirst_34 : Dc yPast_forgetFirst 34 (.aload_n 0) 1 35 := ⟨by decide +kernel, rfl⟩
theorem cPast_forgetFirst_35 : Dc yPast_forgetFirst 35 (.getfield 13) 3 38 := ⟨by decide +kernel, rfl⟩
theorem cPast_forgetFirst_38 : Dc yPast_forgetFirst 38 (.iload_n 2) 1 39 := ⟨by decide +kernel, rfl⟩
theorem cPast_forgetFirst_39 : Dc yPast_forgetFirst 39 (.aaload) 1 40 := ⟨by decide +kernel, rfl⟩
theorem cPast_forgetFirst_40 : Dc yPast_forgetFirst 40 (.aastore) 1 41 := ⟨by decide +kernel, rfl⟩
theorem cPast_forgetFirst_41 : Dc yPast_forgetFirst 41 (.iinc 2 1) 3 44 := ⟨by decide +kernel, rfl⟩
theorem cPast_forgetFirst_44 : Db yPast_forgetFirst 44 (.goto (-26)) 3 47 (-26) 18 := ⟨by decide +kernel, rfl, by decide⟩
theorem cPast_forgetFirst_47 : Dc yPast_forgetFirst 47 (.aload_n 0) 1 48 := ⟨by decide +kernel, rfl⟩
theorem cPast_forgetFirst_48 : Dc yPast_forgetFirst 48 (.getfield 13) 3 51 := ⟨by decide +kernel, rfl⟩
theorem cPast_forgetFirst_51 : Dc yPast_forgetFirst 51 (.aload_n 0) 1 52 := ⟨by decide +kernel, rfl⟩
theorem cPast_forgetFirst_52 : Dc yPast_forgetFirst 52 (.getfield 13) 3 55 := ⟨by decide +kernel, rfl⟩
theorem cPast_forgetFirst_55 : Dc yPast_forgetFirst 55 (.arraylength) 1 56 := ⟨by decide +kernel, rfl⟩
theorem cPast_forgetFirst_56 : Dc yPast_forgetFirst 56 (.iconst 1) 1 57 := ⟨by decide +kernel, rfl⟩
theorem cPast_forgetFirst_57 : Dc yPast_forgetFirst 57 (.isub) 1 58 := ⟨by decide +kernel, rfl⟩
theorem cPast_forgetFirst_58 : Dc yPast_forgetFirst 58 (.aload_n 1) 1 59 := ⟨by decide +kernel, rfl⟩
theorem cPast_forgetFirst_59 : Dc yPast_forgetFirst 59 (.aastore) 1 60 := ⟨by decide +kernel, rfl⟩
theorem cPast_forgetFirst_60 : Dc yPast_forgetFirst 60 (.aload_n 0) 1 61 := ⟨by decide +kernel, rfl⟩
theorem cPast_forgetFirst_61 : Dc yPast_forgetFirst 61 (.aload_n 0) 1 62 := ⟨by decide +kernel, rfl⟩
theorem cPast_forgetFirst_62 : Dc yPast_forgetFirst 62 (.getfield 13) 3 65 := ⟨by decide +kernel, rfl⟩
theorem cPast_forgetFirst_65 : Dc yPast_forgetFirst 65 (.arraylength) 1 66 := ⟨by decide +kernel, rfl⟩
theorem cPast_forgetFirst_66 : Dc yPast_forgetFirst 66 (.iconst 1) 1 67 := ⟨by decide +kernel, rfl⟩
theorem cPast_forgetFirst_67 : Dc yPast_forgetFirst 67 (.isub) 1 68 := ⟨by decide +kernel, rfl⟩
theorem cPast_forgetFirst_68 : Dc yPast_forgetFirst 68 (.putfield 19) 3 71 := ⟨by decide +kernel, rfl⟩
theorem cPast_forgetFirst_71 : Dc yPast_forgetFirst 71 (.return_) 1 72 := ⟨by decide +kernel, rfl⟩
theorem cLine_take_0 : Dc yLine_take 0 (.aload_n 0) 1 1 := ⟨by decide +kernel, rfl⟩
theorem cLine_take_1 : Dc yLine_take 1 (.aload_n 1) 1 2 := ⟨by decide +kernel, rfl⟩
theorem cLine_take_2 : Dc yLine_take 2 (.bipush 31) 2 4 := ⟨by decide +kernel, rfl⟩
theorem cLine_take_4 : Dc yLine_take 4 (.invokevirtual 38) 3 7 := ⟨by decide +kernel, rfl⟩
theorem cLine_take_7 : Dc yLine_take 7 (.return_) 1 8 := ⟨by decide +kernel, rfl⟩
theorem cLine_takeSome_0 : Dc yLine_takeSome 0 (.aload_n 0) 1 1 := ⟨by decide +kernel, rfl⟩
theorem cLine_takeSome_1 : Dc yLine_takeSome 1 (.aload_n 1) 1 2 := ⟨by decide +kernel, rfl⟩
theorem cLine_takeSome_2 : Dc yLine_takeSome 2 (.getfield 42) 3 5 := ⟨by decide +kernel, rfl⟩
theorem cLine_takeSome_5 : Dc yLine_takeSome 5 (.putfield 42) 3 8 := ⟨by decide +kernel, rfl⟩
theorem cLine_takeSome_8 : Dc yLine_takeSome 8 (.aload_n 0) 1 9 := ⟨by decide +kernel, rfl⟩
theorem cLine_takeSome_9 : Dc yLine_takeSome 9 (.aload_n 1) 1 10 := ⟨by decide +kernel, rfl⟩
theorem cLine_takeSome_10 : Dc yLine_takeSome 10 (.getfield 45) 3 13 := ⟨by decide +kernel, rfl⟩
theorem cLine_takeSome_13 : Dc yLine_takeSome 13 (.putfield 45) 3 16 := ⟨by decide +kernel, rfl⟩
theorem cLine_takeSome_16 : Dc yLine_takeSome 16 (.aload_n 0) 1 17 := ⟨by decide +kernel, rfl⟩
theorem cLine_takeSome_17 : Dc yLine_takeSome 17 (.aload_n 1) 1 18 := ⟨by decide +kernel, rfl⟩
theorem cLine_takeSome_18 : Dc yLine_takeSome 18 (.getfield 48) 3 21 := ⟨by decide +kernel, rfl⟩
theorem cLine_takeSome_21 : Dc yLine_takeSome 21 (.putfield 48) 3 24 := ⟨by decide +kernel, rfl⟩
theorem cLine_takeSome_24 : Dc yLine_takeSome 24 (.aload_n 0) 1 25 := ⟨by decide +kernel, rfl⟩
theorem cLine_takeSome_25 : Dc yLine_takeSome 25 (.aload_n 1) 1 26 := ⟨by decide +kernel, rfl⟩
theorem cLine_takeSome_26 : Dc yLine_takeSome 26 (.getfield 9) 3 29 := ⟨by decide +kernel, rfl⟩
theorem cLine_takeSome_29 : Dc yLine_takeSome 29 (.putfield 9) 3 32 := ⟨by decide +kernel, rfl⟩
theorem cLine_takeSome_32 : Dc yLine_takeSome 32 (.iconst 0) 1 33 := ⟨by decide +kernel, rfl⟩
theorem cLine_takeSome_33 : Dc yLine_takeSome 33 (.istore_n 3) 1 34 := ⟨by decide +kernel, rfl⟩
theorem cLine_takeSome_34 : Dc yLine_takeSome 34 (.iconst 0) 1 35 := ⟨by decide +kernel, rfl⟩
theorem cLine_takeSome_35 : Dc yLine_takeSome 35 (.istore 4) 2 37 := ⟨by decide +kernel, rfl⟩
theorem cLine_takeSome_37 : Dc yLine_takeSome 37 (.iload 4) 2 39 := ⟨by decide +kernel, rfl⟩
theorem cLine_takeSome_39 : Dc yLine_takeSome 39 (.aload_n 1) 1 40 := ⟨by decide +kernel, rfl⟩
theorem cLine_takeSome_40 : Dc yLine_takeSome 40 (.getfield 25) 3 43 := ⟨by decide +kernel, rfl⟩
theorem cLine_takeSome_43 : Db yLine_takeSome 43 (.if_icmp .ge 73) 3 46 (73) 116 := ⟨by decide +kernel, rfl, by decide⟩
theorem cLine_takeSome_46 : Dc yLine_takeSome 46 (.iload_n 2) 1 47 := ⟨by decide +kernel, rfl⟩
theorem cLine_takeSome_47 : Dc yLine_takeSome 47 (.iload 4) 2 49 := ⟨by decide +kernel, rfl⟩
theorem cLine_takeSome_49 : Dc yLine_takeSome 49 (.ishr) 1 50 := ⟨by decide +kernel, rfl⟩
theorem cLine_takeSome_50 : Dc yLine_takeSome 50 (.iconst 1) 1 51 := ⟨by decide +kernel, rfl⟩
theorem cLine_takeSome_51 : Dc yLine_takeSome 51 (.iand) 1 52 := ⟨by decide +kernel, rfl⟩
theorem cLine_takeSome_52 : Dc yLine_takeSome 52 (.iconst 1) 1 53 := ⟨by decide +kernel, rfl⟩
theorem cLine_takeSome_53 : Db yLine_takeSome 53 (.if_icmp .ne 57) 3 56 (57) 110 := ⟨by decide +kernel, rfl, by decide⟩
theorem cLine_takeSome_56 : Dc yLine_takeSome 56 (.aload_n 0) 1 57 := ⟨by decide +kernel, rfl⟩
theorem cLine_takeSome_57 : Dc yLine_takeSome 57 (.getfield 15) 3 60 := ⟨by decide +kernel, rfl⟩
theorem cLine_takeSome_60 : Dc yLine_takeSome 60 (.iload_n 3) 1 61 := ⟨by decide +kernel, rfl⟩
theorem cLine_takeSome_61 : Dc yLine_takeSome 61 (.aload_n 1) 1 62 := ⟨by decide +kernel, rfl⟩
theorem cLine_takeSome_62 : Dc yLine_takeSome 62 (.getfield 15) 3 65 := ⟨by decide +kernel, rfl⟩
theorem cLine_takeSome_65 : Dc yLine_takeSome 65 (.iload 4) 2 67 := ⟨by decide +kernel, rfl⟩
theorem cLine_takeSome_67 : Dc yLine_takeSome 67 (.invokestatic 34) 3 70 := ⟨by decide +kernel, rfl⟩
theorem cLine_takeSome_70 : Dc yLine_takeSome 70 (.invokestatic 51) 3 73 := ⟨by decide +kernel, rfl⟩
theorem cLine_takeSome_73 : Dc yLine_takeSome 73 (.aload_n 0) 1 74 := ⟨by decide +kernel, rfl⟩
theorem cLine_takeSome_74 : Dc yLine_takeSome 74 (.getfield 19) 3 77 := ⟨by decide +kernel, rfl⟩
theorem cLine_takeSome_77 : Dc yLine_takeSome 77 (.iload_n 3) 1 78 := ⟨by decide +kernel, rfl⟩
theorem cLine_takeSome_78 : Dc yLine_takeSome 78 (.aload_n 1) 1 79 := ⟨by decide +kernel, rfl⟩
theorem cLine_takeSome_79 : Dc yLine_takeSome 79 (.getfield 19) 3 82 := ⟨by decide +kernel, rfl⟩
theorem cLine_takeSome_82 : Dc yLine_takeSome 82 (.iload 4) 2 84 := ⟨by decide +kernel, rfl⟩
theorem cLine_takeSome_84 : Dc yLine_takeSome 84 (.invokestatic 34) 3 87 := ⟨by decide +kernel, rfl⟩
theorem cLine_takeSome_87 : Dc yLine_takeSome 87 (.invokestatic 51) 3 90 := ⟨by decide +kernel, rfl⟩
theorem cLine_takeSome_90 : Dc yLine_takeSome 90 (.aload_n 0) 1 91 := ⟨by decide +kernel, rfl⟩
theorem cLine_takeSome_91 : Dc yLine_takeSome 91 (.getfield 22) 3 94 := ⟨by decide +kernel, rfl⟩
theorem cLine_takeSome_94 : Dc yLine_takeSome 94 (.iload_n 3) 1 95 := ⟨by decide +kernel, rfl⟩
theorem cLine_takeSome_95 : Dc yLine_takeSome 95 (.aload_n 1) 1 96 := ⟨by decide +kernel, rfl⟩
theorem cLine_takeSome_96 : Dc yLine_takeSome 96 (.getfield 22) 3 99 := ⟨by decide +kernel, rfl⟩
theorem cLine_takeSome_99 : Dc yLine_takeSome 99 (.iload 4) 2 101 := ⟨by decide +kernel, rfl⟩
theorem cLine_takeSome_101 : Dc yLine_takeSome 101 (.invokestatic 34) 3 104 := ⟨by decide +kernel, rfl⟩
theorem cLine_takeSome_104 : Dc yLine_takeSome 104 (.invokestatic 51) 3 107 := ⟨by decide +kernel, rfl⟩
theorem cLine_takeSome_107 : Dc yLine_takeSome 107 (.iinc 3 1) 3 110 := ⟨by decide +kernel, rfl⟩
theorem cLine_takeSome_110 : Dc yLine_takeSome 110 (.iinc 4 1) 3 113 := ⟨by decide +kernel, rfl⟩
theorem cLine_takeSome_113 : Db yLine_takeSome 113 (.goto (-76)) 3 116 (-76) 37 := ⟨by decide +kernel, rfl, by decide⟩
theorem cLine_takeSome_116 : Dc yLine_takeSome 116 (.aload_n 0) 1 117 := ⟨by decide +kernel, rfl⟩
theorem cLine_takeSome_117 : Dc yLine_takeSome 117 (.iload_n 3) 1 118 := ⟨by decide +kernel, rfl⟩
theorem cLine_takeSome_118 : Dc yLine_takeSome 118 (.putfield 25) 3 121 := ⟨by decide +kernel, rfl⟩
theorem cLine_takeSome_121 : Dc yLine_takeSome 121 (.return_) 1 122 := ⟨by decide +kernel, rfl⟩
theorem cPast_giveBack_0 : Dc yPast_giveBack 0 (.aload_n 0) 1 1 := ⟨by decide +kernel, rfl⟩
theorem cPast_giveBack_1 : Dc yPast_giveBack 1 (.getfield 19) 3 4 := ⟨by decide +kernel, rfl⟩
theorem cPast_giveBack_4 : Dc yPast_giveBack 4 (.iconst 1) 1 5 := ⟨by decide +kernel, rfl⟩
theorem cPast_giveBack_5 : Dc yPast_giveBack 5 (.isub) 1 6 := ⟨by decide +kernel, rfl⟩
theorem cPast_giveBack_6 : Dc yPast_giveBack 6 (.istore_n 2) 1 7 := ⟨by decide +kernel, rfl⟩
theorem cPast_giveBack_7 : Dc yPast_giveBack 7 (.iload_n 2) 1 8 := ⟨by decide +kernel, rfl⟩
theorem cPast_giveBack_8 : Db yPast_giveBack 8 (.ifCond .lt 36) 3 11 (36) 44 := ⟨by decide +kernel, rfl, by decide⟩
theorem cPast_giveBack_11 : Dc yPast_giveBack 11 (.iload_n 2) 1 12 := ⟨by decide +kernel, rfl⟩
theorem cPast_giveBack_12 : Dc yPast_giveBack 12 (.aload_n 0) 1 13 := ⟨by decide +kernel, rfl⟩
theorem cPast_giveBack_13 : Dc yPast_giveBack 13 (.getfield 13) 3 16 := ⟨by decide +kernel, rfl⟩
theorem cPast_giveBack_16 : Dc yPast_giveBack 16 (.arraylength) 1 17 := ⟨by decide +kernel, rfl⟩
theorem cPast_giveBack_17 : Db yPast_giveBack 17 (.if_icmp .ge 27) 3 20 (27) 44 := ⟨by decide +kernel, rfl, by decide⟩
theorem cPast_giveBack_20 : Dc yPast_giveBack 20 (.aload_n 0) 1 21 := ⟨by decide +kernel, rfl⟩
theorem cPast_giveBack_21 : Dc yPast_giveBack 21 (.getfield 13) 3 24 := ⟨by decide +kernel, rfl⟩
theorem cPast_giveBack_24 : Dc yPast_giveBack 24 (.iload_n 2) 1 25 := ⟨by decide +kernel, rfl⟩
theorem cPast_giveBack_25 : Dc yPast_giveBack 25 (.aaload) 1 26 := ⟨by decide +kernel, rfl⟩
theorem cPast_giveBack_26 : Db yPast_giveBack 26 (.ifnull 18) 3 29 (18) 44 := ⟨by decide +kernel, rfl, by decide⟩
theorem cPast_giveBack_29 : Dc yPast_giveBack 29 (.aload_n 1) 1 30 := ⟨by decide +kernel, rfl⟩
theorem cPast_giveBack_30 : Dc yPast_giveBack 30 (.aload_n 0) 1 31 := ⟨by decide +kernel, rfl⟩
theorem cPast_giveBack_31 : Dc yPast_giveBack 31 (.getfield 13) 3 34 := ⟨by decide +kernel, rfl⟩
theorem cPast_giveBack_34 : Dc yPast_giveBack 34 (.iload_n 2) 1 35 := ⟨by decide +kernel, rfl⟩
theorem cPast_giveBack_35 : Dc yPast_giveBack 35 (.aaload) 1 36 := ⟨by decide +kernel, rfl⟩
theorem cPast_giveBack_36 : Dc yPast_giveBack 36 (.invokevirtual 26) 3 39 := ⟨by decide +kernel, rfl⟩
theorem cPast_giveBack_39 : Dc yPast_giveBack 39 (.aload_n 0) 1 40 := ⟨by decide +kernel, rfl⟩
theorem cPast_giveBack_40 : Dc yPast_giveBack 40 (.iload_n 2) 1 41 := ⟨by decide +kernel, rfl⟩
theorem cPast_giveBack_41 : Dc yPast_giveBack 41 (.putfield 19) 3 44 := ⟨by decide +kernel, rfl⟩
theorem cPast_giveBack_44 : Dc yPast_giveBack 44 (.return_) 1 45 := ⟨by decide +kernel, rfl⟩
theorem cFlight_views_0 : Dc yFlight_views 0 (.aload_n 0) 1 1 := ⟨by decide +kernel, rfl⟩
theorem cFlight_views_1 : Dc yFlight_views 1 (.getfield 24) 3 4 := ⟨by decide +kernel, rfl⟩
theorem cFlight_views_4 : Db yFlight_views 4 (.ifCond .le 10) 3 7 (10) 14 := ⟨by decide +kernel, rfl, by decide⟩
theorem cFlight_views_7 : Dc yFlight_views 7 (.aload_n 0) 1 8 := ⟨by decide +kernel, rfl⟩
theorem cFlight_views_8 : Dc yFlight_views 8 (.getfield 25) 3 11 := ⟨by decide +kernel, rfl⟩
theorem cFlight_views_11 : Db yFlight_views 11 (.ifCond .eq 5) 3 14 (5) 16 := ⟨by decide +kernel, rfl, by decide⟩
theorem cFlight_views_14 : Dc yFlight_views 14 (.iconst 0) 1 15 := ⟨by decide +kernel, rfl⟩
theorem cFlight_views_15 : Dc yFlight_views 15 (.ireturn) 1 16 := ⟨by decide +kernel, rfl⟩
theorem cFlight_views_16 : Dc yFlight_views 16 (.iload_n 1) 1 17 := ⟨by decide +kernel, rfl⟩
theorem cFlight_views_17 : Dc yFlight_views 17 (.aload_n 0) 1 18 := ⟨by decide +kernel, rfl⟩
theorem cFlight_views_18 : Dc yFlight_views 18 (.getfield 15) 3 21 := ⟨by decide +kernel, rfl⟩
theorem cFlight_views_21 : Dc yFlight_views 21 (.aload_n 0) 1 22 := ⟨by decide +kernel, rfl⟩
theorem cFlight_views_22 : Dc yFlight_views 22 (.getfield 24) 3 25 := ⟨by decide +kernel, rfl⟩
theorem cFlight_views_25 : Dc yFlight_views 25 (.iconst 1) 1 26 := ⟨by decide +kernel, rfl⟩
theorem cFlight_views_26 : Dc yFlight_views 26 (.isub) 1 27 := ⟨by decide +kernel, rfl⟩
theorem cFlight_views_27 : Dc yFlight_views 27 (.invokestatic 31) 3 30 := ⟨by decide +kernel, rfl⟩
theorem cFlight_views_30 : Dc yFlight_views 30 (.isub) 1 31 := ⟨by decide +kernel, rfl⟩
theorem cFlight_views_31 : Dc yFlight_views 31 (.invokestatic 56) 3 34 := ⟨by decide +kernel, rfl⟩
theorem cFlight_views_34 : Dc yFlight_views 34 (.aload_n 0) 1 35 := ⟨by decide +kernel, rfl⟩
theorem cFlight_views_35 : Dc yFlight_views 35 (.invokevirtual 67) 3 38 := ⟨by decide +kernel, rfl⟩
theorem cFlight_views_38 : Db yFlight_views 38 (.if_icmp .gt 7) 3 41 (7) 45 := ⟨by decide +kernel, rfl, by decide⟩
theorem cFlight_views_41 : Dc yFlight_views 41 (.iconst 1) 1 42 := ⟨by decide +kernel, rfl⟩
theorem cFlight_views_42 : Db yFlight_views 42 (.goto 4) 3 45 (4) 46 := ⟨by decide +kernel, rfl, by decide⟩
theorem cFlight_views_45 : Dc yFlight_views 45 (.iconst 0) 1 46 := ⟨by decide +kernel, rfl⟩
theorem cFlight_views_46 : Dc yFlight_views 46 (.ireturn) 1 47 := ⟨by decide +kernel, rfl⟩
theorem cFlight_sight_0 : Dc yFlight_sight 0 (.aload_n 0) 1 1 := ⟨by decide +kernel, rfl⟩
theorem cFlight_sight_1 : Dc yFlight_sight 1 (.getfield 9) 3 4 := ⟨by decide +kernel, rfl⟩
theorem cFlight_sight_4 : Dc yFlight_sight 4 (.aload_n 0) 1 5 := ⟨by decide +kernel, rfl⟩
theorem cFlight_sight_5 : Dc yFlight_sight 5 (.getfield 24) 3 8 := ⟨by decide +kernel, rfl⟩
theorem cFlight_sight_8 : Dc yFlight_sight 8 (.iconst 1) 1 9 := ⟨by decide +kernel, rfl⟩
theorem cFlight_sight_9 : Dc yFlight_sight 9 (.isub) 1 10 := ⟨by decide +kernel, rfl⟩
theorem cFlight_sight_10 : Dc yFlight_sight 10 (.invokestatic 31) 3 13 := ⟨by decide +kernel, rfl⟩
theorem cFlight_sight_13 : Dc yFlight_sight 13 (.iconst 4) 1 14 := ⟨by decide +kernel, rfl⟩
theorem cFlight_sight_14 : Dc yFlight_sight 14 (.idiv) 1 15 := ⟨by decide +kernel, rfl⟩
theorem cFlight_sight_15 : Dc yFlight_sight 15 (.ireturn) 1 16 := ⟨by decide +kernel, rfl⟩
theorem cBest_clear_0 : Dc yBest_clear 0 (.aload_n 0) 1 1 := ⟨by decide +kernel, rfl⟩
theorem cBest_clear_1 : Dc yBest_clear 1 (.bipush (-9)) 2 3 := ⟨by decide +kernel, rfl⟩
theorem cBest_clear_3 : Dc yBest_clear 3 (.putfield 9) 3 6 := ⟨by decide +kernel, rfl⟩
theorem cBest_clear_6 : Dc yBest_clear 6 (.aload_n 0) 1 7 := ⟨by decide +kernel, rfl⟩
theorem cBest_clear_7 : Dc yBest_clear 7 (.bipush (-9)) 2 9 := ⟨by decide +kernel, rfl⟩
theorem cBest_clear_9 : Dc yBest_clear 9 (.putfield 15) 3 12 := ⟨by decide +kernel, rfl⟩
theorem cBest_clear_12 : Dc yBest_clear 12 (.return_) 1 13 := ⟨by decide +kernel, rfl⟩
theorem cWay_start_0 : Dc yWay_start 0 (.aload_n 0) 1 1 := ⟨by decide +kernel, rfl⟩
theorem cWay_start_1 : Dc yWay_start 1 (.iload_n 1) 1 2 := ⟨by decide +kernel, rfl⟩
theorem cWay_start_2 : Dc yWay_start 2 (.putfield 15) 3 5 := ⟨by decide +kernel, rfl⟩
theorem cWay_start_5 : Dc yWay_start 5 (.aload_n 0) 1 6 := ⟨by decide +kernel, rfl⟩
theorem cWay_start_6 : Dc yWay_start 6 (.iload_n 2) 1 7 := ⟨by decide +kernel, rfl⟩
theorem cWay_start_7 : Dc yWay_start 7 (.putfield 19) 3 10 := ⟨by decide +kernel, rfl⟩
theorem cWay_start_10 : Dc yWay_start 10 (.iconst 0) 1 11 := ⟨by decide +kernel, rfl⟩
theorem cWay_start_11 : Dc yWay_start 11 (.istore_n 3) 1 12 := ⟨by decide +kernel, rfl⟩
theorem cWay_start_12 : Dc yWay_start 12 (.iload_n 3) 1 13 := ⟨by decide +kernel, rfl⟩
theorem cWay_start_13 : Dc yWay_start 13 (.aload_n 0) 1 14 := ⟨by decide +kernel, rfl⟩
theorem cWay_start_14 : Dc yWay_start 14 (.getfield 9) 3 17 := ⟨by decide +kernel, rfl⟩
theorem cWay_start_17 : Dc yWay_start 17 (.arraylength) 1 18 := ⟨by decide +kernel, rfl⟩
theorem cWay_start_18 : Db yWay_start 18 (.if_icmp .ge 16) 3 21 (16) 34 := ⟨by decide +kernel, rfl, by decide⟩
theorem cWay_start_21 : Dc yWay_start 21 (.aload_n 0) 1 22 := ⟨by decide +kernel, rfl⟩
theorem cWay_start_22 : Dc yWay_start 22 (.getfield 9) 3 25 := ⟨by decide +kernel, rfl⟩
theorem cWay_start_25 : Dc yWay_start 25 (.iload_n 3) 1 26 := ⟨by decide +kernel, rfl⟩
theorem cWay_start_26 : Dc yWay_start 26 (.iconst 0) 1 27 := ⟨by decide +kernel, rfl⟩
theorem cWay_start_27 : Dc yWay_start 27 (.iastore) 1 28 := ⟨by decide +kernel, rfl⟩
theorem cWay_start_28 : Dc yWay_start 28 (.iinc 3 1) 3 31 := ⟨by decide +kernel, rfl⟩
theorem cWay_start_31 : Db yWay_start 31 (.goto (-19)) 3 34 (-19) 12 := ⟨by decide +kernel, rfl, by decide⟩
theorem cWay_start_34 : Dc yWay_start 34 (.return_) 1 35 := ⟨by decide +kernel, rfl⟩
theorem cWay_most_0 : Dc yWay_most 0 (.iconst 1) 1 1 := ⟨by decide +kernel, rfl⟩
theorem cWay_most_1 : Dc yWay_most 1 (.istore_n 1) 1 2 := ⟨by decide +kernel, rfl⟩
theorem cWay_most_2 : Dc yWay_most 2 (.iconst 0) 1 3 := ⟨by decide +kernel, rfl⟩
theorem cWay_most_3 : Dc yWay_most 3 (.istore_n 2) 1 4 := ⟨by decide +kernel, rfl⟩
theorem cWay_most_4 : Dc yWay_most 4 (.iload_n 2) 1 5 := ⟨by decide +kernel, rfl⟩
theorem cWay_most_5 : Dc yWay_most 5 (.aload_n 0) 1 6 := ⟨by decide +kernel, rfl⟩
theorem cWay_most_6 : Dc yWay_most 6 (.getfield 15) 3 9 := ⟨by decide +kernel, rfl⟩
theorem cWay_most_9 : Db yWay_most 9 (.if_icmp .ge 18) 3 12 (18) 27 := ⟨by decide +kernel, rfl, by decide⟩
theorem cWay_most_12 : Dc yWay_most 12 (.iload_n 1) 1 13 := ⟨by decide +kernel, rfl⟩
theorem cWay_most_13 : Dc yWay_most 13 (.aload_n 0) 1 14 := ⟨by decide +kernel, rfl⟩
theorem cWay_most_14 : Dc yWay_most 14 (.getfield 19) 3 17 := ⟨by decide +kernel, rfl⟩
theorem cWay_most_17 : Dc yWay_most 17 (.iconst 1) 1 18 := ⟨by decide +kernel, rfl⟩
theorem cWay_most_18 : Dc yWay_most 18 (.iadd) 1 19 := ⟨by decide +kernel, rfl⟩
theorem cWay_most_19 : Dc yWay_most 19 (.imul) 1 20 := ⟨by decide +kernel, rfl⟩
theorem cWay_most_20 : Dc yWay_most 20 (.istore_n 1) 1 21 := ⟨by decide +kernel, rfl⟩
theorem cWay_most_21 : Dc yWay_most 21 (.iinc 2 1) 3 24 := ⟨by decide +kernel, rfl⟩
theorem cWay_most_24 : Db yWay_most 24 (.goto (-20)) 3 27 (-20) 4 := ⟨by decide +kernel, rfl, by decide⟩
theorem cWay_most_27 : Dc yWay_most 27 (.iload_n 1) 1 28 := ⟨by decide +kernel, rfl⟩
theorem cWay_most_28 : Dc yWay_most 28 (.ireturn) 1 29 := ⟨by decide +kernel, rfl⟩
theorem cWay_sum_0 : Dc yWay_sum 0 (.iconst 0) 1 1 := ⟨by decide +kernel, rfl⟩
theorem cWay_sum_1 : Dc yWay_sum 1 (.istore_n 1) 1 2 := ⟨by decide +kernel, rfl⟩
theorem cWay_sum_2 : Dc yWay_sum 2 (.iconst 0) 1 3 := ⟨by decide +kernel, rfl⟩
theorem cWay_sum_3 : Dc yWay_sum 3 (.istore_n 2) 1 4 := ⟨by decide +kernel, rfl⟩
theorem cWay_sum_4 : Dc yWay_sum 4 (.iload_n 2) 1 5 := ⟨by decide +kernel, rfl⟩
theorem cWay_sum_5 : Dc yWay_sum 5 (.aload_n 0) 1 6 := ⟨by decide +kernel, rfl⟩
theorem cWay_sum_6 : Dc yWay_sum 6 (.getfield 15) 3 9 := ⟨by decide +kernel, rfl⟩
theorem cWay_sum_9 : Db yWay_sum 9 (.if_icmp .ge 20) 3 12 (20) 29 := ⟨by decide +kernel, rfl, by decide⟩
theorem cWay_sum_12 : Dc yWay_sum 12 (.iload_n 1) 1 13 := ⟨by decide +kernel, rfl⟩
theorem cWay_sum_13 : Dc yWay_sum 13 (.aload_n 0) 1 14 := ⟨by decide +kernel, rfl⟩
theorem cWay_sum_14 : Dc yWay_sum 14 (.getfield 9) 3 17 := ⟨by decide +kernel, rfl⟩
theorem cWay_sum_17 : Dc yWay_sum 17 (.iload_n 2) 1 18 := ⟨by decide +kernel, rfl⟩
theorem cWay_sum_18 : Dc yWay_sum 18 (.invokestatic 22) 3 21 := ⟨by decide +kernel, rfl⟩
theorem cWay_sum_21 : Dc yWay_sum 21 (.iadd) 1 22 := ⟨by decide +kernel, rfl⟩
theorem cWay_sum_22 : Dc yWay_sum 22 (.istore_n 1) 1 23 := ⟨by decide +kernel, rfl⟩
theorem cWay_sum_23 : Dc yWay_sum 23 (.iinc 2 1) 3 26 := ⟨by decide +kernel, rfl⟩
theorem cWay_sum_26 : Db yWay_sum 26 (.goto (-22)) 3 29 (-22) 4 := ⟨by decide +kernel, rfl, by decide⟩
theorem cWay_sum_29 : Dc yWay_sum 29 (.iload_n 1) 1 30 := ⟨by decide +kernel, rfl⟩
theorem cWay_sum_30 : Dc yWay_sum 30 (.ireturn) 1 31 := ⟨by decide +kernel, rfl⟩
theorem cBest_wants_0 : Dc yBest_wants 0 (.aload_n 0) 1 1 := ⟨by decide +kernel, rfl⟩
theorem cBest_wants_1 : Dc yBest_wants 1 (.getfield 9) 3 4 := ⟨by decide +kernel, rfl⟩
theorem cBest_wants_4 : Dc yBest_wants 4 (.bipush (-9)) 2 6 := ⟨by decide +kernel, rfl⟩
theorem cBest_wants_6 : Db yBest_wants 6 (.if_icmp .eq 11) 3 9 (11) 17 := ⟨by decide +kernel, rfl, by decide⟩
theorem cBest_wants_9 : Dc yBest_wants 9 (.iload_n 1) 1 10 := ⟨by decide +kernel, rfl⟩
theorem cBest_wants_10 : Dc yBest_wants 10 (.aload_n 0) 1 11 := ⟨by decide +kernel, rfl⟩
theorem cBest_wants_11 : Dc yBest_wants 11 (.getfield 9) 3 14 := ⟨by decide +kernel, rfl⟩
theorem cBest_wants_14 : Db yBest_wants 14 (.if_icmp .ge 7) 3 17 (7) 21 := ⟨by decide +kernel, rfl, by decide⟩
theorem cBest_wants_17 : Dc yBest_wants 17 (.iconst 1) 1 18 := ⟨by decide +kernel, rfl⟩
theorem cBest_wants_18 : Db yBest_wants 18 (.goto 4) 3 21 (4) 22 := ⟨by decide +kernel, rfl, by decide⟩
theorem cBest_wants_21 : Dc yBest_wants 21 (.iconst 0) 1 22 := ⟨by decide +kernel, rfl⟩
theorem cBest_wants_22 : Dc yBest_wants 22 (.ireturn) 1 23 := ⟨by decide +kernel, rfl⟩
theorem cWay_number_0 : Dc yWay_number 0 (.iconst 0) 1 1 := ⟨by decide +kernel, rfl⟩
theorem cWay_number_1 : Dc yWay_number 1 (.istore_n 1) 1 2 := ⟨by decide +kernel, rfl⟩
theorem cWay_number_2 : Dc yWay_number 2 (.iconst 0) 1 3 := ⟨by decide +kernel, rfl⟩
theorem cWay_number_3 : Dc yWay_number 3 (.istore_n 2) 1 4 := ⟨by decide +kernel, rfl⟩
theorem cWay_number_4 : Dc yWay_number 4 (.iload_n 2) 1 5 := ⟨by decide +kernel, rfl⟩
theorem cWay_number_5 : Dc yWay_number 5 (.aload_n 0) 1 6 := ⟨by decide +kernel, rfl⟩
theorem cWay_number_6 : Dc yWay_number 6 (.getfield 15) 3 9 := ⟨by decide +kernel, rfl⟩
theorem cWay_number_9 : Db yWay_number 9 (.if_icmp .ge 23) 3 12 (23) 32 := ⟨by decide +kernel, rfl, by decide⟩
theorem cWay_number_12 : Dc yWay_number 12 (.bipush 10) 2 14 := ⟨by decide +kernel, rfl⟩
theorem cWay_number_14 : Dc yWay_number 14 (.iload_n 1) 1 15 := ⟨by decide +kernel, rfl⟩
theorem cWay_number_15 : Dc yWay_number 15 (.imul) 1 16 := ⟨by decide +kernel, rfl⟩
theorem cWay_number_16 : Dc yWay_number 16 (.aload_n 0) 1 17 := ⟨by decide +kernel, rfl⟩
theorem cWay_number_17 : Dc yWay_number 17 (.getfield 9) 3 20 := ⟨by decide +kernel, rfl⟩
theorem cWay_number_20 : Dc yWay_number 20 (.iload_n 2) 1 21 := ⟨by decide +kernel, rfl⟩
theorem cWay_number_21 : Dc yWay_number 21 (.invokestatic 22) 3 24 := ⟨by decide +kernel, rfl⟩
theorem cWay_number_24 : Dc yWay_number 24 (.iadd) 1 25 := ⟨by decide +kernel, rfl⟩
theorem cWay_number_25 : Dc yWay_number 25 (.istore_n 1) 1 26 := ⟨by decide +kernel, rfl⟩
theorem cWay_number_26 : Dc yWay_number 26 (.iinc 2 1) 3 29 := ⟨by decide +kernel, rfl⟩
theorem cWay_number_29 : Db yWay_number 29 (.goto (-25)) 3 32 (-25) 4 := ⟨by decide +kernel, rfl, by decide⟩
theorem cWay_number_32 : Dc yWay_number 32 (.iload_n 1) 1 33 := ⟨by decide +kernel, rfl⟩
theorem cWay_number_33 : Dc yWay_number 33 (.ireturn) 1 34 := ⟨by decide +kernel, rfl⟩
theorem cBest_keepThis_0 : Dc yBest_keepThis 0 (.aload_n 0) 1 1 := ⟨by decide +kernel, rfl⟩
theorem cBest_keepThis_1 : Dc yBest_keepThis 1 (.iload_n 1) 1 2 := ⟨by decide +kernel, rfl⟩
theorem cBest_keepThis_2 : Dc yBest_keepThis 2 (.putfield 9) 3 5 := ⟨by decide +kernel, rfl⟩
theorem cBest_keepThis_5 : Dc yBest_keepThis 5 (.aload_n 0) 1 6 := ⟨by decide +kernel, rfl⟩
theorem cBest_keepThis_6 : Dc yBest_keepThis 6 (.iload_n 2) 1 7 := ⟨by decide +kernel, rfl⟩
theorem cBest_keepThis_7 : Dc yBest_keepThis 7 (.putfield 15) 3 10 := ⟨by decide +kernel, rfl⟩
theorem cBest_keepThis_10 : Dc yBest_keepThis 10 (.return_) 1 11 := ⟨by decide +kernel, rfl⟩
theorem cWay_step_0 : Dc yWay_step 0 (.aload_n 0) 1 1 := ⟨by decide +kernel, rfl⟩
theorem cWay_step_1 : Dc yWay_step 1 (.getfield 15) 3 4 := ⟨by decide +kernel, rfl⟩
theorem cWay_step_4 : Dc yWay_step 4 (.iconst 1) 1 5 := ⟨by decide +kernel, rfl⟩
theorem cWay_step_5 : Dc yWay_step 5 (.isub) 1 6 := ⟨by decide +kernel, rfl⟩
theorem cWay_step_6 : Dc yWay_step 6 (.istore_n 1) 1 7 := ⟨by decide +kernel, rfl⟩
theorem cWay_step_7 : Dc yWay_step 7 (.iload_n 1) 1 8 := ⟨by decide +kernel, rfl⟩
theorem cWay_step_8 : Db yWay_step 8 (.ifCond .lt 52) 3 11 (52) 60 := ⟨by decide +kernel, rfl, by decide⟩
theorem cWay_step_11 : Dc yWay_step 11 (.aload_n 0) 1 12 := ⟨by decide +kernel, rfl⟩
theorem cWay_step_12 : Dc yWay_step 12 (.getfield 9) 3 15 := ⟨by decide +kernel, rfl⟩
theorem cWay_step_15 : Dc yWay_step 15 (.iload_n 1) 1 16 := ⟨by decide +kernel, rfl⟩
theorem cWay_step_16 : Dc yWay_step 16 (.invokestatic 22) 3 19 := ⟨by decide +kernel, rfl⟩
theorem cWay_step_19 : Dc yWay_step 19 (.aload_n 0) 1 20 := ⟨by decide +kernel, rfl⟩
theorem cWay_step_20 : Dc yWay_step 20 (.getfield 19) 3 23 := ⟨by decide +kernel, rfl⟩
theorem cWay_step_23 : Db yWay_step 23 (.if_icmp .ge 22) 3 26 (22) 45 := ⟨by decide +kernel, rfl, by decide⟩
theorem cWay_step_26 : Dc yWay_step 26 (.aload_n 0) 1 27 := ⟨by decide +kernel, rfl⟩
theorem cWay_step_27 : Dc yWay_step 27 (.getfield 9) 3 30 := ⟨by decide +kernel, rfl⟩
theorem cWay_step_30 : Dc yWay_step 30 (.iload_n 1) 1 31 := ⟨by decide +kernel, rfl⟩
theorem cWay_step_31 : Dc yWay_step 31 (.aload_n 0) 1 32 := ⟨by decide +kernel, rfl⟩
theorem cWay_step_32 : Dc yWay_step 32 (.getfield 9) 3 35 := ⟨by decide +kernel, rfl⟩
theorem cWay_step_35 : Dc yWay_step 35 (.iload_n 1) 1 36 := ⟨by decide +kernel, rfl⟩
theorem cWay_step_36 : Dc yWay_step 36 (.invokestatic 22) 3 39 := ⟨by decide +kernel, rfl⟩
theorem cWay_step_39 : Dc yWay_step 39 (.iconst 1) 1 40 := ⟨by decide +kernel, rfl⟩
theorem cWay_step_40 : Dc yWay_step 40 (.iadd) 1 41 := ⟨by decide +kernel, rfl⟩
theorem cWay_step_41 : Dc yWay_step 41 (.invokestatic 26) 3 44 := ⟨by decide +kernel, rfl⟩
theorem cWay_step_44 : Dc yWay_step 44 (.return_) 1 45 := ⟨by decide +kernel, rfl⟩
theorem cWay_step_45 : Dc yWay_step 45 (.aload_n 0) 1 46 := ⟨by decide +kernel, rfl⟩
theorem cWay_step_46 : Dc yWay_step 46 (.getfield 9) 3 49 := ⟨by decide +kernel, rfl⟩
theorem cWay_step_49 : Dc yWay_step 49 (.iload_n 1) 1 50 := ⟨by decide +kernel, rfl⟩
theorem cWay_step_50 : Dc yWay_step 50 (.iconst 0) 1 51 := ⟨by decide +kernel, rfl⟩
theorem cWay_step_51 : Dc yWay_step 51 (.invokestatic 26) 3 54 := ⟨by decide +kernel, rfl⟩
theorem cWay_step_54 : Dc yWay_step 54 (.iinc 1 (-1)) 3 57 := ⟨by decide +kernel, rfl⟩
theorem cWay_step_57 : Db yWay_step 57 (.goto (-50)) 3 60 (-50) 7 := ⟨by decide +kernel, rfl, by decide⟩
theorem cWay_step_60 : Dc yWay_step 60 (.return_) 1 61 := ⟨by decide +kernel, rfl⟩
theorem cInt_bitCount_0 : Dc yInt_bitCount 0 (.iload_n 0) 1 1 := ⟨by decide +kernel, rfl⟩
theorem cInt_bitCount_1 : Dc yInt_bitCount 1 (.iload_n 0) 1 2 := ⟨by decide +kernel, rfl⟩
theorem cInt_bitCount_2 : Dc yInt_bitCount 2 (.iconst 1) 1 3 := ⟨by decide +kernel, rfl⟩
theorem cInt_bitCount_3 : Dc yInt_bitCount 3 (.iushr) 1 4 := ⟨by decide +kernel, rfl⟩
theorem cInt_bitCount_4 : Dc yInt_bitCount 4 (.ldc_w 265) 3 7 := ⟨by decide +kernel, rfl⟩
theorem cInt_bitCount_7 : Dc yInt_bitCount 7 (.iand) 1 8 := ⟨by decide +kernel, rfl⟩
theorem cInt_bitCount_8 : Dc yInt_bitCount 8 (.isub) 1 9 := ⟨by decide +kernel, rfl⟩
theorem cInt_bitCount_9 : Dc yInt_bitCount 9 (.istore_n 0) 1 10 := ⟨by decide +kernel, rfl⟩
theorem cInt_bitCount_10 : Dc yInt_bitCount 10 (.iload_n 0) 1 11 := ⟨by decide +kernel, rfl⟩
theorem cInt_bitCount_11 : Dc yInt_bitCount 11 (.ldc_w 266) 3 14 := ⟨by decide +kernel, rfl⟩
theorem cInt_bitCount_14 : Dc yInt_bitCount 14 (.iand) 1 15 := ⟨by decide +kernel, rfl⟩
theorem cInt_bitCount_15 : Dc yInt_bitCount 15 (.iload_n 0) 1 16 := ⟨by decide +kernel, rfl⟩
theorem cInt_bitCount_16 : Dc yInt_bitCount 16 (.iconst 2) 1 17 := ⟨by decide +kernel, rfl⟩
theorem cInt_bitCount_17 : Dc yInt_bitCount 17 (.iushr) 1 18 := ⟨by decide +kernel, rfl⟩
theorem cInt_bitCount_18 : Dc yInt_bitCount 18 (.ldc_w 266) 3 21 := ⟨by decide +kernel, rfl⟩
theorem cInt_bitCount_21 : Dc yInt_bitCount 21 (.iand) 1 22 := ⟨by decide +kernel, rfl⟩
theorem cInt_bitCount_22 : Dc yInt_bitCount 22 (.iadd) 1 23 := ⟨by decide +kernel, rfl⟩
theorem cInt_bitCount_23 : Dc yInt_bitCount 23 (.istore_n 0) 1 24 := ⟨by decide +kernel, rfl⟩
theorem cInt_bitCount_24 : Dc yInt_bitCount 24 (.iload_n 0) 1 25 := ⟨by decide +kernel, rfl⟩
theorem cInt_bitCount_25 : Dc yInt_bitCount 25 (.iload_n 0) 1 26 := ⟨by decide +kernel, rfl⟩
theorem cInt_bitCount_26 : Dc yInt_bitCount 26 (.iconst 4) 1 27 := ⟨by decide +kernel, rfl⟩
theorem cInt_bitCount_27 : Dc yInt_bitCount 27 (.iushr) 1 28 := ⟨by decide +kernel, rfl⟩
theorem cInt_bitCount_28 : Dc yInt_bitCount 28 (.iadd) 1 29 := ⟨by decide +kernel, rfl⟩
theorem cInt_bitCount_29 : Dc yInt_bitCount 29 (.ldc_w 267) 3 32 := ⟨by decide +kernel, rfl⟩
theorem cInt_bitCount_32 : Dc yInt_bitCount 32 (.iand) 1 33 := ⟨by decide +kernel, rfl⟩
theorem cInt_bitCount_33 : Dc yInt_bitCount 33 (.istore_n 0) 1 34 := ⟨by decide +kernel, rfl⟩
theorem cInt_bitCount_34 : Dc yInt_bitCount 34 (.iload_n 0) 1 35 := ⟨by decide +kernel, rfl⟩
theorem cInt_bitCount_35 : Dc yInt_bitCount 35 (.iload_n 0) 1 36 := ⟨by decide +kernel, rfl⟩
theorem cInt_bitCount_36 : Dc yInt_bitCount 36 (.bipush 8) 2 38 := ⟨by decide +kernel, rfl⟩
theorem cInt_bitCount_38 : Dc yInt_bitCount 38 (.iushr) 1 39 := ⟨by decide +kernel, rfl⟩
theorem cInt_bitCount_39 : Dc yInt_bitCount 39 (.iadd) 1 40 := ⟨by decide +kernel, rfl⟩
theorem cInt_bitCount_40 : Dc yInt_bitCount 40 (.istore_n 0) 1 41 := ⟨by decide +kernel, rfl⟩
theorem cInt_bitCount_41 : Dc yInt_bitCount 41 (.iload_n 0) 1 42 := ⟨by decide +kernel, rfl⟩
theorem cInt_bitCount_42 : Dc yInt_bitCount 42 (.iload_n 0) 1 43 := ⟨by decide +kernel, rfl⟩
theorem cInt_bitCount_43 : Dc yInt_bitCount 43 (.bipush 16) 2 45 := ⟨by decide +kernel, rfl⟩
theorem cInt_bitCount_45 : Dc yInt_bitCount 45 (.iushr) 1 46 := ⟨by decide +kernel, rfl⟩
theorem cInt_bitCount_46 : Dc yInt_bitCount 46 (.iadd) 1 47 := ⟨by decide +kernel, rfl⟩
theorem cInt_bitCount_47 : Dc yInt_bitCount 47 (.istore_n 0) 1 48 := ⟨by decide +kernel, rfl⟩
theorem cInt_bitCount_48 : Dc yInt_bitCount 48 (.iload_n 0) 1 49 := ⟨by decide +kernel, rfl⟩
theorem cInt_bitCount_49 : Dc yInt_bitCount 49 (.bipush 63) 2 51 := ⟨by decide +kernel, rfl⟩
theorem cInt_bitCount_51 : Dc yInt_bitCount 51 (.iand) 1 52 := ⟨by decide +kernel, rfl⟩
theorem cInt_bitCount_52 : Dc yInt_bitCount 52 (.ireturn) 1 53 := ⟨by decide +kernel, rfl⟩
theorem cFlight_viewsWithin_0 : Dc yFlight_viewsWithin 0 (.aload_n 0) 1 1 := ⟨by decide +kernel, rfl⟩
theorem cFlight_viewsWithin_1 : Dc yFlight_viewsWithin 1 (.getfield 24) 3 4 := ⟨by decide +kernel, rfl⟩
theorem cFlight_viewsWithin_4 : Db yFlight_viewsWithin 4 (.ifCond .le 10) 3 7 (10) 14 := ⟨by decide +kernel, rfl, by decide⟩
theorem cFlight_viewsWithin_7 : Dc yFlight_viewsWithin 7 (.aload_n 0) 1 8 := ⟨by decide +kernel, rfl⟩
theorem cFlight_viewsWithin_8 : Dc yFlight_viewsWithin 8 (.getfield 25) 3 11 := ⟨by decide +kernel, rfl⟩
theorem cFlight_viewsWithin_11 : Db yFlight_viewsWithin 11 (.ifCond .eq 5) 3 14 (5) 16 := ⟨by decide +kernel, rfl, by decide⟩
theorem cFlight_viewsWithin_14 : Dc yFlight_viewsWithin 14 (.iconst 0) 1 15 := ⟨by decide +kernel, rfl⟩
theorem cFlight_viewsWithin_15 : Dc yFlight_viewsWithin 15 (.ireturn) 1 16 := ⟨by decide +kernel, rfl⟩
theorem cFlight_viewsWithin_16 : Dc yFlight_viewsWithin 16 (.iload_n 1) 1 17 := ⟨by decide +kernel, rfl⟩
theorem cFlight_viewsWithin_17 : Dc yFlight_viewsWithin 17 (.ineg) 1 18 := ⟨by decide +kernel, rfl⟩
theorem cFlight_viewsWithin_18 : Dc yFlight_viewsWithin 18 (.aload_n 0) 1 19 := ⟨by decide +kernel, rfl⟩
theorem cFlight_viewsWithin_19 : Dc yFlight_viewsWithin 19 (.getfield 15) 3 22 := ⟨by decide +kernel, rfl⟩
theorem cFlight_viewsWithin_22 : Dc yFlight_viewsWithin 22 (.aload_n 0) 1 23 := ⟨by decide +kernel, rfl⟩
theorem cFlight_viewsWithin_23 : Dc yFlight_viewsWithin 23 (.getfield 24) 3 26 := ⟨by decide +kernel, rfl⟩
theorem cFlight_viewsWithin_26 : Dc yFlight_viewsWithin 26 (.iconst 1) 1 27 := ⟨by decide +kernel, rfl⟩
theorem cFlight_viewsWithin_27 : Dc yFlight_viewsWithin 27 (.isub) 1 28 := ⟨by decide +kernel, rfl⟩
theorem cFlight_viewsWithin_28 : Dc yFlight_viewsWithin 28 (.invokestatic 31) 3 31 := ⟨by decide +kernel, rfl⟩
theorem cFlight_viewsWithin_31 : Dc yFlight_viewsWithin 31 (.aload_n 0) 1 32 := ⟨by decide +kernel, rfl⟩
theorem cFlight_viewsWithin_32 : Dc yFlight_viewsWithin 32 (.invokevirtual 67) 3 35 := ⟨by decide +kernel, rfl⟩
theorem cFlight_viewsWithin_35 : Dc yFlight_viewsWithin 35 (.isub) 1 36 := ⟨by decide +kernel, rfl⟩
theorem cFlight_viewsWithin_36 : Dc yFlight_viewsWithin 36 (.invokestatic 38) 3 39 := ⟨by decide +kernel, rfl⟩
theorem cFlight_viewsWithin_39 : Dc yFlight_viewsWithin 39 (.istore_n 2) 1 40 := ⟨by decide +kernel, rfl⟩
theorem cFlight_viewsWithin_40 : Dc yFlight_viewsWithin 40 (.iload_n 1) 1 41 := ⟨by decide +kernel, rfl⟩
theorem cFlight_viewsWithin_41 : Dc yFlight_viewsWithin 41 (.aload_n 0) 1 42 := ⟨by decide +kernel, rfl⟩
theorem cFlight_viewsWithin_42 : Dc yFlight_viewsWithin 42 (.getfield 15) 3 45 := ⟨by decide +kernel, rfl⟩
theorem cFlight_viewsWithin_45 : Dc yFlight_viewsWithin 45 (.aload_n 0) 1 46 := ⟨by decide +kernel, rfl⟩
theorem cFlight_viewsWithin_46 : Dc yFlight_viewsWithin 46 (.getfield 24) 3 49 := ⟨by decide +kernel, rfl⟩
theorem cFlight_viewsWithin_49 : Dc yFlight_viewsWithin 49 (.iconst 1) 1 50 := ⟨by decide +kernel, rfl⟩
theorem cFlight_viewsWithin_50 : Dc yFlight_viewsWithin 50 (.isub) 1 51 := ⟨by decide +kernel, rfl⟩
theorem cFlight_viewsWithin_51 : Dc yFlight_viewsWithin 51 (.invokestatic 31) 3 54 := ⟨by decide +kernel, rfl⟩
theorem cFlight_viewsWithin_54 : Dc yFlight_viewsWithin 54 (.aload_n 0) 1 55 := ⟨by decide +kernel, rfl⟩
theorem cFlight_viewsWithin_55 : Dc yFlight_viewsWithin 55 (.invokevirtual 67) 3 58 := ⟨by decide +kernel, rfl⟩
theorem cFlight_viewsWithin_58 : Dc yFlight_viewsWithin 58 (.iadd) 1 59 := ⟨by decide +kernel, rfl⟩
theorem cFlight_viewsWithin_59 : Dc yFlight_viewsWithin 59 (.invokestatic 71) 3 62 := ⟨by decide +kernel, rfl⟩
theorem cFlight_viewsWithin_62 : Dc yFlight_viewsWithin 62 (.istore_n 3) 1 63 := ⟨by decide +kernel, rfl⟩
theorem cFlight_viewsWithin_63 : Dc yFlight_viewsWithin 63 (.iconst 0) 1 64 := ⟨by decide +kernel, rfl⟩
theorem cFlight_viewsWithin_64 : Dc yFlight_viewsWithin 64 (.iload_n 3) 1 65 := ⟨by decide +kernel, rfl⟩
theorem cFlight_viewsWithin_65 : Dc yFlight_viewsWithin 65 (.iload_n 2) 1 66 := ⟨by decide +kernel, rfl⟩
theorem cFlight_viewsWithin_66 : Dc yFlight_viewsWithin 66 (.isub) 1 67 := ⟨by decide +kernel, rfl⟩
theorem cFlight_viewsWithin_67 : Dc yFlight_viewsWithin 67 (.iconst 1) 1 68 := ⟨by decide +kernel, rfl⟩
theorem cFlight_viewsWithin_68 : Dc yFlight_viewsWithin 68 (.iadd) 1 69 := ⟨by decide +kernel, rfl⟩
theorem cFlight_viewsWithin_69 : Dc yFlight_viewsWithin 69 (.invokestatic 38) 3 72 := ⟨by decide +kernel, rfl⟩
theorem cFlight_viewsWithin_72 : Dc yFlight_viewsWithin 72 (.ireturn) 1 73 := ⟨by decide +kernel, rfl⟩
theorem cLine_tugsMore_0 : Dc yLine_tugsMore 0 (.iconst 0) 1 1 := ⟨by decide +kernel, rfl⟩
theorem cLine_tugsMore_1 : Dc yLine_tugsMore 1 (.istore_n 1) 1 2 := ⟨by decide +kernel, rfl⟩
theorem cLine_tugsMore_2 : Dc yLine_tugsMore 2 (.iconst 0) 1 3 := ⟨by decide +kernel, rfl⟩
theorem cLine_tugsMore_3 : Dc yLine_tugsMore 3 (.istore_n 2) 1 4 := ⟨by decide +kernel, rfl⟩
theorem cLine_tugsMore_4 : Dc yLine_tugsMore 4 (.iload_n 2) 1 5 := ⟨by decide +kernel, rfl⟩
theorem cLine_tugsMore_5 : Dc yLine_tugsMore 5 (.aload_n 0) 1 6 := ⟨by decide +kernel, rfl⟩
theorem cLine_tugsMore_6 : Dc yLine_tugsMore 6 (.getfield 25) 3 9 := ⟨by decide +kernel, rfl⟩
theorem cLine_tugsMore_9 : Db yLine_tugsMore 9 (.if_icmp .ge 22) 3 12 (22) 31 := ⟨by decide +kernel, rfl, by decide⟩
theorem cLine_tugsMore_12 : Dc yLine_tugsMore 12 (.iload_n 1) 1 13 := ⟨by decide +kernel, rfl⟩
theorem cLine_tugsMore_13 : Dc yLine_tugsMore 13 (.aload_n 0) 1 14 := ⟨by decide +kernel, rfl⟩
theorem cLine_tugsMore_14 : Dc yLine_tugsMore 14 (.getfield 19) 3 17 := ⟨by decide +kernel, rfl⟩
theorem cLine_tugsMore_17 : Dc yLine_tugsMore 17 (.iload_n 2) 1 18 := ⟨by decide +kernel, rfl⟩
theorem cLine_tugsMore_18 : Dc yLine_tugsMore 18 (.invokestatic 34) 3 21 := ⟨by decide +kernel, rfl⟩
theorem cLine_tugsMore_21 : Dc yLine_tugsMore 21 (.iconst 2) 1 22 := ⟨by decide +kernel, rfl⟩
theorem cLine_tugsMore_22 : Dc yLine_tugsMore 22 (.iadd) 1 23 := ⟨by decide +kernel, rfl⟩
theorem cLine_tugsMore_23 : Dc yLine_tugsMore 23 (.iadd) 1 24 := ⟨by decide +kernel, rfl⟩
theorem cLine_tugsMore_24 : Dc yLine_tugsMore 24 (.istore_n 1) 1 25 := ⟨by decide +kernel, rfl⟩
theorem cLine_tugsMore_25 : Dc yLine_tugsMore 25 (.iinc 2 1) 3 28 := ⟨by decide +kernel, rfl⟩
theorem cLine_tugsMore_28 : Db yLine_tugsMore 28 (.goto (-24)) 3 31 (-24) 4 := ⟨by decide +kernel, rfl, by decide⟩
theorem cLine_tugsMore_31 : Dc yLine_tugsMore 31 (.iload_n 1) 1 32 := ⟨by decide +kernel, rfl⟩
theorem cLine_tugsMore_32 : Dc yLine_tugsMore 32 (.ireturn) 1 33 := ⟨by decide +kernel, rfl⟩
theorem cMath_floorMod_0 : Dc yMath_floorMod 0 (.iload_n 0) 1 1 := ⟨by decide +kernel, rfl⟩
theorem cMath_floorMod_1 : Dc yMath_floorMod 1 (.iload_n 1) 1 2 := ⟨by decide +kernel, rfl⟩
theorem cMath_floorMod_2 : Dc yMath_floorMod 2 (.irem) 1 3 := ⟨by decide +kernel, rfl⟩
theorem cMath_floorMod_3 : Dc yMath_floorMod 3 (.istore_n 2) 1 4 := ⟨by decide +kernel, rfl⟩
theorem cMath_floorMod_4 : Dc yMath_floorMod 4 (.iload_n 0) 1 5 := ⟨by decide +kernel, rfl⟩
theorem cMath_floorMod_5 : Dc yMath_floorMod 5 (.iload_n 1) 1 6 := ⟨by decide +kernel, rfl⟩
theorem cMath_floorMod_6 : Dc yMath_floorMod 6 (.ixor) 1 7 := ⟨by decide +kernel, rfl⟩
theorem cMath_floorMod_7 : Db yMath_floorMod 7 (.ifCond .ge 11) 3 10 (11) 18 := ⟨by decide +kernel, rfl, by decide⟩
theorem cMath_floorMod_10 : Dc yMath_floorMod 10 (.iload_n 2) 1 11 := ⟨by decide +kernel, rfl⟩
theorem cMath_floorMod_11 : Db yMath_floorMod 11 (.ifCond .eq 7) 3 14 (7) 18 := ⟨by decide +kernel, rfl, by decide⟩
theorem cMath_floorMod_14 : Dc yMath_floorMod 14 (.iload_n 2) 1 15 := ⟨by decide +kernel, rfl⟩
theorem cMath_floorMod_15 : Dc yMath_floorMod 15 (.iload_n 1) 1 16 := ⟨by decide +kernel, rfl⟩
theorem cMath_floorMod_16 : Dc yMath_floorMod 16 (.iadd) 1 17 := ⟨by decide +kernel, rfl⟩
theorem cMath_floorMod_17 : Dc yMath_floorMod 17 (.ireturn) 1 18 := ⟨by decide +kernel, rfl⟩
theorem cMath_floorMod_18 : Dc yMath_floorMod 18 (.iload_n 2) 1 19 := ⟨by decide +kernel, rfl⟩
theorem cMath_floorMod_19 : Dc yMath_floorMod 19 (.ireturn) 1 20 := ⟨by decide +kernel, rfl⟩
theorem cSightings_add_0 : Dc ySightings_add 0 (.aload_n 0) 1 1 := ⟨by decide +kernel, rfl⟩
theorem cSightings_add_1 : Dc ySightings_add 1 (.getfield 9) 3 4 := ⟨by decide +kernel, rfl⟩
theorem cSightings_add_4 : Dc ySightings_add 4 (.aload_n 0) 1 5 := ⟨by decide +kernel, rfl⟩
theorem cSightings_add_5 : Dc ySightings_add 5 (.getfield 18) 3 8 := ⟨by decide +kernel, rfl⟩
theorem cSightings_add_8 : Dc ySightings_add 8 (.iload_n 1) 1 9 := ⟨by decide +kernel, rfl⟩
theorem cSightings_add_9 : Dc ySightings_add 9 (.invokestatic 22) 3 12 := ⟨by decide +kernel, rfl⟩
theorem cSightings_add_12 : Dc ySightings_add 12 (.aload_n 0) 1 13 := ⟨by decide +kernel, rfl⟩
theorem cSightings_add_13 : Dc ySightings_add 13 (.getfield 15) 3 16 := ⟨by decide +kernel, rfl⟩
theorem cSightings_add_16 : Dc ySightings_add 16 (.aload_n 0) 1 17 := ⟨by decide +kernel, rfl⟩
theorem cSightings_add_17 : Dc ySightings_add 17 (.getfield 18) 3 20 := ⟨by decide +kernel, rfl⟩
theorem cSightings_add_20 : Dc ySightings_add 20 (.iload_n 2) 1 21 := ⟨by decide +kernel, rfl⟩
theorem cSightings_add_21 : Dc ySightings_add 21 (.invokestatic 22) 3 24 := ⟨by decide +kernel, rfl⟩
theorem cSightings_add_24 : Dc ySightings_add 24 (.aload_n 0) 1 25 := ⟨by decide +kernel, rfl⟩
theorem cSightings_add_25 : Dc ySightings_add 25 (.dup) 1 26 := ⟨by decide +kernel, rfl⟩
theorem cSightings_add_26 : Dc ySightings_add 26 (.getfield 18) 3 29 := ⟨by decide +kernel, rfl⟩
theorem cSightings_add_29 : Dc ySightings_add 29 (.iconst 1) 1 30 := ⟨by decide +kernel, rfl⟩
theorem cSightings_add_30 : Dc ySightings_add 30 (.iadd) 1 31 := ⟨by decide +kernel, rfl⟩
theorem cSightings_add_31 : Dc ySightings_add 31 (.putfield 18) 3 34 := ⟨by decide +kernel, rfl⟩
theorem cSightings_add_34 : Dc ySightings_add 34 (.aload_n 0) 1 35 := ⟨by decide +kernel, rfl⟩
theorem cSightings_add_35 : Dc ySightings_add 35 (.getfield 18) 3 38 := ⟨by decide +kernel, rfl⟩
theorem cSightings_add_38 : Dc ySightings_add 38 (.ireturn) 1 39 := ⟨by decide +kernel, rfl⟩
theorem cTally_clear_0 : Dc yTally_clear 0 (.aload_n 0) 1 1 := ⟨by decide +kernel, rfl⟩
theorem cTally_clear_1 : Dc yTally_clear 1 (.iconst 0) 1 2 := ⟨by decide +kernel, rfl⟩
theorem cTally_clear_2 : Dc yTally_clear 2 (.putfield 15) 3 5 := ⟨by decide +kernel, rfl⟩
theorem cTally_clear_5 : Dc yTally_clear 5 (.aload_n 0) 1 6 := ⟨by decide +kernel, rfl⟩
theorem cTally_clear_6 : Dc yTally_clear 6 (.bipush (-9)) 2 8 := ⟨by decide +kernel, rfl⟩
theorem cTally_clear_8 : Dc yTally_clear 8 (.putfield 9) 3 11 := ⟨by decide +kernel, rfl⟩
theorem cTally_clear_11 : Dc yTally_clear 11 (.return_) 1 12 := ⟨by decide +kernel, rfl⟩
theorem cSightings_agreeWith_0 : Dc ySightings_agreeWith 0 (.iconst 0) 1 1 := ⟨by decide +kernel, rfl⟩
theorem cSightings_agreeWith_1 : Dc ySightings_agreeWith 1 (.istore_n 2) 1 2 := ⟨by decide +kernel, rfl⟩
theorem cSightings_agreeWith_2 : Dc ySightings_agreeWith 2 (.iload_n 2) 1 3 := ⟨by decide +kernel, rfl⟩
theorem cSightings_agreeWith_3 : Dc ySightings_agreeWith 3 (.aload_n 0) 1 4 := ⟨by decide +kernel, rfl⟩
theorem cSightings_agreeWith_4 : Dc ySightings_agreeWith 4 (.getfield 18) 3 7 := ⟨by decide +kernel, rfl⟩
theorem cSightings_agreeWith_7 : Db ySightings_agreeWith 7 (.if_icmp .ge 47) 3 10 (47) 54 := ⟨by decide +kernel, rfl, by decide⟩
theorem cSightings_agreeWith_10 : Dc ySightings_agreeWith 10 (.aload_n 0) 1 11 := ⟨by decide +kernel, rfl⟩
theorem cSightings_agreeWith_11 : Dc ySightings_agreeWith 11 (.getfield 9) 3 14 := ⟨by decide +kernel, rfl⟩
theorem cSightings_agreeWith_14 : Dc ySightings_agreeWith 14 (.iload_n 2) 1 15 := ⟨by decide +kernel, rfl⟩
theorem cSightings_agreeWith_15 : Dc ySightings_agreeWith 15 (.invokestatic 26) 3 18 := ⟨by decide +kernel, rfl⟩
theorem cSightings_agreeWith_18 : Dc ySightings_agreeWith 18 (.istore_n 3) 1 19 := ⟨by decide +kernel, rfl⟩
theorem cSightings_agreeWith_19 : Dc ySightings_agreeWith 19 (.iload_n 3) 1 20 := ⟨by decide +kernel, rfl⟩
theorem cSightings_agreeWith_20 : Dc ySightings_agreeWith 20 (.aload_n 1) 1 21 := ⟨by decide +kernel, rfl⟩
theorem cSightings_agreeWith_21 : Dc ySightings_agreeWith 21 (.getfield 30) 3 24 := ⟨by decide +kernel, rfl⟩
theorem cSightings_agreeWith_24 : Db ySightings_agreeWith 24 (.if_icmp .ge 24) 3 27 (24) 48 := ⟨by decide +kernel, rfl, by decide⟩
theorem cSightings_agreeWith_27 : Dc ySightings_agreeWith 27 (.aload_n 1) 1 28 := ⟨by decide +kernel, rfl⟩
theorem cSightings_agreeWith_28 : Dc ySightings_agreeWith 28 (.getfield 33) 3 31 := ⟨by decide +kernel, rfl⟩
theorem cSightings_agreeWith_31 : Dc ySightings_agreeWith 31 (.iload_n 3) 1 32 := ⟨by decide +kernel, rfl⟩
theorem cSightings_agreeWith_32 : Dc ySightings_agreeWith 32 (.invokestatic 26) 3 35 := ⟨by decide +kernel, rfl⟩
theorem cSightings_agreeWith_35 : Dc ySightings_agreeWith 35 (.aload_n 0) 1 36 := ⟨by decide +kernel, rfl⟩
theorem cSightings_agreeWith_36 : Dc ySightings_agreeWith 36 (.getfield 15) 3 39 := ⟨by decide +kernel, rfl⟩
theorem cSightings_agreeWith_39 : Dc ySightings_agreeWith 39 (.iload_n 2) 1 40 := ⟨by decide +kernel, rfl⟩
theorem cSightings_agreeWith_40 : Dc ySightings_agreeWith 40 (.invokestatic 26) 3 43 := ⟨by decide +kernel, rfl⟩
theorem cSightings_agreeWith_43 : Db ySightings_agreeWith 43 (.if_icmp .eq 5) 3 46 (5) 48 := ⟨by decide +kernel, rfl, by decide⟩
theorem cSightings_agreeWith_46 : Dc ySightings_agreeWith 46 (.iconst 0) 1 47 := ⟨by decide +kernel, rfl⟩
theorem cSightings_agreeWith_47 : Dc ySightings_agreeWith 47 (.ireturn) 1 48 := ⟨by decide +kernel, rfl⟩
theorem cSightings_agreeWith_48 : Dc ySightings_agreeWith 48 (.iinc 2 1) 3 51 := ⟨by decide +kernel, rfl⟩
theorem cSightings_agreeWith_51 : Db ySightings_agreeWith 51 (.goto (-49)) 3 54 (-49) 2 := ⟨by decide +kernel, rfl, by decide⟩
theorem cSightings_agreeWith_54 : Dc ySightings_agreeWith 54 (.iconst 1) 1 55 := ⟨by decide +kernel, rfl⟩
theorem cSightings_agreeWith_55 : Dc ySightings_agreeWith 55 (.ireturn) 1 56 := ⟨by decide +kernel, rfl⟩
theorem cTally_add_0 : Dc yTally_add 0 (.aload_n 0) 1 1 := ⟨by decide +kernel, rfl⟩
theorem cTally_add_1 : Dc yTally_add 1 (.getfield 15) 3 4 := ⟨by decide +kernel, rfl⟩
theorem cTally_add_4 : Db yTally_add 4 (.ifCond .ne 8) 3 7 (8) 12 := ⟨by decide +kernel, rfl, by decide⟩
theorem cTally_add_7 : Dc yTally_add 7 (.aload_n 0) 1 8 := ⟨by decide +kernel, rfl⟩
theorem cTally_add_8 : Dc yTally_add 8 (.iload_n 1) 1 9 := ⟨by decide +kernel, rfl⟩
theorem cTally_add_9 : Dc yTally_add 9 (.putfield 9) 3 12 := ⟨by decide +kernel, rfl⟩
theorem cTally_add_12 : Dc yTally_add 12 (.aload_n 0) 1 13 := ⟨by decide +kernel, rfl⟩
theorem cTally_add_13 : Dc yTally_add 13 (.dup) 1 14 := ⟨by decide +kernel, rfl⟩
theorem cTally_add_14 : Dc yTally_add 14 (.getfield 15) 3 17 := ⟨by decide +kernel, rfl⟩
theorem cTally_add_17 : Dc yTally_add 17 (.iconst 1) 1 18 := ⟨by decide +kernel, rfl⟩
theorem cTally_add_18 : Dc yTally_add 18 (.iadd) 1 19 := ⟨by decide +kernel, rfl⟩
theorem cTally_add_19 : Dc yTally_add 19 (.putfield 15) 3 22 := ⟨by decide +kernel, rfl⟩
theorem cTally_add_22 : Dc yTally_add 22 (.return_) 1 23 := ⟨by decide +kernel, rfl⟩
end
section
theorem cK_init_0 : Dc yK_init 0 (.aload_n 0) 1 1 := ⟨by decide +kernel, rfl⟩
theorem cK_init_1 : Dc yK_init 1 (.invokespecial 1) 3 4 := ⟨by decide +kernel, rfl⟩
theorem cK_init_4 : Dc yK_init 4 (.aload_n 0) 1 5 := ⟨by decide +kernel, rfl⟩
theorem cK_init_5 : Dc yK_init 5 (.new 7) 3 8 := ⟨by decide +kernel, rfl⟩
theorem cK_init_8 : Dc yK_init 8 (.dup) 1 9 := ⟨by decide +kernel, rfl⟩
theorem cK_init_9 : Dc yK_init 9 (.invokespecial 9) 3 12 := ⟨by decide +kernel, rfl⟩
theorem cK_init_12 : Dc yK_init 12 (.putfield 10) 3 15 := ⟨by decide +kernel, rfl⟩
theorem cK_init_15 : Dc yK_init 15 (.aload_n 0) 1 16 := ⟨by decide +kernel, rfl⟩
theorem cK_init_16 : Dc yK_init 16 (.new 16) 3 19 := ⟨by decide +kernel, rfl⟩
theorem cK_init_19 : Dc yK_init 19 (.dup) 1 20 := ⟨by decide +kernel, rfl⟩
theorem cK_init_20 : Dc yK_init 20 (.invokespecial 18) 3 23 := ⟨by decide +kernel, rfl⟩
theorem cK_init_23 : Dc yK_init 23 (.putfield 19) 3 26 := ⟨by decide +kernel, rfl⟩
theorem cK_init_26 : Dc yK_init 26 (.aload_n 0) 1 27 := ⟨by decide +kernel, rfl⟩
theorem cK_init_27 : Dc yK_init 27 (.new 23) 3 30 := ⟨by decide +kernel, rfl⟩
theorem cK_init_30 : Dc yK_init 30 (.dup) 1 31 := ⟨by decide +kernel, rfl⟩
theorem cK_init_31 : Dc yK_init 31 (.invokespecial 25) 3 34 := ⟨by decide +kernel, rfl⟩
theorem cK_init_34 : Dc yK_init 34 (.putfield 26) 3 37 := ⟨by decide +kernel, rfl⟩
theorem cK_init_37 : Dc yK_init 37 (.aload_n 0) 1 38 := ⟨by decide +kernel, rfl⟩
theorem cK_init_38 : Dc yK_init 38 (.iconst 2) 1 39 := ⟨by decide +kernel, rfl⟩
theorem cK_init_39 : Dc yK_init 39 (.invokestatic 30) 3 42 := ⟨by decide +kernel, rfl⟩
theorem cK_init_42 : Dc yK_init 42 (.putfield 34) 3 45 := ⟨by decide +kernel, rfl⟩
theorem cK_init_45 : Dc yK_init 45 (.aload_n 0) 1 46 := ⟨by decide +kernel, rfl⟩
theorem cK_init_46 : Dc yK_init 46 (.iconst 2) 1 47 := ⟨by decide +kernel, rfl⟩
theorem cK_init_47 : Dc yK_init 47 (.newarray .boolean) 2 49 := ⟨by decide +kernel, rfl⟩
theorem cK_init_49 : Dc yK_init 49 (.putfield 38) 3 52 := ⟨by decide +kernel, rfl⟩
theorem cK_init_52 : Dc yK_init 52 (.aload_n 0) 1 53 := ⟨by decide +kernel, rfl⟩
theorem cK_init_53 : Dc yK_init 53 (.new 42) 3 56 := ⟨by decide +kernel, rfl⟩
theorem cK_init_56 : Dc yK_init 56 (.dup) 1 57 := ⟨by decide +kernel, rfl⟩
theorem cK_init_57 : Dc yK_init 57 (.invokespecial 44) 3 60 := ⟨by decide +kernel, rfl⟩
theorem cK_init_60 : Dc yK_init 60 (.putfield 45) 3 63 := ⟨by decide +kernel, rfl⟩
theorem cK_init_63 : Dc yK_init 63 (.aload_n 0) 1 64 := ⟨by decide +kernel, rfl⟩
theorem cK_init_64 : Dc yK_init 64 (.lconst 0) 1 65 := ⟨by decide +kernel, rfl⟩
theorem cK_init_65 : Dc yK_init 65 (.putfield 49) 3 68 := ⟨by decide +kernel, rfl⟩
theorem cK_init_68 : Dc yK_init 68 (.aload_n 0) 1 69 := ⟨by decide +kernel, rfl⟩
theorem cK_init_69 : Dc yK_init 69 (.new 16) 3 72 := ⟨by decide +kernel, rfl⟩
theorem cK_init_72 : Dc yK_init 72 (.dup) 1 73 := ⟨by decide +kernel, rfl⟩
theorem cK_init_73 : Dc yK_init 73 (.invokespecial 18) 3 76 := ⟨by decide +kernel, rfl⟩
theorem cK_init_76 : Dc yK_init 76 (.putfield 53) 3 79 := ⟨by decide +kernel, rfl⟩
theorem cK_init_79 : Dc yK_init 79 (.aload_n 0) 1 80 := ⟨by decide +kernel, rfl⟩
theorem cK_init_80 : Dc yK_init 80 (.new 56) 3 83 := ⟨by decide +kernel, rfl⟩
theorem cK_init_83 : Dc yK_init 83 (.dup) 1 84 := ⟨by decide +kernel, rfl⟩
theorem cK_init_84 : Dc yK_init 84 (.invokespecial 58) 3 87 := ⟨by decide +kernel, rfl⟩
theorem cK_init_87 : Dc yK_init 87 (.putfield 59) 3 90 := ⟨by decide +kernel, rfl⟩
theorem cK_init_90 : Dc yK_init 90 (.aload_n 0) 1 91 := ⟨by decide +kernel, rfl⟩
theorem cK_init_91 : Dc yK_init 91 (.new 63) 3 94 := ⟨by decide +kernel, rfl⟩
theorem cK_init_94 : Dc yK_init 94 (.dup) 1 95 := ⟨by decide +kernel, rfl⟩
theorem cK_init_95 : Dc yK_init 95 (.invokespecial 65) 3 98 := ⟨by decide +kernel, rfl⟩
theorem cK_init_98 : Dc yK_init 98 (.putfield 66) 3 101 := ⟨by decide +kernel, rfl⟩
theorem cK_init_101 : Dc yK_init 101 (.aload_n 0) 1 102 := ⟨by decide +kernel, rfl⟩
theorem cK_init_102 : Dc yK_init 102 (.new 70) 3 105 := ⟨by decide +kernel, rfl⟩
theorem cK_init_105 : Dc yK_init 105 (.dup) 1 106 := ⟨by decide +kernel, rfl⟩
theorem cK_init_106 : Dc yK_init 106 (.invokespecial 72) 3 109 := ⟨by decide +kernel, rfl⟩
theorem cK_init_109 : Dc yK_init 109 (.putfield 73) 3 112 := ⟨by decide +kernel, rfl⟩
theorem cK_init_112 : Dc yK_init 112 (.aload_n 0) 1 113 := ⟨by decide +kernel, rfl⟩
theorem cK_init_113 : Dc yK_init 113 (.new 77) 3 116 := ⟨by decide +kernel, rfl⟩
theorem cK_init_116 : Dc yK_init 116 (.dup) 1 117 := ⟨by decide +kernel, rfl⟩
theorem cK_init_117 : Dc yK_init 117 (.invokespecial 79) 3 120 := ⟨by decide +kernel, rfl⟩
theorem cK_init_120 : Dc yK_init 120 (.putfield 80) 3 123 := ⟨by decide +kernel, rfl⟩
theorem cK_init_123 : Dc yK_init 123 (.return_) 1 124 := ⟨by decide +kernel, rfl⟩
theorem cK_newLines_0 : Dc yK_newLines 0 (.iconst 0) 1 1 := ⟨by decide +kernel, rfl⟩
theorem cK_newLines_1 : Dc yK_newLines 1 (.iload_n 0) 1 2 := ⟨by decide +kernel, rfl⟩
theorem cK_newLines_2 : Dc yK_newLines 2 (.invokestatic 320) 3 5 := ⟨by decide +kernel, rfl⟩
theorem cK_newLines_5 : Dc yK_newLines 5 (.anewarray 16) 3 8 := ⟨by decide +kernel, rfl⟩
theorem cK_newLines_8 : Dc yK_newLines 8 (.astore_n 1) 1 9 := ⟨by decide +kernel, rfl⟩
theorem cK_newLines_9 : Dc yK_newLines 9 (.iconst 0) 1 10 := ⟨by decide +kernel, rfl⟩
theorem cK_newLines_10 : Dc yK_newLines 10 (.istore_n 2) 1 11 := ⟨by decide +kernel, rfl⟩
theorem cK_newLines_11 : Dc yK_newLines 11 (.iload_n 2) 1 12 := ⟨by decide +kernel, rfl⟩
theorem cK_newLines_12 : Dc yK_newLines 12 (.aload_n 1) 1 13 := ⟨by decide +kernel, rfl⟩
theorem cK_newLines_13 : Dc yK_newLines 13 (.arraylength) 1 14 := ⟨by decide +kernel, rfl⟩
theorem cK_newLines_14 : Db yK_newLines 14 (.if_icmp .ge 19) 3 17 (19) 33 := ⟨by decide +kernel, rfl, by decide⟩
theorem cK_newLines_17 : Dc yK_newLines 17 (.aload_n 1) 1 18 := ⟨by decide +kernel, rfl⟩
theorem cK_newLines_18 : Dc yK_newLines 18 (.iload_n 2) 1 19 := ⟨by decide +kernel, rfl⟩
theorem cK_newLines_19 : Dc yK_newLines 19 (.new 16) 3 22 := ⟨by decide +kernel, rfl⟩
theorem cK_newLines_22 : Dc yK_newLines 22 (.dup) 1 23 := ⟨by decide +kernel, rfl⟩
theorem cK_newLines_23 : Dc yK_newLines 23 (.invokespecial 18) 3 26 := ⟨by decide +kernel, rfl⟩
theorem cK_newLines_26 : Dc yK_newLines 26 (.aastore) 1 27 := ⟨by decide +kernel, rfl⟩
theorem cK_newLines_27 : Dc yK_newLines 27 (.iinc 2 1) 3 30 := ⟨by decide +kernel, rfl⟩
theorem cK_newLines_30 : Db yK_newLines 30 (.goto (-19)) 3 33 (-19) 11 := ⟨by decide +kernel, rfl, by decide⟩
theorem cK_newLines_33 : Dc yK_newLines 33 (.aload_n 1) 1 34 := ⟨by decide +kernel, rfl⟩
theorem cK_newLines_34 : Dc yK_newLines 34 (.areturn) 1 35 := ⟨by decide +kernel, rfl⟩
theorem cK_write_0 : Dc yK_write 0 (.iload_n 1) 1 1 := ⟨by decide +kernel, rfl⟩
theorem cK_write_1 : Db yK_write 1 (.ifCond .lt 10) 3 4 (10) 11 := ⟨by decide +kernel, rfl, by decide⟩
theorem cK_write_4 : Dc yK_write 4 (.iload_n 1) 1 5 := ⟨by decide +kernel, rfl⟩
theorem cK_write_5 : Dc yK_write 5 (.sipush 255) 3 8 := ⟨by decide +kernel, rfl⟩
theorem cK_write_8 : Db yK_write 8 (.if_icmp .le 6) 3 11 (6) 14 := ⟨by decide +kernel, rfl, by decide⟩
theorem cK_write_11 : Dc yK_write 11 (.bipush (-2)) 2 13 := ⟨by decide +kernel, rfl⟩
theorem cK_write_13 : Dc yK_write 13 (.ireturn) 1 14 := ⟨by decide +kernel, rfl⟩
theorem cK_write_14 : Dc yK_write 14 (.aload_n 0) 1 15 := ⟨by decide +kernel, rfl⟩
theorem cK_write_15 : Dc yK_write 15 (.getfield 10) 3 18 := ⟨by decide +kernel, rfl⟩
theorem cK_write_18 : Dc yK_write 18 (.getfield 84) 3 21 := ⟨by decide +kernel, rfl⟩
theorem cK_write_21 : Dc yK_write 21 (.bipush 32) 2 23 := ⟨by decide +kernel, rfl⟩
theorem cK_write_23 : Db yK_write 23 (.if_icmp .lt 6) 3 26 (6) 29 := ⟨by decide +kernel, rfl, by decide⟩
theorem cK_write_26 : Dc yK_write 26 (.bipush (-4)) 2 28 := ⟨by decide +kernel, rfl⟩
theorem cK_write_28 : Dc yK_write 28 (.ireturn) 1 29 := ⟨by decide +kernel, rfl⟩
theorem cK_write_29 : Dc yK_write 29 (.aload_n 0) 1 30 := ⟨by decide +kernel, rfl⟩
theorem cK_write_30 : Dc yK_write 30 (.getfield 10) 3 33 := ⟨by decide +kernel, rfl⟩
theorem cK_write_33 : Dc yK_write 33 (.iload_n 1) 1 34 := ⟨by decide +kernel, rfl⟩
theorem cK_write_34 : Dc yK_write 34 (.invokevirtual 88) 3 37 := ⟨by decide +kernel, rfl⟩
theorem cK_write_37 : Dc yK_write 37 (.ireturn) 1 38 := ⟨by decide +kernel, rfl⟩
theorem cK_put_0 : Dc yK_put 0 (.aload_n 0) 1 1 := ⟨by decide +kernel, rfl⟩
theorem cK_put_1 : Db yK_put 1 (.ifnull 17) 3 4 (17) 18 := ⟨by decide +kernel, rfl, by decide⟩
theorem cK_put_4 : Dc yK_put 4 (.iload_n 1) 1 5 := ⟨by decide +kernel, rfl⟩
theorem cK_put_5 : Db yK_put 5 (.ifCond .lt 13) 3 8 (13) 18 := ⟨by decide +kernel, rfl, by decide⟩
theorem cK_put_8 : Dc yK_put 8 (.iload_n 1) 1 9 := ⟨by decide +kernel, rfl⟩
theorem cK_put_9 : Dc yK_put 9 (.aload_n 0) 1 10 := ⟨by decide +kernel, rfl⟩
theorem cK_put_10 : Dc yK_put 10 (.arraylength) 1 11 := ⟨by decide +kernel, rfl⟩
theorem cK_put_11 : Db yK_put 11 (.if_icmp .ge 7) 3 14 (7) 18 := ⟨by decide +kernel, rfl, by decide⟩
theorem cK_put_14 : Dc yK_put 14 (.aload_n 0) 1 15 := ⟨by decide +kernel, rfl⟩
theorem cK_put_15 : Dc yK_put 15 (.iload_n 1) 1 16 := ⟨by decide +kernel, rfl⟩
theorem cK_put_16 : Dc yK_put 16 (.iload_n 2) 1 17 := ⟨by decide +kernel, rfl⟩
theorem cK_put_17 : Dc yK_put 17 (.iastore) 1 18 := ⟨by decide +kernel, rfl⟩
theorem cK_put_18 : Dc yK_put 18 (.return_) 1 19 := ⟨by decide +kernel, rfl⟩
theorem cK_wipe_0 : Dc yK_wipe 0 (.aload_n 0) 1 1 := ⟨by decide +kernel, rfl⟩
theorem cK_wipe_1 : Dc yK_wipe 1 (.getfield 10) 3 4 := ⟨by decide +kernel, rfl⟩
theorem cK_wipe_4 : Dc yK_wipe 4 (.getfield 84) 3 7 := ⟨by decide +kernel, rfl⟩
theorem cK_wipe_7 : Dc yK_wipe 7 (.istore_n 1) 1 8 := ⟨by decide +kernel, rfl⟩
theorem cK_wipe_8 : Dc yK_wipe 8 (.aload_n 0) 1 9 := ⟨by decide +kernel, rfl⟩
theorem cK_wipe_9 : Dc yK_wipe 9 (.getfield 10) 3 12 := ⟨by decide +kernel, rfl⟩
theorem cK_wipe_12 : Dc yK_wipe 12 (.iconst 0) 1 13 := ⟨by decide +kernel, rfl⟩
theorem cK_wipe_13 : Dc yK_wipe 13 (.putfield 84) 3 16 := ⟨by decide +kernel, rfl⟩
theorem cK_wipe_16 : Dc yK_wipe 16 (.iload_n 1) 1 17 := ⟨by decide +kernel, rfl⟩
theorem cK_wipe_17 : Dc yK_wipe 17 (.ireturn) 1 18 := ⟨by decide +kernel, rfl⟩
theorem cK_fault_0 : Dc yK_fault 0 (.aload_n 0) 1 1 := ⟨by decide +kernel, rfl⟩
theorem cK_fault_1 : Dc yK_fault 1 (.getfield 10) 3 4 := ⟨by decide +kernel, rfl⟩
theorem cK_fault_4 : Dc yK_fault 4 (.invokevirtual 92) 3 7 := ⟨by decide +kernel, rfl⟩
theorem cK_fault_7 : Dc yK_fault 7 (.ireturn) 1 8 := ⟨by decide +kernel, rfl⟩
theorem cK_at_0 : Dc yK_at 0 (.aload_n 0) 1 1 := ⟨by decide +kernel, rfl⟩
theorem cK_at_1 : Db yK_at 1 (.ifnull 19) 3 4 (19) 20 := ⟨by decide +kernel, rfl, by decide⟩
theorem cK_at_4 : Dc yK_at 4 (.iload_n 1) 1 5 := ⟨by decide +kernel, rfl⟩
theorem cK_at_5 : Db yK_at 5 (.ifCond .lt 15) 3 8 (15) 20 := ⟨by decide +kernel, rfl, by decide⟩
theorem cK_at_8 : Dc yK_at 8 (.iload_n 1) 1 9 := ⟨by decide +kernel, rfl⟩
theorem cK_at_9 : Dc yK_at 9 (.aload_n 0) 1 10 := ⟨by decide +kernel, rfl⟩
theorem cK_at_10 : Dc yK_at 10 (.arraylength) 1 11 := ⟨by decide +kernel, rfl⟩
theorem cK_at_11 : Db yK_at 11 (.if_icmp .ge 9) 3 14 (9) 20 := ⟨by decide +kernel, rfl, by decide⟩
theorem cK_at_14 : Dc yK_at 14 (.aload_n 0) 1 15 := ⟨by decide +kernel, rfl⟩
theorem cK_at_15 : Dc yK_at 15 (.iload_n 1) 1 16 := ⟨by decide +kernel, rfl⟩
theorem cK_at_16 : Dc yK_at 16 (.iaload) 1 17 := ⟨by decide +kernel, rfl⟩
theorem cK_at_17 : Db yK_at 17 (.goto 4) 3 20 (4) 21 := ⟨by decide +kernel, rfl, by decide⟩
theorem cK_at_20 : Dc yK_at 20 (.iconst 0) 1 21 := ⟨by decide +kernel, rfl⟩
theorem cK_at_21 : Dc yK_at 21 (.ireturn) 1 22 := ⟨by decide +kernel, rfl⟩
theorem cK_fly_0 : Dc yK_fly 0 (.aload_n 0) 1 1 := ⟨by decide +kernel, rfl⟩
theorem cK_fly_1 : Dc yK_fly 1 (.getfield 10) 3 4 := ⟨by decide +kernel, rfl⟩
theorem cK_fly_4 : Dc yK_fly 4 (.invokevirtual 92) 3 7 := ⟨by decide +kernel, rfl⟩
theorem cK_fly_7 : Dc yK_fly 7 (.bipush (-9)) 2 9 := ⟨by decide +kernel, rfl⟩
theorem cK_fly_9 : Db yK_fly 9 (.if_icmp .eq 6) 3 12 (6) 15 := ⟨by decide +kernel, rfl, by decide⟩
theorem cK_fly_12 : Dc yK_fly 12 (.bipush (-3)) 2 14 := ⟨by decide +kernel, rfl⟩
theorem cK_fly_14 : Dc yK_fly 14 (.ireturn) 1 15 := ⟨by decide +kernel, rfl⟩
theorem cK_fly_15 : Dc yK_fly 15 (.aload_n 0) 1 16 := ⟨by decide +kernel, rfl⟩
theorem cK_fly_16 : Dc yK_fly 16 (.getfield 10) 3 19 := ⟨by decide +kernel, rfl⟩
theorem cK_fly_19 : Dc yK_fly 19 (.aload_n 0) 1 20 := ⟨by decide +kernel, rfl⟩
theorem cK_fly_20 : Dc yK_fly 20 (.getfield 19) 3 23 := ⟨by decide +kernel, rfl⟩
theorem cK_fly_23 : Dc yK_fly 23 (.invokevirtual 96) 3 26 := ⟨by decide +kernel, rfl⟩
theorem cK_fly_26 : Dc yK_fly 26 (.aload_n 0) 1 27 := ⟨by decide +kernel, rfl⟩
theorem cK_fly_27 : Dc yK_fly 27 (.getfield 26) 3 30 := ⟨by decide +kernel, rfl⟩
theorem cK_fly_30 : Dc yK_fly 30 (.invokevirtual 100) 3 33 := ⟨by decide +kernel, rfl⟩
theorem cK_fly_33 : Dc yK_fly 33 (.aload_n 0) 1 34 := ⟨by decide +kernel, rfl⟩
theorem cK_fly_34 : Dc yK_fly 34 (.invokevirtual 103) 3 37 := ⟨by decide +kernel, rfl⟩
theorem cK_fly_37 : Dc yK_fly 37 (.aload_n 0) 1 38 := ⟨by decide +kernel, rfl⟩
theorem cK_fly_38 : Dc yK_fly 38 (.getfield 19) 3 41 := ⟨by decide +kernel, rfl⟩
theorem cK_fly_41 : Dc yK_fly 41 (.getfield 106) 3 44 := ⟨by decide +kernel, rfl⟩
theorem cK_fly_44 : Dc yK_fly 44 (.ireturn) 1 45 := ⟨by decide +kernel, rfl⟩
theorem cK_forgetKept_0 : Dc yK_forgetKept 0 (.iconst 0) 1 1 := ⟨by decide +kernel, rfl⟩
theorem cK_forgetKept_1 : Dc yK_forgetKept 1 (.istore_n 1) 1 2 := ⟨by decide +kernel, rfl⟩
theorem cK_forgetKept_2 : Dc yK_forgetKept 2 (.iload_n 1) 1 3 := ⟨by decide +kernel, rfl⟩
theorem cK_forgetKept_3 : Dc yK_forgetKept 3 (.aload_n 0) 1 4 := ⟨by decide +kernel, rfl⟩
theorem cK_forgetKept_4 : Dc yK_forgetKept 4 (.getfield 38) 3 7 := ⟨by decide +kernel, rfl⟩
theorem cK_forgetKept_7 : Dc yK_forgetKept 7 (.arraylength) 1 8 := ⟨by decide +kernel, rfl⟩
theorem cK_forgetKept_8 : Db yK_forgetKept 8 (.if_icmp .ge 16) 3 11 (16) 24 := ⟨by decide +kernel, rfl, by decide⟩
theorem cK_forgetKept_11 : Dc yK_forgetKept 11 (.aload_n 0) 1 12 := ⟨by decide +kernel, rfl⟩
theorem cK_forgetKept_12 : Dc yK_forgetKept 12 (.getfield 38) 3 15 := ⟨by decide +kernel, rfl⟩
theorem cK_forgetKept_15 : Dc yK_forgetKept 15 (.iload_n 1) 1 16 := ⟨by decide +kernel, rfl⟩
theorem cK_forgetKept_16 : Dc yK_forgetKept 16 (.iconst 0) 1 17 := ⟨by decide +kernel, rfl⟩
theorem cK_forgetKept_17 : Dc yK_forgetKept 17 (.bastore) 1 18 := ⟨by decide +kernel, rfl⟩
theorem cK_forgetKept_18 : Dc yK_forgetKept 18 (.iinc 1 1) 3 21 := ⟨by decide +kernel, rfl⟩
theorem cK_forgetKept_21 : Db yK_forgetKept 21 (.goto (-19)) 3 24 (-19) 2 := ⟨by decide +kernel, rfl, by decide⟩
theorem cK_forgetKept_24 : Dc yK_forgetKept 24 (.return_) 1 25 := ⟨by decide +kernel, rfl⟩
theorem cK_about_0 : Dc yK_about 0 (.iload_n 1) 1 1 := ⟨by decide +kernel, rfl⟩
theorem cK_about_1 : decode (yB yK_about) 1 = .ok (.tableswitch 151 0 9 #[55, 63, 73, 83, 91, 99, 108, 127, 135, 143], 55) := by decide +kernel
theorem cK_about_56 : Dc yK_about 56 (.aload_n 0) 1 57 := ⟨by decide +kernel, rfl⟩
theorem cK_about_57 : Dc yK_about 57 (.getfield 19) 3 60 := ⟨by decide +kernel, rfl⟩
theorem cK_about_60 : Dc yK_about 60 (.getfield 106) 3 63 := ⟨by decide +kernel, rfl⟩
theorem cK_about_63 : Dc yK_about 63 (.ireturn) 1 64 := ⟨by decide +kernel, rfl⟩
theorem cK_about_64 : Dc yK_about 64 (.aload_n 0) 1 65 := ⟨by decide +kernel, rfl⟩
theorem cK_about_65 : Dc yK_about 65 (.getfield 19) 3 68 := ⟨by decide +kernel, rfl⟩
theorem cK_about_68 : Dc yK_about 68 (.getfield 109) 3 71 := ⟨by decide +kernel, rfl⟩
theorem cK_about_71 : Dc yK_about 71 (.iconst 2) 1 72 := ⟨by decide +kernel, rfl⟩
theorem cK_about_72 : Dc yK_about 72 (.iadd) 1 73 := ⟨by decide +kernel, rfl⟩
theorem cK_about_73 : Dc yK_about 73 (.ireturn) 1 74 := ⟨by decide +kernel, rfl⟩
theorem cK_about_74 : Dc yK_about 74 (.aload_n 0) 1 75 := ⟨by decide +kernel, rfl⟩
theorem cK_about_75 : Dc yK_about 75 (.getfield 19) 3 78 := ⟨by decide +kernel, rfl⟩
theorem cK_about_78 : Dc yK_about 78 (.getfield 112) 3 81 := ⟨by decide +kernel, rfl⟩
theorem cK_about_81 : Dc yK_about 81 (.iconst 2) 1 82 := ⟨by decide +kernel, rfl⟩
theorem cK_about_82 : Dc yK_about 82 (.iadd) 1 83 := ⟨by decide +kernel, rfl⟩
theorem cK_about_83 : Dc yK_about 83 (.ireturn) 1 84 := ⟨by decide +kernel, rfl⟩
theorem cK_about_84 : Dc yK_about 84 (.aload_n 0) 1 85 := ⟨by decide +kernel, rfl⟩
theorem cK_about_85 : Dc yK_about 85 (.getfield 19) 3 88 := ⟨by decide +kernel, rfl⟩
theorem cK_about_88 : Dc yK_about 88 (.getfield 115) 3 91 := ⟨by decide +kernel, rfl⟩
theorem cK_about_91 : Dc yK_about 91 (.ireturn) 1 92 := ⟨by decide +kernel, rfl⟩
theorem cK_about_92 : Dc yK_about 92 (.aload_n 0) 1 93 := ⟨by decide +kernel, rfl⟩
theorem cK_about_93 : Dc yK_about 93 (.getfield 19) 3 96 := ⟨by decide +kernel, rfl⟩
theorem cK_about_96 : Dc yK_about 96 (.getfield 118) 3 99 := ⟨by decide +kernel, rfl⟩
theorem cK_about_99 : Dc yK_about 99 (.ireturn) 1 100 := ⟨by decide +kernel, rfl⟩
theorem cK_about_100 : Dc yK_about 100 (.aload_n 0) 1 101 := ⟨by decide +kernel, rfl⟩
theorem cK_about_101 : Dc yK_about 101 (.getfield 19) 3 104 := ⟨by decide +kernel, rfl⟩
theorem cK_about_104 : Dc yK_about 104 (.iconst 0) 1 105 := ⟨by decide +kernel, rfl⟩
theorem cK_about_105 : Dc yK_about 105 (.invokevirtual 121) 3 108 := ⟨by decide +kernel, rfl⟩
theorem cK_about_108 : Dc yK_about 108 (.ireturn) 1 109 := ⟨by decide +kernel, rfl⟩
theorem cK_about_109 : Dc yK_about 109 (.aload_n 0) 1 110 := ⟨by decide +kernel, rfl⟩
theorem cK_about_110 : Dc yK_about 110 (.getfield 59) 3 113 := ⟨by decide +kernel, rfl⟩
theorem cK_about_113 : Dc yK_about 113 (.aload_n 0) 1 114 := ⟨by decide +kernel, rfl⟩
theorem cK_about_114 : Dc yK_about 114 (.getfield 19) 3 117 := ⟨by decide +kernel, rfl⟩
theorem cK_about_117 : Dc yK_about 117 (.invokevirtual 124) 3 120 := ⟨by decide +kernel, rfl⟩
theorem cK_about_120 : Dc yK_about 120 (.aload_n 0) 1 121 := ⟨by decide +kernel, rfl⟩
theorem cK_about_121 : Dc yK_about 121 (.getfield 59) 3 124 := ⟨by decide +kernel, rfl⟩
theorem cK_about_124 : Dc yK_about 124 (.getfield 127) 3 127 := ⟨by decide +kernel, rfl⟩
theorem cK_about_127 : Dc yK_about 127 (.ireturn) 1 128 := ⟨by decide +kernel, rfl⟩
theorem cK_about_128 : Dc yK_about 128 (.aload_n 0) 1 129 := ⟨by decide +kernel, rfl⟩
theorem cK_about_129 : Dc yK_about 129 (.getfield 26) 3 132 := ⟨by decide +kernel, rfl⟩
theorem cK_about_132 : Dc yK_about 132 (.getfield 130) 3 135 := ⟨by decide +kernel, rfl⟩
theorem cK_about_135 : Dc yK_about 135 (.ireturn) 1 136 := ⟨by decide +kernel, rfl⟩
theorem cK_about_136 : Dc yK_about 136 (.aload_n 0) 1 137 := ⟨by decide +kernel, rfl⟩
theorem cK_about_137 : Dc yK_about 137 (.getfield 45) 3 140 := ⟨by decide +kernel, rfl⟩
theorem cK_about_140 : Dc yK_about 140 (.getfield 131) 3 143 := ⟨by decide +kernel, rfl⟩
theorem cK_about_143 : Dc yK_about 143 (.ireturn) 1 144 := ⟨by decide +kernel, rfl⟩
theorem cK_about_144 : Dc yK_about 144 (.aload_n 0) 1 145 := ⟨by decide +kernel, rfl⟩
theorem cK_about_145 : Dc yK_about 145 (.getfield 10) 3 148 := ⟨by decide +kernel, rfl⟩
theorem cK_about_148 : Dc yK_about 148 (.getfield 84) 3 151 := ⟨by decide +kernel, rfl⟩
theorem cK_about_151 : Dc yK_about 151 (.ireturn) 1 152 := ⟨by decide +kernel, rfl⟩
theorem cK_about_152 : Dc yK_about 152 (.bipush (-2)) 2 154 := ⟨by decide +kernel, rfl⟩
theorem cK_about_154 : Dc yK_about 154 (.ireturn) 1 155 := ⟨by decide +kernel, rfl⟩
theorem cK_kite_0 : Dc yK_kite 0 (.aload_n 0) 1 1 := ⟨by decide +kernel, rfl⟩
theorem cK_kite_1 : Dc yK_kite 1 (.getfield 19) 3 4 := ⟨by decide +kernel, rfl⟩
theorem cK_kite_4 : Dc yK_kite 4 (.iload_n 1) 1 5 := ⟨by decide +kernel, rfl⟩
theorem cK_kite_5 : Dc yK_kite 5 (.invokevirtual 132) 3 8 := ⟨by decide +kernel, rfl⟩
theorem cK_kite_8 : Db yK_kite 8 (.ifCond .ne 5) 3 11 (5) 13 := ⟨by decide +kernel, rfl, by decide⟩
theorem cK_kite_11 : Dc yK_kite 11 (.iconst (-1)) 1 12 := ⟨by decide +kernel, rfl⟩
theorem cK_kite_12 : Dc yK_kite 12 (.ireturn) 1 13 := ⟨by decide +kernel, rfl⟩
theorem cK_kite_13 : Dc yK_kite 13 (.aload_n 0) 1 14 := ⟨by decide +kernel, rfl⟩
theorem cK_kite_14 : Dc yK_kite 14 (.getfield 59) 3 17 := ⟨by decide +kernel, rfl⟩
theorem cK_kite_17 : Dc yK_kite 17 (.aload_n 0) 1 18 := ⟨by decide +kernel, rfl⟩
theorem cK_kite_18 : Dc yK_kite 18 (.getfield 19) 3 21 := ⟨by decide +kernel, rfl⟩
theorem cK_kite_21 : Dc yK_kite 21 (.invokevirtual 124) 3 24 := ⟨by decide +kernel, rfl⟩
theorem cK_kite_24 : Dc yK_kite 24 (.iload_n 2) 1 25 := ⟨by decide +kernel, rfl⟩
theorem cK_kite_25 : decode (yB yK_kite) 25 = .ok (.tableswitch 116 0 5 #[39, 51, 65, 77, 89, 104], 39) := by decide +kernel
theorem cK_kite_64 : Dc yK_kite 64 (.aload_n 0) 1 65 := ⟨by decide +kernel, rfl⟩
theorem cK_kite_65 : Dc yK_kite 65 (.getfield 19) 3 68 := ⟨by decide +kernel, rfl⟩
theorem cK_kite_68 : Dc yK_kite 68 (.getfield 136) 3 71 := ⟨by decide +kernel, rfl⟩
theorem cK_kite_71 : Dc yK_kite 71 (.iload_n 1) 1 72 := ⟨by decide +kernel, rfl⟩
theorem cK_kite_72 : Dc yK_kite 72 (.invokestatic 140) 3 75 := ⟨by decide +kernel, rfl⟩
theorem cK_kite_75 : Dc yK_kite 75 (.ireturn) 1 76 := ⟨by decide +kernel, rfl⟩
theorem cK_kite_76 : Dc yK_kite 76 (.aload_n 0) 1 77 := ⟨by decide +kernel, rfl⟩
theorem cK_kite_77 : Dc yK_kite 77 (.getfield 19) 3 80 := ⟨by decide +kernel, rfl⟩
theorem cK_kite_80 : Dc yK_kite 80 (.getfield 144) 3 83 := ⟨by decide +kernel, rfl⟩
theorem cK_kite_83 : Dc yK_kite 83 (.iload_n 1) 1 84 := ⟨by decide +kernel, rfl⟩
theorem cK_kite_84 : Dc yK_kite 84 (.invokestatic 140) 3 87 := ⟨by decide +kernel, rfl⟩
theorem cK_kite_87 : Dc yK_kite 87 (.iconst 2) 1 88 := ⟨by decide +kernel, rfl⟩
theorem cK_kite_88 : Dc yK_kite 88 (.iadd) 1 89 := ⟨by decide +kernel, rfl⟩
theorem cK_kite_89 : Dc yK_kite 89 (.ireturn) 1 90 := ⟨by decide +kernel, rfl⟩
theorem cK_kite_90 : Dc yK_kite 90 (.aload_n 0) 1 91 := ⟨by decide +kernel, rfl⟩
theorem cK_kite_91 : Dc yK_kite 91 (.getfield 19) 3 94 := ⟨by decide +kernel, rfl⟩
theorem cK_kite_94 : Dc yK_kite 94 (.getfield 147) 3 97 := ⟨by decide +kernel, rfl⟩
theorem cK_kite_97 : Dc yK_kite 97 (.iload_n 1) 1 98 := ⟨by decide +kernel, rfl⟩
theorem cK_kite_98 : Dc yK_kite 98 (.invokestatic 140) 3 101 := ⟨by decide +kernel, rfl⟩
theorem cK_kite_101 : Dc yK_kite 101 (.ireturn) 1 102 := ⟨by decide +kernel, rfl⟩
theorem cK_kite_102 : Dc yK_kite 102 (.aload_n 0) 1 103 := ⟨by decide +kernel, rfl⟩
theorem cK_kite_103 : Dc yK_kite 103 (.getfield 59) 3 106 := ⟨by decide +kernel, rfl⟩
theorem cK_kite_106 : Dc yK_kite 106 (.getfield 150) 3 109 := ⟨by decide +kernel, rfl⟩
theorem cK_kite_109 : Dc yK_kite 109 (.iload_n 1) 1 110 := ⟨by decide +kernel, rfl⟩
theorem cK_kite_110 : Dc yK_kite 110 (.invokestatic 140) 3 113 := ⟨by decide +kernel, rfl⟩
theorem cK_kite_113 : Dc yK_kite 113 (.ireturn) 1 114 := ⟨by decide +kernel, rfl⟩
theorem cK_kite_114 : Dc yK_kite 114 (.aload_n 0) 1 115 := ⟨by decide +kernel, rfl⟩
theorem cK_kite_115 : Dc yK_kite 115 (.getfield 59) 3 118 := ⟨by decide +kernel, rfl⟩
theorem cK_kite_118 : Dc yK_kite 118 (.getfield 153) 3 121 := ⟨by decide +kernel, rfl⟩
theorem cK_kite_121 : Dc yK_kite 121 (.iload_n 1) 1 122 := ⟨by decide +kernel, rfl⟩
theorem cK_kite_122 : Dc yK_kite 122 (.invokestatic 140) 3 125 := ⟨by decide +kernel, rfl⟩
theorem cK_kite_125 : Dc yK_kite 125 (.bipush 100) 2 127 := ⟨by decide +kernel, rfl⟩
theorem cK_kite_127 : Dc yK_kite 127 (.iadd) 1 128 := ⟨by decide +kernel, rfl⟩
theorem cK_kite_128 : Dc yK_kite 128 (.ireturn) 1 129 := ⟨by decide +kernel, rfl⟩
theorem cK_kite_129 : Dc yK_kite 129 (.aload_n 0) 1 130 := ⟨by decide +kernel, rfl⟩
theorem cK_kite_130 : Dc yK_kite 130 (.getfield 59) 3 133 := ⟨by decide +kernel, rfl⟩
theorem cK_kite_133 : Dc yK_kite 133 (.getfield 127) 3 136 := ⟨by decide +kernel, rfl⟩
theorem cK_kite_136 : Dc yK_kite 136 (.iload_n 1) 1 137 := ⟨by decide +kernel, rfl⟩
theorem cK_kite_137 : Dc yK_kite 137 (.ishr) 1 138 := ⟨by decide +kernel, rfl⟩
theorem cK_kite_138 : Dc yK_kite 138 (.iconst 1) 1 139 := ⟨by decide +kernel, rfl⟩
theorem cK_kite_139 : Dc yK_kite 139 (.iand) 1 140 := ⟨by decide +kernel, rfl⟩
theorem cK_kite_140 : Dc yK_kite 140 (.ireturn) 1 141 := ⟨by decide +kernel, rfl⟩
theorem cK_kite_141 : Dc yK_kite 141 (.bipush (-2)) 2 143 := ⟨by decide +kernel, rfl⟩
theorem cK_kite_143 : Dc yK_kite 143 (.ireturn) 1 144 := ⟨by decide +kernel, rfl⟩
theorem cK_letOut_0 : Dc yK_letOut 0 (.aload_n 0) 1 1 := ⟨by decide +kernel, rfl⟩
theorem cK_letOut_1 : Dc yK_letOut 1 (.getfield 19) 3 4 := ⟨by decide +kernel, rfl⟩
theorem cK_letOut_4 : Dc yK_letOut 4 (.iload_n 1) 1 5 := ⟨by decide +kernel, rfl⟩
theorem cK_letOut_5 : Dc yK_letOut 5 (.invokevirtual 132) 3 8 := ⟨by decide +kernel, rfl⟩
theorem cK_letOut_8 : Db yK_letOut 8 (.ifCond .ne 5) 3 11 (5) 13 := ⟨by decide +kernel, rfl, by decide⟩
theorem cK_letOut_11 : Dc yK_letOut 11 (.iconst (-1)) 1 12 := ⟨by decide +kernel, rfl⟩
theorem cK_letOut_12 : Dc yK_letOut 12 (.ireturn) 1 13 := ⟨by decide +kernel, rfl⟩
theorem cK_letOut_13 : Dc yK_letOut 13 (.iload_n 2) 1 14 := ⟨by decide +kernel, rfl⟩
theorem cK_letOut_14 : Db yK_letOut 14 (.ifCond .eq 12) 3 17 (12) 26 := ⟨by decide +kernel, rfl, by decide⟩
theorem cK_letOut_17 : Dc yK_letOut 17 (.iload_n 2) 1 18 := ⟨by decide +kernel, rfl⟩
theorem cK_letOut_18 : Dc yK_letOut 18 (.bipush 9) 2 20 := ⟨by decide +kernel, rfl⟩
theorem cK_letOut_20 : Dc yK_letOut 20 (.invokestatic 156) 3 23 := ⟨by decide +kernel, rfl⟩
theorem cK_letOut_23 : Db yK_letOut 23 (.ifCond .ne 6) 3 26 (6) 29 := ⟨by decide +kernel, rfl, by decide⟩
theorem cK_letOut_26 : Dc yK_letOut 26 (.bipush (-2)) 2 28 := ⟨by decide +kernel, rfl⟩
theorem cK_letOut_28 : Dc yK_letOut 28 (.ireturn) 1 29 := ⟨by decide +kernel, rfl⟩
theorem cK_letOut_29 : Dc yK_letOut 29 (.aload_n 0) 1 30 := ⟨by decide +kernel, rfl⟩
theorem cK_letOut_30 : Dc yK_letOut 30 (.getfield 19) 3 33 := ⟨by decide +kernel, rfl⟩
theorem cK_letOut_33 : Dc yK_letOut 33 (.getfield 136) 3 36 := ⟨by decide +kernel, rfl⟩
theorem cK_letOut_36 : Dc yK_letOut 36 (.iload_n 1) 1 37 := ⟨by decide +kernel, rfl⟩
theorem cK_letOut_37 : Dc yK_letOut 37 (.invokestatic 140) 3 40 := ⟨by decide +kernel, rfl⟩
theorem cK_letOut_40 : Dc yK_letOut 40 (.iload_n 2) 1 41 := ⟨by decide +kernel, rfl⟩
theorem cK_letOut_41 : Dc yK_letOut 41 (.iadd) 1 42 := ⟨by decide +kernel, rfl⟩
theorem cK_letOut_42 : Dc yK_letOut 42 (.istore_n 3) 1 43 := ⟨by decide +kernel, rfl⟩
theorem cK_letOut_43 : Dc yK_letOut 43 (.iload_n 3) 1 44 := ⟨by decide +kernel, rfl⟩
theorem cK_letOut_44 : Dc yK_letOut 44 (.iconst 1) 1 45 := ⟨by decide +kernel, rfl⟩
theorem cK_letOut_45 : Db yK_letOut 45 (.if_icmp .lt 9) 3 48 (9) 54 := ⟨by decide +kernel, rfl, by decide⟩
theorem cK_letOut_48 : Dc yK_letOut 48 (.iload_n 3) 1 49 := ⟨by decide +kernel, rfl⟩
theorem cK_letOut_49 : Dc yK_letOut 49 (.bipush 30) 2 51 := ⟨by decide +kernel, rfl⟩
theorem cK_letOut_51 : Db yK_letOut 51 (.if_icmp .le 6) 3 54 (6) 57 := ⟨by decide +kernel, rfl, by decide⟩
theorem cK_letOut_54 : Dc yK_letOut 54 (.bipush (-3)) 2 56 := ⟨by decide +kernel, rfl⟩
theorem cK_letOut_56 : Dc yK_letOut 56 (.ireturn) 1 57 := ⟨by decide +kernel, rfl⟩
theorem cK_letOut_57 : Dc yK_letOut 57 (.aload_n 0) 1 58 := ⟨by decide +kernel, rfl⟩
theorem cK_letOut_58 : Dc yK_letOut 58 (.getfield 26) 3 61 := ⟨by decide +kernel, rfl⟩
theorem cK_letOut_61 : Dc yK_letOut 61 (.aload_n 0) 1 62 := ⟨by decide +kernel, rfl⟩
theorem cK_letOut_62 : Dc yK_letOut 62 (.getfield 19) 3 65 := ⟨by decide +kernel, rfl⟩
theorem cK_letOut_65 : Dc yK_letOut 65 (.invokevirtual 160) 3 68 := ⟨by decide +kernel, rfl⟩
theorem cK_letOut_68 : Dc yK_letOut 68 (.aload_n 0) 1 69 := ⟨by decide +kernel, rfl⟩
theorem cK_letOut_69 : Dc yK_letOut 69 (.getfield 19) 3 72 := ⟨by decide +kernel, rfl⟩
theorem cK_letOut_72 : Dc yK_letOut 72 (.getfield 136) 3 75 := ⟨by decide +kernel, rfl⟩
theorem cK_letOut_75 : Dc yK_letOut 75 (.iload_n 1) 1 76 := ⟨by decide +kernel, rfl⟩
theorem cK_letOut_76 : Dc yK_letOut 76 (.iload_n 3) 1 77 := ⟨by decide +kernel, rfl⟩
theorem cK_letOut_77 : Dc yK_letOut 77 (.invokestatic 163) 3 80 := ⟨by decide +kernel, rfl⟩
theorem cK_letOut_80 : Dc yK_letOut 80 (.iload_n 3) 1 81 := ⟨by decide +kernel, rfl⟩
theorem cK_letOut_81 : Dc yK_letOut 81 (.ireturn) 1 82 := ⟨by decide +kernel, rfl⟩
theorem cK_within_0 : Dc yK_within 0 (.iload_n 0) 1 1 := ⟨by decide +kernel, rfl⟩
theorem cK_within_1 : Dc yK_within 1 (.iload_n 1) 1 2 := ⟨by decide +kernel, rfl⟩
theorem cK_within_2 : Dc yK_within 2 (.ineg) 1 3 := ⟨by decide +kernel, rfl⟩
theorem cK_within_3 : Db yK_within 3 (.if_icmp .lt 12) 3 6 (12) 15 := ⟨by decide +kernel, rfl, by decide⟩
theorem cK_within_6 : Dc yK_within 6 (.iload_n 0) 1 7 := ⟨by decide +kernel, rfl⟩
theorem cK_within_7 : Dc yK_within 7 (.iload_n 1) 1 8 := ⟨by decide +kernel, rfl⟩
theorem cK_within_8 : Db yK_within 8 (.if_icmp .gt 7) 3 11 (7) 15 := ⟨by decide +kernel, rfl, by decide⟩
theorem cK_within_11 : Dc yK_within 11 (.iconst 1) 1 12 := ⟨by decide +kernel, rfl⟩
theorem cK_within_12 : Db yK_within 12 (.goto 4) 3 15 (4) 16 := ⟨by decide +kernel, rfl, by decide⟩
theorem cK_within_15 : Dc yK_within 15 (.iconst 0) 1 16 := ⟨by decide +kernel, rfl⟩
theorem cK_within_16 : Dc yK_within 16 (.ireturn) 1 17 := ⟨by decide +kernel, rfl⟩
theorem cK_set_0 : Dc yK_set 0 (.aload_n 0) 1 1 := ⟨by decide +kernel, rfl⟩
theorem cK_set_1 : Dc yK_set 1 (.getfield 19) 3 4 := ⟨by decide +kernel, rfl⟩
theorem cK_set_4 : Dc yK_set 4 (.iload_n 1) 1 5 := ⟨by decide +kernel, rfl⟩
theorem cK_set_5 : Dc yK_set 5 (.invokevirtual 132) 3 8 := ⟨by decide +kernel, rfl⟩
theorem cK_set_8 : Db yK_set 8 (.ifCond .ne 5) 3 11 (5) 13 := ⟨by decide +kernel, rfl, by decide⟩
theorem cK_set_11 : Dc yK_set 11 (.iconst (-1)) 1 12 := ⟨by decide +kernel, rfl⟩
theorem cK_set_12 : Dc yK_set 12 (.ireturn) 1 13 := ⟨by decide +kernel, rfl⟩
theorem cK_set_13 : Dc yK_set 13 (.iload_n 2) 1 14 := ⟨by decide +kernel, rfl⟩
theorem cK_set_14 : Dc yK_set 14 (.iconst 2) 1 15 := ⟨by decide +kernel, rfl⟩
theorem cK_set_15 : Dc yK_set 15 (.invokestatic 156) 3 18 := ⟨by decide +kernel, rfl⟩
theorem cK_set_18 : Db yK_set 18 (.ifCond .ne 6) 3 21 (6) 24 := ⟨by decide +kernel, rfl, by decide⟩
theorem cK_set_21 : Dc yK_set 21 (.bipush (-2)) 2 23 := ⟨by decide +kernel, rfl⟩
theorem cK_set_23 : Dc yK_set 23 (.ireturn) 1 24 := ⟨by decide +kernel, rfl⟩
theorem cK_set_24 : Dc yK_set 24 (.aload_n 0) 1 25 := ⟨by decide +kernel, rfl⟩
theorem cK_set_25 : Dc yK_set 25 (.getfield 19) 3 28 := ⟨by decide +kernel, rfl⟩
theorem cK_set_28 : Dc yK_set 28 (.getfield 144) 3 31 := ⟨by decide +kernel, rfl⟩
theorem cK_set_31 : Dc yK_set 31 (.iload_n 1) 1 32 := ⟨by decide +kernel, rfl⟩
theorem cK_set_32 : Dc yK_set 32 (.invokestatic 140) 3 35 := ⟨by decide +kernel, rfl⟩
theorem cK_set_35 : Dc yK_set 35 (.istore_n 3) 1 36 := ⟨by decide +kernel, rfl⟩
theorem cK_set_36 : Dc yK_set 36 (.iload_n 3) 1 37 := ⟨by decide +kernel, rfl⟩
theorem cK_set_37 : Dc yK_set 37 (.iload_n 2) 1 38 := ⟨by decide +kernel, rfl⟩
theorem cK_set_38 : Db yK_set 38 (.if_icmp .ne 6) 3 41 (6) 44 := ⟨by decide +kernel, rfl, by decide⟩
theorem cK_set_41 : Dc yK_set 41 (.bipush (-3)) 2 43 := ⟨by decide +kernel, rfl⟩
theorem cK_set_43 : Dc yK_set 43 (.ireturn) 1 44 := ⟨by decide +kernel, rfl⟩
theorem cK_set_44 : Dc yK_set 44 (.aload_n 0) 1 45 := ⟨by decide +kernel, rfl⟩
theorem cK_set_45 : Dc yK_set 45 (.getfield 26) 3 48 := ⟨by decide +kernel, rfl⟩
theorem cK_set_48 : Dc yK_set 48 (.aload_n 0) 1 49 := ⟨by decide +kernel, rfl⟩
theorem cK_set_49 : Dc yK_set 49 (.getfield 19) 3 52 := ⟨by decide +kernel, rfl⟩
theorem cK_set_52 : Dc yK_set 52 (.invokevirtual 160) 3 55 := ⟨by decide +kernel, rfl⟩
theorem cK_set_55 : Dc yK_set 55 (.aload_n 0) 1 56 := ⟨by decide +kernel, rfl⟩
theorem cK_set_56 : Dc yK_set 56 (.getfield 19) 3 59 := ⟨by decide +kernel, rfl⟩
theorem cK_set_59 : Dc yK_set 59 (.getfield 144) 3 62 := ⟨by decide +kernel, rfl⟩
theorem cK_set_62 : Dc yK_set 62 (.iload_n 1) 1 63 := ⟨by decide +kernel, rfl⟩
theorem cK_set_63 : Dc yK_set 63 (.iload_n 2) 1 64 := ⟨by decide +kernel, rfl⟩
theorem cK_set_64 : Dc yK_set 64 (.invokestatic 163) 3 67 := ⟨by decide +kernel, rfl⟩
theorem cK_set_67 : Dc yK_set 67 (.iload_n 3) 1 68 := ⟨by decide +kernel, rfl⟩
theorem cK_set_68 : Dc yK_set 68 (.iconst 2) 1 69 := ⟨by decide +kernel, rfl⟩
theorem cK_set_69 : Dc yK_set 69 (.iadd) 1 70 := ⟨by decide +kernel, rfl⟩
theorem cK_set_70 : Dc yK_set 70 (.ireturn) 1 71 := ⟨by decide +kernel, rfl⟩
theorem cK_cut_0 : Dc yK_cut 0 (.aload_n 0) 1 1 := ⟨by decide +kernel, rfl⟩
theorem cK_cut_1 : Dc yK_cut 1 (.getfield 19) 3 4 := ⟨by decide +kernel, rfl⟩
theorem cK_cut_4 : Dc yK_cut 4 (.iload_n 1) 1 5 := ⟨by decide +kernel, rfl⟩
theorem cK_cut_5 : Dc yK_cut 5 (.invokevirtual 132) 3 8 := ⟨by decide +kernel, rfl⟩
theorem cK_cut_8 : Db yK_cut 8 (.ifCond .ne 5) 3 11 (5) 13 := ⟨by decide +kernel, rfl, by decide⟩
theorem cK_cut_11 : Dc yK_cut 11 (.iconst (-1)) 1 12 := ⟨by decide +kernel, rfl⟩
theorem cK_cut_12 : Dc yK_cut 12 (.ireturn) 1 13 := ⟨by decide +kernel, rfl⟩
theorem cK_cut_13 : Dc yK_cut 13 (.aload_n 0) 1 14 := ⟨by decide +kernel, rfl⟩
theorem cK_cut_14 : Dc yK_cut 14 (.getfield 26) 3 17 := ⟨by decide +kernel, rfl⟩
theorem cK_cut_17 : Dc yK_cut 17 (.aload_n 0) 1 18 := ⟨by decide +kernel, rfl⟩
theorem cK_cut_18 : Dc yK_cut 18 (.getfield 19) 3 21 := ⟨by decide +kernel, rfl⟩
theorem cK_cut_21 : Dc yK_cut 21 (.invokevirtual 160) 3 24 := ⟨by decide +kernel, rfl⟩
theorem cK_cut_24 : Dc yK_cut 24 (.aload_n 0) 1 25 := ⟨by decide +kernel, rfl⟩
theorem cK_cut_25 : Dc yK_cut 25 (.getfield 19) 3 28 := ⟨by decide +kernel, rfl⟩
theorem cK_cut_28 : Dc yK_cut 28 (.iload_n 1) 1 29 := ⟨by decide +kernel, rfl⟩
theorem cK_cut_29 : Dc yK_cut 29 (.putfield 106) 3 32 := ⟨by decide +kernel, rfl⟩
theorem cK_cut_32 : Dc yK_cut 32 (.aload_n 0) 1 33 := ⟨by decide +kernel, rfl⟩
theorem cK_cut_33 : Dc yK_cut 33 (.getfield 19) 3 36 := ⟨by decide +kernel, rfl⟩
theorem cK_cut_36 : Dc yK_cut 36 (.getfield 106) 3 39 := ⟨by decide +kernel, rfl⟩
theorem cK_cut_39 : Dc yK_cut 39 (.ireturn) 1 40 := ⟨by decide +kernel, rfl⟩
theorem cK_turn_0 : Dc yK_turn 0 (.iload_n 1) 1 1 := ⟨by decide +kernel, rfl⟩
theorem cK_turn_1 : Dc yK_turn 1 (.iconst 2) 1 2 := ⟨by decide +kernel, rfl⟩
theorem cK_turn_2 : Dc yK_turn 2 (.invokestatic 156) 3 5 := ⟨by decide +kernel, rfl⟩
theorem cK_turn_5 : Db yK_turn 5 (.ifCond .eq 11) 3 8 (11) 16 := ⟨by decide +kernel, rfl, by decide⟩
theorem cK_turn_8 : Dc yK_turn 8 (.iload_n 2) 1 9 := ⟨by decide +kernel, rfl⟩
theorem cK_turn_9 : Dc yK_turn 9 (.iconst 2) 1 10 := ⟨by decide +kernel, rfl⟩
theorem cK_turn_10 : Dc yK_turn 10 (.invokestatic 156) 3 13 := ⟨by decide +kernel, rfl⟩
theorem cK_turn_13 : Db yK_turn 13 (.ifCond .ne 6) 3 16 (6) 19 := ⟨by decide +kernel, rfl, by decide⟩
theorem cK_turn_16 : Dc yK_turn 16 (.bipush (-2)) 2 18 := ⟨by decide +kernel, rfl⟩
theorem cK_turn_18 : Dc yK_turn 18 (.ireturn) 1 19 := ⟨by decide +kernel, rfl⟩
theorem cK_turn_19 : Dc yK_turn 19 (.iload_n 1) 1 20 := ⟨by decide +kernel, rfl⟩
theorem cK_turn_20 : Dc yK_turn 20 (.aload_n 0) 1 21 := ⟨by decide +kernel, rfl⟩
theorem cK_turn_21 : Dc yK_turn 21 (.getfield 19) 3 24 := ⟨by decide +kernel, rfl⟩
theorem cK_turn_24 : Dc yK_turn 24 (.getfield 109) 3 27 := ⟨by decide +kernel, rfl⟩
theorem cK_turn_27 : Db yK_turn 27 (.if_icmp .ne 17) 3 30 (17) 44 := ⟨by decide +kernel, rfl, by decide⟩
theorem cK_turn_30 : Dc yK_turn 30 (.iload_n 2) 1 31 := ⟨by decide +kernel, rfl⟩
theorem cK_turn_31 : Dc yK_turn 31 (.aload_n 0) 1 32 := ⟨by decide +kernel, rfl⟩
theorem cK_turn_32 : Dc yK_turn 32 (.getfield 19) 3 35 := ⟨by decide +kernel, rfl⟩
theorem cK_turn_35 : Dc yK_turn 35 (.getfield 112) 3 38 := ⟨by decide +kernel, rfl⟩
theorem cK_turn_38 : Db yK_turn 38 (.if_icmp .ne 6) 3 41 (6) 44 := ⟨by decide +kernel, rfl, by decide⟩
theorem cK_turn_41 : Dc yK_turn 41 (.bipush (-3)) 2 43 := ⟨by decide +kernel, rfl⟩
theorem cK_turn_43 : Dc yK_turn 43 (.ireturn) 1 44 := ⟨by decide +kernel, rfl⟩
theorem cK_turn_44 : Dc yK_turn 44 (.aload_n 0) 1 45 := ⟨by decide +kernel, rfl⟩
theorem cK_turn_45 : Dc yK_turn 45 (.getfield 19) 3 48 := ⟨by decide +kernel, rfl⟩
theorem cK_turn_48 : Dc yK_turn 48 (.getfield 109) 3 51 := ⟨by decide +kernel, rfl⟩
theorem cK_turn_51 : Dc yK_turn 51 (.aload_n 0) 1 52 := ⟨by decide +kernel, rfl⟩
theorem cK_turn_52 : Dc yK_turn 52 (.getfield 19) 3 55 := ⟨by decide +kernel, rfl⟩
theorem cK_turn_55 : Dc yK_turn 55 (.getfield 112) 3 58 := ⟨by decide +kernel, rfl⟩
theorem cK_turn_58 : Dc yK_turn 58 (.invokestatic 167) 3 61 := ⟨by decide +kernel, rfl⟩
theorem cK_turn_61 : Dc yK_turn 61 (.istore_n 3) 1 62 := ⟨by decide +kernel, rfl⟩
theorem cK_turn_62 : Dc yK_turn 62 (.aload_n 0) 1 63 := ⟨by decide +kernel, rfl⟩
theorem cK_turn_63 : Dc yK_turn 63 (.getfield 26) 3 66 := ⟨by decide +kernel, rfl⟩
theorem cK_turn_66 : Dc yK_turn 66 (.aload_n 0) 1 67 := ⟨by decide +kernel, rfl⟩
theorem cK_turn_67 : Dc yK_turn 67 (.getfield 19) 3 70 := ⟨by decide +kernel, rfl⟩
theorem cK_turn_70 : Dc yK_turn 70 (.invokevirtual 160) 3 73 := ⟨by decide +kernel, rfl⟩
theorem cK_turn_73 : Dc yK_turn 73 (.aload_n 0) 1 74 := ⟨by decide +kernel, rfl⟩
theorem cK_turn_74 : Dc yK_turn 74 (.getfield 19) 3 77 := ⟨by decide +kernel, rfl⟩
theorem cK_turn_77 : Dc yK_turn 77 (.iload_n 1) 1 78 := ⟨by decide +kernel, rfl⟩
theorem cK_turn_78 : Dc yK_turn 78 (.putfield 109) 3 81 := ⟨by decide +kernel, rfl⟩
theorem cK_turn_81 : Dc yK_turn 81 (.aload_n 0) 1 82 := ⟨by decide +kernel, rfl⟩
theorem cK_turn_82 : Dc yK_turn 82 (.getfield 19) 3 85 := ⟨by decide +kernel, rfl⟩
theorem cK_turn_85 : Dc yK_turn 85 (.iload_n 2) 1 86 := ⟨by decide +kernel, rfl⟩
theorem cK_turn_86 : Dc yK_turn 86 (.putfield 112) 3 89 := ⟨by decide +kernel, rfl⟩
theorem cK_turn_89 : Dc yK_turn 89 (.iload_n 3) 1 90 := ⟨by decide +kernel, rfl⟩
theorem cK_turn_90 : Dc yK_turn 90 (.ireturn) 1 91 := ⟨by decide +kernel, rfl⟩
theorem cK_toldTogether_0 : Dc yK_toldTogether 0 (.bipush 10) 2 2 := ⟨by decide +kernel, rfl⟩
theorem cK_toldTogether_2 : Dc yK_toldTogether 2 (.iload_n 0) 1 3 := ⟨by decide +kernel, rfl⟩
theorem cK_toldTogether_3 : Dc yK_toldTogether 3 (.iconst 2) 1 4 := ⟨by decide +kernel, rfl⟩
theorem cK_toldTogether_4 : Dc yK_toldTogether 4 (.iadd) 1 5 := ⟨by decide +kernel, rfl⟩
theorem cK_toldTogether_5 : Dc yK_toldTogether 5 (.imul) 1 6 := ⟨by decide +kernel, rfl⟩
theorem cK_toldTogether_6 : Dc yK_toldTogether 6 (.iload_n 1) 1 7 := ⟨by decide +kernel, rfl⟩
theorem cK_toldTogether_7 : Dc yK_toldTogether 7 (.iadd) 1 8 := ⟨by decide +kernel, rfl⟩
theorem cK_toldTogether_8 : Dc yK_toldTogether 8 (.iconst 2) 1 9 := ⟨by decide +kernel, rfl⟩
theorem cK_toldTogether_9 : Dc yK_toldTogether 9 (.iadd) 1 10 := ⟨by decide +kernel, rfl⟩
theorem cK_toldTogether_10 : Dc yK_toldTogether 10 (.ireturn) 1 11 := ⟨by decide +kernel, rfl⟩
theorem cK_undo_0 : Dc yK_undo 0 (.aload_n 0) 1 1 := ⟨by decide +kernel, rfl⟩
theorem cK_undo_1 : Dc yK_undo 1 (.getfield 26) 3 4 := ⟨by decide +kernel, rfl⟩
theorem cK_undo_4 : Dc yK_undo 4 (.getfield 130) 3 7 := ⟨by decide +kernel, rfl⟩
theorem cK_undo_7 : Db yK_undo 7 (.ifCond .gt 6) 3 10 (6) 13 := ⟨by decide +kernel, rfl, by decide⟩
theorem cK_undo_10 : Dc yK_undo 10 (.bipush (-3)) 2 12 := ⟨by decide +kernel, rfl⟩
theorem cK_undo_12 : Dc yK_undo 12 (.ireturn) 1 13 := ⟨by decide +kernel, rfl⟩
theorem cK_undo_13 : Dc yK_undo 13 (.aload_n 0) 1 14 := ⟨by decide +kernel, rfl⟩
theorem cK_undo_14 : Dc yK_undo 14 (.getfield 26) 3 17 := ⟨by decide +kernel, rfl⟩
theorem cK_undo_17 : Dc yK_undo 17 (.aload_n 0) 1 18 := ⟨by decide +kernel, rfl⟩
theorem cK_undo_18 : Dc yK_undo 18 (.getfield 19) 3 21 := ⟨by decide +kernel, rfl⟩
theorem cK_undo_21 : Dc yK_undo 21 (.invokevirtual 171) 3 24 := ⟨by decide +kernel, rfl⟩
theorem cK_undo_24 : Dc yK_undo 24 (.aload_n 0) 1 25 := ⟨by decide +kernel, rfl⟩
theorem cK_undo_25 : Dc yK_undo 25 (.getfield 26) 3 28 := ⟨by decide +kernel, rfl⟩
theorem cK_undo_28 : Dc yK_undo 28 (.getfield 130) 3 31 := ⟨by decide +kernel, rfl⟩
theorem cK_undo_31 : Dc yK_undo 31 (.ireturn) 1 32 := ⟨by decide +kernel, rfl⟩
theorem cK_sees_0 : Dc yK_sees 0 (.iload_n 1) 1 1 := ⟨by decide +kernel, rfl⟩
theorem cK_sees_1 : Dc yK_sees 1 (.bipush 100) 2 3 := ⟨by decide +kernel, rfl⟩
theorem cK_sees_3 : Dc yK_sees 3 (.invokestatic 156) 3 6 := ⟨by decide +kernel, rfl⟩
theorem cK_sees_6 : Db yK_sees 6 (.ifCond .ne 6) 3 9 (6) 12 := ⟨by decide +kernel, rfl, by decide⟩
theorem cK_sees_9 : Dc yK_sees 9 (.bipush (-2)) 2 11 := ⟨by decide +kernel, rfl⟩
theorem cK_sees_11 : Dc yK_sees 11 (.ireturn) 1 12 := ⟨by decide +kernel, rfl⟩
theorem cK_sees_12 : Dc yK_sees 12 (.aload_n 0) 1 13 := ⟨by decide +kernel, rfl⟩
theorem cK_sees_13 : Dc yK_sees 13 (.getfield 59) 3 16 := ⟨by decide +kernel, rfl⟩
theorem cK_sees_16 : Dc yK_sees 16 (.aload_n 0) 1 17 := ⟨by decide +kernel, rfl⟩
theorem cK_sees_17 : Dc yK_sees 17 (.getfield 19) 3 20 := ⟨by decide +kernel, rfl⟩
theorem cK_sees_20 : Dc yK_sees 20 (.invokevirtual 124) 3 23 := ⟨by decide +kernel, rfl⟩
theorem cK_sees_23 : Dc yK_sees 23 (.aload_n 0) 1 24 := ⟨by decide +kernel, rfl⟩
theorem cK_sees_24 : Dc yK_sees 24 (.getfield 59) 3 27 := ⟨by decide +kernel, rfl⟩
theorem cK_sees_27 : Dc yK_sees 27 (.iload_n 1) 1 28 := ⟨by decide +kernel, rfl⟩
theorem cK_sees_28 : Dc yK_sees 28 (.invokevirtual 174) 3 31 := ⟨by decide +kernel, rfl⟩
theorem cK_sees_31 : Db yK_sees 31 (.ifCond .eq 7) 3 34 (7) 38 := ⟨by decide +kernel, rfl, by decide⟩
theorem cK_sees_34 : Dc yK_sees 34 (.iconst 1) 1 35 := ⟨by decide +kernel, rfl⟩
theorem cK_sees_35 : Db yK_sees 35 (.goto 4) 3 38 (4) 39 := ⟨by decide +kernel, rfl, by decide⟩
theorem cK_sees_38 : Dc yK_sees 38 (.iconst 0) 1 39 := ⟨by decide +kernel, rfl⟩
theorem cK_sees_39 : Dc yK_sees 39 (.ireturn) 1 40 := ⟨by decide +kernel, rfl⟩
theorem cK_cheapest_0 : Dc yK_cheapest 0 (.iload_n 1) 1 1 := ⟨by decide +kernel, rfl⟩
theorem cK_cheapest_1 : Dc yK_cheapest 1 (.bipush 100) 2 3 := ⟨by decide +kernel, rfl⟩
theorem cK_cheapest_3 : Dc yK_cheapest 3 (.invokestatic 156) 3 6 := ⟨by decide +kernel, rfl⟩
theorem cK_cheapest_6 : Db yK_cheapest 6 (.ifCond .eq 10) 3 9 (10) 16 := ⟨by decide +kernel, rfl, by decide⟩
theorem cK_cheapest_9 : Dc yK_cheapest 9 (.iload_n 2) 1 10 := ⟨by decide +kernel, rfl⟩
theorem cK_cheapest_10 : Dc yK_cheapest 10 (.invokestatic 177) 3 13 := ⟨by decide +kernel, rfl⟩
theorem cK_cheapest_13 : Db yK_cheapest 13 (.ifCond .ne 6) 3 16 (6) 19 := ⟨by decide +kernel, rfl, by decide⟩
theorem cK_cheapest_16 : Dc yK_cheapest 16 (.bipush (-2)) 2 18 := ⟨by decide +kernel, rfl⟩
theorem cK_cheapest_18 : Dc yK_cheapest 18 (.ireturn) 1 19 := ⟨by decide +kernel, rfl⟩
theorem cK_cheapest_19 : Dc yK_cheapest 19 (.aload_n 0) 1 20 := ⟨by decide +kernel, rfl⟩
theorem cK_cheapest_20 : Dc yK_cheapest 20 (.iload_n 1) 1 21 := ⟨by decide +kernel, rfl⟩
theorem cK_cheapest_21 : Dc yK_cheapest 21 (.invokevirtual 180) 3 24 := ⟨by decide +kernel, rfl⟩
theorem cK_cheapest_24 : Dc yK_cheapest 24 (.iload_n 2) 1 25 := ⟨by decide +kernel, rfl⟩
theorem cK_cheapest_25 : Db yK_cheapest 25 (.ifCond .ne 13) 3 28 (13) 38 := ⟨by decide +kernel, rfl, by decide⟩
theorem cK_cheapest_28 : Dc yK_cheapest 28 (.aload_n 0) 1 29 := ⟨by decide +kernel, rfl⟩
theorem cK_cheapest_29 : Dc yK_cheapest 29 (.getfield 73) 3 32 := ⟨by decide +kernel, rfl⟩
theorem cK_cheapest_32 : Dc yK_cheapest 32 (.getfield 184) 3 35 := ⟨by decide +kernel, rfl⟩
theorem cK_cheapest_35 : Db yK_cheapest 35 (.goto 10) 3 38 (10) 45 := ⟨by decide +kernel, rfl, by decide⟩
theorem cK_cheapest_38 : Dc yK_cheapest 38 (.aload_n 0) 1 39 := ⟨by decide +kernel, rfl⟩
theorem cK_cheapest_39 : Dc yK_cheapest 39 (.getfield 73) 3 42 := ⟨by decide +kernel, rfl⟩
theorem cK_cheapest_42 : Dc yK_cheapest 42 (.getfield 187) 3 45 := ⟨by decide +kernel, rfl⟩
theorem cK_cheapest_45 : Dc yK_cheapest 45 (.ireturn) 1 46 := ⟨by decide +kernel, rfl⟩
theorem cK_isFirstOrSecond_0 : Dc yK_isFirstOrSecond 0 (.iload_n 0) 1 1 := ⟨by decide +kernel, rfl⟩
theorem cK_isFirstOrSecond_1 : Db yK_isFirstOrSecond 1 (.ifCond .eq 8) 3 4 (8) 9 := ⟨by decide +kernel, rfl, by decide⟩
theorem cK_isFirstOrSecond_4 : Dc yK_isFirstOrSecond 4 (.iload_n 0) 1 5 := ⟨by decide +kernel, rfl⟩
theorem cK_isFirstOrSecond_5 : Dc yK_isFirstOrSecond 5 (.iconst 1) 1 6 := ⟨by decide +kernel, rfl⟩
theorem cK_isFirstOrSecond_6 : Db yK_isFirstOrSecond 6 (.if_icmp .ne 7) 3 9 (7) 13 := ⟨by decide +kernel, rfl, by decide⟩
theorem cK_isFirstOrSecond_9 : Dc yK_isFirstOrSecond 9 (.iconst 1) 1 10 := ⟨by decide +kernel, rfl⟩
theorem cK_isFirstOrSecond_10 : Db yK_isFirstOrSecond 10 (.goto 4) 3 13 (4) 14 := ⟨by decide +kernel, rfl, by decide⟩
theorem cK_isFirstOrSecond_13 : Dc yK_isFirstOrSecond 13 (.iconst 0) 1 14 := ⟨by decide +kernel, rfl⟩
theorem cK_isFirstOrSecond_14 : Dc yK_isFirstOrSecond 14 (.ireturn) 1 15 := ⟨by decide +kernel, rfl⟩
theorem cK_seekYards_0 : Dc yK_seekYards 0 (.aload_n 0) 1 1 := ⟨by decide +kernel, rfl⟩
theorem cK_seekYards_1 : Dc yK_seekYards 1 (.getfield 73) 3 4 := ⟨by decide +kernel, rfl⟩
theorem cK_seekYards_4 : Dc yK_seekYards 4 (.invokevirtual 252) 3 7 := ⟨by decide +kernel, rfl⟩
theorem cK_seekYards_7 : Dc yK_seekYards 7 (.aload_n 0) 1 8 := ⟨by decide +kernel, rfl⟩
theorem cK_seekYards_8 : Dc yK_seekYards 8 (.getfield 53) 3 11 := ⟨by decide +kernel, rfl⟩
theorem cK_seekYards_11 : Dc yK_seekYards 11 (.aload_n 0) 1 12 := ⟨by decide +kernel, rfl⟩
theorem cK_seekYards_12 : Dc yK_seekYards 12 (.getfield 19) 3 15 := ⟨by decide +kernel, rfl⟩
theorem cK_seekYards_15 : Dc yK_seekYards 15 (.invokevirtual 239) 3 18 := ⟨by decide +kernel, rfl⟩
theorem cK_seekYards_18 : Dc yK_seekYards 18 (.aload_n 0) 1 19 := ⟨by decide +kernel, rfl⟩
theorem cK_seekYards_19 : Dc yK_seekYards 19 (.getfield 66) 3 22 := ⟨by decide +kernel, rfl⟩
theorem cK_seekYards_22 : Dc yK_seekYards 22 (.aload_n 0) 1 23 := ⟨by decide +kernel, rfl⟩
theorem cK_seekYards_23 : Dc yK_seekYards 23 (.getfield 19) 3 26 := ⟨by decide +kernel, rfl⟩
theorem cK_seekYards_26 : Dc yK_seekYards 26 (.getfield 106) 3 29 := ⟨by decide +kernel, rfl⟩
theorem cK_seekYards_29 : Dc yK_seekYards 29 (.iconst 3) 1 30 := ⟨by decide +kernel, rfl⟩
theorem cK_seekYards_30 : Dc yK_seekYards 30 (.invokevirtual 255) 3 33 := ⟨by decide +kernel, rfl⟩
theorem cK_seekYards_33 : Dc yK_seekYards 33 (.iconst 0) 1 34 := ⟨by decide +kernel, rfl⟩
theorem cK_seekYards_34 : Dc yK_seekYards 34 (.istore_n 2) 1 35 := ⟨by decide +kernel, rfl⟩
theorem cK_seekYards_35 : Dc yK_seekYards 35 (.iload_n 2) 1 36 := ⟨by decide +kernel, rfl⟩
theorem cK_seekYards_36 : Dc yK_seekYards 36 (.aload_n 0) 1 37 := ⟨by decide +kernel, rfl⟩
theorem cK_seekYards_37 : Dc yK_seekYards 37 (.getfield 66) 3 40 := ⟨by decide +kernel, rfl⟩
theorem cK_seekYards_40 : Dc yK_seekYards 40 (.invokevirtual 259) 3 43 := ⟨by decide +kernel, rfl⟩
theorem cK_seekYards_43 : Db yK_seekYards 43 (.if_icmp .ge 65) 3 46 (65) 108 := ⟨by decide +kernel, rfl, by decide⟩
theorem cK_seekYards_46 : Dc yK_seekYards 46 (.aload_n 0) 1 47 := ⟨by decide +kernel, rfl⟩
theorem cK_seekYards_47 : Dc yK_seekYards 47 (.getfield 66) 3 50 := ⟨by decide +kernel, rfl⟩
theorem cK_seekYards_50 : Dc yK_seekYards 50 (.invokevirtual 262) 3 53 := ⟨by decide +kernel, rfl⟩
theorem cK_seekYards_53 : Dc yK_seekYards 53 (.istore_n 3) 1 54 := ⟨by decide +kernel, rfl⟩
theorem cK_seekYards_54 : Dc yK_seekYards 54 (.aload_n 0) 1 55 := ⟨by decide +kernel, rfl⟩
theorem cK_seekYards_55 : Dc yK_seekYards 55 (.getfield 73) 3 58 := ⟨by decide +kernel, rfl⟩
theorem cK_seekYards_58 : Dc yK_seekYards 58 (.iload_n 3) 1 59 := ⟨by decide +kernel, rfl⟩
theorem cK_seekYards_59 : Dc yK_seekYards 59 (.invokevirtual 265) 3 62 := ⟨by decide +kernel, rfl⟩
theorem cK_seekYards_62 : Db yK_seekYards 62 (.ifCond .eq 33) 3 65 (33) 95 := ⟨by decide +kernel, rfl, by decide⟩
theorem cK_seekYards_65 : Dc yK_seekYards 65 (.aload_n 0) 1 66 := ⟨by decide +kernel, rfl⟩
theorem cK_seekYards_66 : Dc yK_seekYards 66 (.invokevirtual 268) 3 69 := ⟨by decide +kernel, rfl⟩
theorem cK_seekYards_69 : Db yK_seekYards 69 (.ifCond .eq 26) 3 72 (26) 95 := ⟨by decide +kernel, rfl, by decide⟩
theorem cK_seekYards_72 : Dc yK_seekYards 72 (.aload_n 0) 1 73 := ⟨by decide +kernel, rfl⟩
theorem cK_seekYards_73 : Dc yK_seekYards 73 (.iload_n 1) 1 74 := ⟨by decide +kernel, rfl⟩
theorem cK_seekYards_74 : Dc yK_seekYards 74 (.invokevirtual 272) 3 77 := ⟨by decide +kernel, rfl⟩
theorem cK_seekYards_77 : Db yK_seekYards 77 (.ifCond .eq 18) 3 80 (18) 95 := ⟨by decide +kernel, rfl, by decide⟩
theorem cK_seekYards_80 : Dc yK_seekYards 80 (.aload_n 0) 1 81 := ⟨by decide +kernel, rfl⟩
theorem cK_seekYards_81 : Dc yK_seekYards 81 (.getfield 73) 3 84 := ⟨by decide +kernel, rfl⟩
theorem cK_seekYards_84 : Dc yK_seekYards 84 (.iload_n 3) 1 85 := ⟨by decide +kernel, rfl⟩
theorem cK_seekYards_85 : Dc yK_seekYards 85 (.aload_n 0) 1 86 := ⟨by decide +kernel, rfl⟩
theorem cK_seekYards_86 : Dc yK_seekYards 86 (.getfield 66) 3 89 := ⟨by decide +kernel, rfl⟩
theorem cK_seekYards_89 : Dc yK_seekYards 89 (.invokevirtual 275) 3 92 := ⟨by decide +kernel, rfl⟩
theorem cK_seekYards_92 : Dc yK_seekYards 92 (.invokevirtual 277) 3 95 := ⟨by decide +kernel, rfl⟩
theorem cK_seekYards_95 : Dc yK_seekYards 95 (.aload_n 0) 1 96 := ⟨by decide +kernel, rfl⟩
theorem cK_seekYards_96 : Dc yK_seekYards 96 (.getfield 66) 3 99 := ⟨by decide +kernel, rfl⟩
theorem cK_seekYards_99 : Dc yK_seekYards 99 (.invokevirtual 280) 3 102 := ⟨by decide +kernel, rfl⟩
theorem cK_seekYards_102 : Dc yK_seekYards 102 (.iinc 2 1) 3 105 := ⟨by decide +kernel, rfl⟩
theorem cK_seekYards_105 : Db yK_seekYards 105 (.goto (-70)) 3 108 (-70) 35 := ⟨by decide +kernel, rfl, by decide⟩
theorem cK_seekYards_108 : Dc yK_seekYards 108 (.return_) 1 109 := ⟨by decide +kernel, rfl⟩
theorem cK_letOutByWay_0 : Dc yK_letOutByWay 0 (.iconst 0) 1 1 := ⟨by decide +kernel, rfl⟩
theorem cK_letOutByWay_1 : Dc yK_letOutByWay 1 (.istore_n 1) 1 2 := ⟨by decide +kernel, rfl⟩
theorem cK_letOutByWay_2 : Dc yK_letOutByWay 2 (.iload_n 1) 1 3 := ⟨by decide +kernel, rfl⟩
theorem cK_letOutByWay_3 : Dc yK_letOutByWay 3 (.aload_n 0) 1 4 := ⟨by decide +kernel, rfl⟩
theorem cK_letOutByWay_4 : Dc yK_letOutByWay 4 (.getfield 19) 3 7 := ⟨by decide +kernel, rfl⟩
theorem cK_letOutByWay_7 : Dc yK_letOutByWay 7 (.getfield 106) 3 10 := ⟨by decide +kernel, rfl⟩
theorem cK_letOutByWay_10 : Db yK_letOutByWay 10 (.if_icmp .ge 53) 3 13 (53) 63 := ⟨by decide +kernel, rfl, by decide⟩
theorem cK_letOutByWay_13 : Dc yK_letOutByWay 13 (.aload_n 0) 1 14 := ⟨by decide +kernel, rfl⟩
theorem cK_letOutByWay_14 : Dc yK_letOutByWay 14 (.getfield 19) 3 17 := ⟨by decide +kernel, rfl⟩
theorem cK_letOutByWay_17 : Dc yK_letOutByWay 17 (.getfield 136) 3 20 := ⟨by decide +kernel, rfl⟩
theorem cK_letOutByWay_20 : Dc yK_letOutByWay 20 (.iload_n 1) 1 21 := ⟨by decide +kernel, rfl⟩
theorem cK_letOutByWay_21 : Dc yK_letOutByWay 21 (.invokestatic 140) 3 24 := ⟨by decide +kernel, rfl⟩
theorem cK_letOutByWay_24 : Dc yK_letOutByWay 24 (.aload_n 0) 1 25 := ⟨by decide +kernel, rfl⟩
theorem cK_letOutByWay_25 : Dc yK_letOutByWay 25 (.getfield 66) 3 28 := ⟨by decide +kernel, rfl⟩
theorem cK_letOutByWay_28 : Dc yK_letOutByWay 28 (.getfield 283) 3 31 := ⟨by decide +kernel, rfl⟩
theorem cK_letOutByWay_31 : Dc yK_letOutByWay 31 (.iload_n 1) 1 32 := ⟨by decide +kernel, rfl⟩
theorem cK_letOutByWay_32 : Dc yK_letOutByWay 32 (.invokestatic 140) 3 35 := ⟨by decide +kernel, rfl⟩
theorem cK_letOutByWay_35 : Dc yK_letOutByWay 35 (.iadd) 1 36 := ⟨by decide +kernel, rfl⟩
theorem cK_letOutByWay_36 : Dc yK_letOutByWay 36 (.istore_n 2) 1 37 := ⟨by decide +kernel, rfl⟩
theorem cK_letOutByWay_37 : Dc yK_letOutByWay 37 (.iload_n 2) 1 38 := ⟨by decide +kernel, rfl⟩
theorem cK_letOutByWay_38 : Dc yK_letOutByWay 38 (.bipush 30) 2 40 := ⟨by decide +kernel, rfl⟩
theorem cK_letOutByWay_40 : Db yK_letOutByWay 40 (.if_icmp .le 5) 3 43 (5) 45 := ⟨by decide +kernel, rfl, by decide⟩
theorem cK_letOutByWay_43 : Dc yK_letOutByWay 43 (.iconst 0) 1 44 := ⟨by decide +kernel, rfl⟩
theorem cK_letOutByWay_44 : Dc yK_letOutByWay 44 (.ireturn) 1 45 := ⟨by decide +kernel, rfl⟩
theorem cK_letOutByWay_45 : Dc yK_letOutByWay 45 (.aload_n 0) 1 46 := ⟨by decide +kernel, rfl⟩
theorem cK_letOutByWay_46 : Dc yK_letOutByWay 46 (.getfield 53) 3 49 := ⟨by decide +kernel, rfl⟩
theorem cK_letOutByWay_49 : Dc yK_letOutByWay 49 (.getfield 136) 3 52 := ⟨by decide +kernel, rfl⟩
theorem cK_letOutByWay_52 : Dc yK_letOutByWay 52 (.iload_n 1) 1 53 := ⟨by decide +kernel, rfl⟩
theorem cK_letOutByWay_53 : Dc yK_letOutByWay 53 (.iload_n 2) 1 54 := ⟨by decide +kernel, rfl⟩
theorem cK_letOutByWay_54 : Dc yK_letOutByWay 54 (.invokestatic 163) 3 57 := ⟨by decide +kernel, rfl⟩
theorem cK_letOutByWay_57 : Dc yK_letOutByWay 57 (.iinc 1 1) 3 60 := ⟨by decide +kernel, rfl⟩
theorem cK_letOutByWay_60 : Db yK_letOutByWay 60 (.goto (-58)) 3 63 (-58) 2 := ⟨by decide +kernel, rfl, by decide⟩
theorem cK_letOutByWay_63 : Dc yK_letOutByWay 63 (.iconst 1) 1 64 := ⟨by decide +kernel, rfl⟩
theorem cK_letOutByWay_64 : Dc yK_letOutByWay 64 (.ireturn) 1 65 := ⟨by decide +kernel, rfl⟩
theorem cK_trialViews_0 : Dc yK_trialViews 0 (.aload_n 0) 1 1 := ⟨by decide +kernel, rfl⟩
theorem cK_trialViews_1 : Dc yK_trialViews 1 (.getfield 59) 3 4 := ⟨by decide +kernel, rfl⟩
theorem cK_trialViews_4 : Dc yK_trialViews 4 (.aload_n 0) 1 5 := ⟨by decide +kernel, rfl⟩
theorem cK_trialViews_5 : Dc yK_trialViews 5 (.getfield 53) 3 8 := ⟨by decide +kernel, rfl⟩
theorem cK_trialViews_8 : Dc yK_trialViews 8 (.invokevirtual 124) 3 11 := ⟨by decide +kernel, rfl⟩
theorem cK_trialViews_11 : Dc yK_trialViews 11 (.aload_n 0) 1 12 := ⟨by decide +kernel, rfl⟩
theorem cK_trialViews_12 : Dc yK_trialViews 12 (.getfield 59) 3 15 := ⟨by decide +kernel, rfl⟩
theorem cK_trialViews_15 : Dc yK_trialViews 15 (.iload_n 1) 1 16 := ⟨by decide +kernel, rfl⟩
theorem cK_trialViews_16 : Dc yK_trialViews 16 (.invokevirtual 174) 3 19 := ⟨by decide +kernel, rfl⟩
theorem cK_trialViews_19 : Dc yK_trialViews 19 (.ireturn) 1 20 := ⟨by decide +kernel, rfl⟩
theorem cK_fewest_0 : Dc yK_fewest 0 (.iload_n 1) 1 1 := ⟨by decide +kernel, rfl⟩
theorem cK_fewest_1 : Dc yK_fewest 1 (.bipush 100) 2 3 := ⟨by decide +kernel, rfl⟩
theorem cK_fewest_3 : Dc yK_fewest 3 (.invokestatic 156) 3 6 := ⟨by decide +kernel, rfl⟩
theorem cK_fewest_6 : Db yK_fewest 6 (.ifCond .eq 10) 3 9 (10) 16 := ⟨by decide +kernel, rfl, by decide⟩
theorem cK_fewest_9 : Dc yK_fewest 9 (.iload_n 2) 1 10 := ⟨by decide +kernel, rfl⟩
theorem cK_fewest_10 : Dc yK_fewest 10 (.invokestatic 177) 3 13 := ⟨by decide +kernel, rfl⟩
theorem cK_fewest_13 : Db yK_fewest 13 (.ifCond .ne 6) 3 16 (6) 19 := ⟨by decide +kernel, rfl, by decide⟩
theorem cK_fewest_16 : Dc yK_fewest 16 (.bipush (-2)) 2 18 := ⟨by decide +kernel, rfl⟩
theorem cK_fewest_18 : Dc yK_fewest 18 (.ireturn) 1 19 := ⟨by decide +kernel, rfl⟩
theorem cK_fewest_19 : Dc yK_fewest 19 (.aload_n 0) 1 20 := ⟨by decide +kernel, rfl⟩
theorem cK_fewest_20 : Dc yK_fewest 20 (.iload_n 1) 1 21 := ⟨by decide +kernel, rfl⟩
theorem cK_fewest_21 : Dc yK_fewest 21 (.invokevirtual 190) 3 24 := ⟨by decide +kernel, rfl⟩
theorem cK_fewest_24 : Dc yK_fewest 24 (.iload_n 2) 1 25 := ⟨by decide +kernel, rfl⟩
theorem cK_fewest_25 : Db yK_fewest 25 (.ifCond .ne 13) 3 28 (13) 38 := ⟨by decide +kernel, rfl, by decide⟩
theorem cK_fewest_28 : Dc yK_fewest 28 (.aload_n 0) 1 29 := ⟨by decide +kernel, rfl⟩
theorem cK_fewest_29 : Dc yK_fewest 29 (.getfield 73) 3 32 := ⟨by decide +kernel, rfl⟩
theorem cK_fewest_32 : Dc yK_fewest 32 (.getfield 184) 3 35 := ⟨by decide +kernel, rfl⟩
theorem cK_fewest_35 : Db yK_fewest 35 (.goto 10) 3 38 (10) 45 := ⟨by decide +kernel, rfl, by decide⟩
theorem cK_fewest_38 : Dc yK_fewest 38 (.aload_n 0) 1 39 := ⟨by decide +kernel, rfl⟩
theorem cK_fewest_39 : Dc yK_fewest 39 (.getfield 73) 3 42 := ⟨by decide +kernel, rfl⟩
theorem cK_fewest_42 : Dc yK_fewest 42 (.getfield 187) 3 45 := ⟨by decide +kernel, rfl⟩
theorem cK_fewest_45 : Dc yK_fewest 45 (.ireturn) 1 46 := ⟨by decide +kernel, rfl⟩
theorem cK_seekBridles_0 : Dc yK_seekBridles 0 (.aload_n 0) 1 1 := ⟨by decide +kernel, rfl⟩
theorem cK_seekBridles_1 : Dc yK_seekBridles 1 (.getfield 73) 3 4 := ⟨by decide +kernel, rfl⟩
theorem cK_seekBridles_4 : Dc yK_seekBridles 4 (.invokevirtual 252) 3 7 := ⟨by decide +kernel, rfl⟩
theorem cK_seekBridles_7 : Dc yK_seekBridles 7 (.aload_n 0) 1 8 := ⟨by decide +kernel, rfl⟩
theorem cK_seekBridles_8 : Dc yK_seekBridles 8 (.getfield 53) 3 11 := ⟨by decide +kernel, rfl⟩
theorem cK_seekBridles_11 : Dc yK_seekBridles 11 (.aload_n 0) 1 12 := ⟨by decide +kernel, rfl⟩
theorem cK_seekBridles_12 : Dc yK_seekBridles 12 (.getfield 19) 3 15 := ⟨by decide +kernel, rfl⟩
theorem cK_seekBridles_15 : Dc yK_seekBridles 15 (.invokevirtual 239) 3 18 := ⟨by decide +kernel, rfl⟩
theorem cK_seekBridles_18 : Dc yK_seekBridles 18 (.aload_n 0) 1 19 := ⟨by decide +kernel, rfl⟩
theorem cK_seekBridles_19 : Dc yK_seekBridles 19 (.getfield 66) 3 22 := ⟨by decide +kernel, rfl⟩
theorem cK_seekBridles_22 : Dc yK_seekBridles 22 (.aload_n 0) 1 23 := ⟨by decide +kernel, rfl⟩
theorem cK_seekBridles_23 : Dc yK_seekBridles 23 (.getfield 19) 3 26 := ⟨by decide +kernel, rfl⟩
theorem cK_seekBridles_26 : Dc yK_seekBridles 26 (.getfield 106) 3 29 := ⟨by decide +kernel, rfl⟩
theorem cK_seekBridles_29 : Dc yK_seekBridles 29 (.iconst 4) 1 30 := ⟨by decide +kernel, rfl⟩
theorem cK_seekBridles_30 : Dc yK_seekBridles 30 (.invokevirtual 255) 3 33 := ⟨by decide +kernel, rfl⟩
theorem cK_seekBridles_33 : Dc yK_seekBridles 33 (.iconst 0) 1 34 := ⟨by decide +kernel, rfl⟩
theorem cK_seekBridles_34 : Dc yK_seekBridles 34 (.istore_n 2) 1 35 := ⟨by decide +kernel, rfl⟩
theorem cK_seekBridles_35 : Dc yK_seekBridles 35 (.iload_n 2) 1 36 := ⟨by decide +kernel, rfl⟩
theorem cK_seekBridles_36 : Dc yK_seekBridles 36 (.aload_n 0) 1 37 := ⟨by decide +kernel, rfl⟩
theorem cK_seekBridles_37 : Dc yK_seekBridles 37 (.getfield 66) 3 40 := ⟨by decide +kernel, rfl⟩
theorem cK_seekBridles_40 : Dc yK_seekBridles 40 (.invokevirtual 259) 3 43 := ⟨by decide +kernel, rfl⟩
theorem cK_seekBridles_43 : Db yK_seekBridles 43 (.if_icmp .ge 55) 3 46 (55) 98 := ⟨by decide +kernel, rfl, by decide⟩
theorem cK_seekBridles_46 : Dc yK_seekBridles 46 (.aload_n 0) 1 47 := ⟨by decide +kernel, rfl⟩
theorem cK_seekBridles_47 : Dc yK_seekBridles 47 (.invokevirtual 286) 3 50 := ⟨by decide +kernel, rfl⟩
theorem cK_seekBridles_50 : Dc yK_seekBridles 50 (.istore_n 3) 1 51 := ⟨by decide +kernel, rfl⟩
theorem cK_seekBridles_51 : Dc yK_seekBridles 51 (.aload_n 0) 1 52 := ⟨by decide +kernel, rfl⟩
theorem cK_seekBridles_52 : Dc yK_seekBridles 52 (.getfield 73) 3 55 := ⟨by decide +kernel, rfl⟩
theorem cK_seekBridles_55 : Dc yK_seekBridles 55 (.iload_n 3) 1 56 := ⟨by decide +kernel, rfl⟩
theorem cK_seekBridles_56 : Dc yK_seekBridles 56 (.invokevirtual 265) 3 59 := ⟨by decide +kernel, rfl⟩
theorem cK_seekBridles_59 : Db yK_seekBridles 59 (.ifCond .eq 26) 3 62 (26) 85 := ⟨by decide +kernel, rfl, by decide⟩
theorem cK_seekBridles_62 : Dc yK_seekBridles 62 (.aload_n 0) 1 63 := ⟨by decide +kernel, rfl⟩
theorem cK_seekBridles_63 : Dc yK_seekBridles 63 (.iload_n 1) 1 64 := ⟨by decide +kernel, rfl⟩
theorem cK_seekBridles_64 : Dc yK_seekBridles 64 (.invokevirtual 272) 3 67 := ⟨by decide +kernel, rfl⟩
theorem cK_seekBridles_67 : Db yK_seekBridles 67 (.ifCond .eq 18) 3 70 (18) 85 := ⟨by decide +kernel, rfl, by decide⟩
theorem cK_seekBridles_70 : Dc yK_seekBridles 70 (.aload_n 0) 1 71 := ⟨by decide +kernel, rfl⟩
theorem cK_seekBridles_71 : Dc yK_seekBridles 71 (.getfield 73) 3 74 := ⟨by decide +kernel, rfl⟩
theorem cK_seekBridles_74 : Dc yK_seekBridles 74 (.iload_n 3) 1 75 := ⟨by decide +kernel, rfl⟩
theorem cK_seekBridles_75 : Dc yK_seekBridles 75 (.aload_n 0) 1 76 := ⟨by decide +kernel, rfl⟩
theorem cK_seekBridles_76 : Dc yK_seekBridles 76 (.getfield 66) 3 79 := ⟨by decide +kernel, rfl⟩
theorem cK_seekBridles_79 : Dc yK_seekBridles 79 (.invokevirtual 275) 3 82 := ⟨by decide +kernel, rfl⟩
theorem cK_seekBridles_82 : Dc yK_seekBridles 82 (.invokevirtual 277) 3 85 := ⟨by decide +kernel, rfl⟩
theorem cK_seekBridles_85 : Dc yK_seekBridles 85 (.aload_n 0) 1 86 := ⟨by decide +kernel, rfl⟩
theorem cK_seekBridles_86 : Dc yK_seekBridles 86 (.getfield 66) 3 89 := ⟨by decide +kernel, rfl⟩
theorem cK_seekBridles_89 : Dc yK_seekBridles 89 (.invokevirtual 280) 3 92 := ⟨by decide +kernel, rfl⟩
theorem cK_seekBridles_92 : Dc yK_seekBridles 92 (.iinc 2 1) 3 95 := ⟨by decide +kernel, rfl⟩
theorem cK_seekBridles_95 : Db yK_seekBridles 95 (.goto (-60)) 3 98 (-60) 35 := ⟨by decide +kernel, rfl, by decide⟩
theorem cK_seekBridles_98 : Dc yK_seekBridles 98 (.return_) 1 99 := ⟨by decide +kernel, rfl⟩
theorem cK_setByWay_0 : Dc yK_setByWay 0 (.iconst 0) 1 1 := ⟨by decide +kernel, rfl⟩
theorem cK_setByWay_1 : Dc yK_setByWay 1 (.istore_n 1) 1 2 := ⟨by decide +kernel, rfl⟩
theorem cK_setByWay_2 : Dc yK_setByWay 2 (.iconst 0) 1 3 := ⟨by decide +kernel, rfl⟩
theorem cK_setByWay_3 : Dc yK_setByWay 3 (.istore_n 2) 1 4 := ⟨by decide +kernel, rfl⟩
theorem cK_setByWay_4 : Dc yK_setByWay 4 (.iload_n 2) 1 5 := ⟨by decide +kernel, rfl⟩
theorem cK_setByWay_5 : Dc yK_setByWay 5 (.aload_n 0) 1 6 := ⟨by decide +kernel, rfl⟩
theorem cK_setByWay_6 : Dc yK_setByWay 6 (.getfield 19) 3 9 := ⟨by decide +kernel, rfl⟩
theorem cK_setByWay_9 : Dc yK_setByWay 9 (.getfield 106) 3 12 := ⟨by decide +kernel, rfl⟩
theorem cK_setByWay_12 : Db yK_setByWay 12 (.if_icmp .ge 53) 3 15 (53) 65 := ⟨by decide +kernel, rfl, by decide⟩
theorem cK_setByWay_15 : Dc yK_setByWay 15 (.aload_n 0) 1 16 := ⟨by decide +kernel, rfl⟩
theorem cK_setByWay_16 : Dc yK_setByWay 16 (.getfield 66) 3 19 := ⟨by decide +kernel, rfl⟩
theorem cK_setByWay_19 : Dc yK_setByWay 19 (.getfield 283) 3 22 := ⟨by decide +kernel, rfl⟩
theorem cK_setByWay_22 : Dc yK_setByWay 22 (.iload_n 2) 1 23 := ⟨by decide +kernel, rfl⟩
theorem cK_setByWay_23 : Dc yK_setByWay 23 (.invokestatic 140) 3 26 := ⟨by decide +kernel, rfl⟩
theorem cK_setByWay_26 : Dc yK_setByWay 26 (.iconst 2) 1 27 := ⟨by decide +kernel, rfl⟩
theorem cK_setByWay_27 : Dc yK_setByWay 27 (.isub) 1 28 := ⟨by decide +kernel, rfl⟩
theorem cK_setByWay_28 : Dc yK_setByWay 28 (.istore_n 3) 1 29 := ⟨by decide +kernel, rfl⟩
theorem cK_setByWay_29 : Dc yK_setByWay 29 (.iload_n 3) 1 30 := ⟨by decide +kernel, rfl⟩
theorem cK_setByWay_30 : Dc yK_setByWay 30 (.aload_n 0) 1 31 := ⟨by decide +kernel, rfl⟩
theorem cK_setByWay_31 : Dc yK_setByWay 31 (.getfield 19) 3 34 := ⟨by decide +kernel, rfl⟩
theorem cK_setByWay_34 : Dc yK_setByWay 34 (.getfield 144) 3 37 := ⟨by decide +kernel, rfl⟩
theorem cK_setByWay_37 : Dc yK_setByWay 37 (.iload_n 2) 1 38 := ⟨by decide +kernel, rfl⟩
theorem cK_setByWay_38 : Dc yK_setByWay 38 (.invokestatic 140) 3 41 := ⟨by decide +kernel, rfl⟩
theorem cK_setByWay_41 : Db yK_setByWay 41 (.if_icmp .eq 6) 3 44 (6) 47 := ⟨by decide +kernel, rfl, by decide⟩
theorem cK_setByWay_44 : Dc yK_setByWay 44 (.iinc 1 1) 3 47 := ⟨by decide +kernel, rfl⟩
theorem cK_setByWay_47 : Dc yK_setByWay 47 (.aload_n 0) 1 48 := ⟨by decide +kernel, rfl⟩
theorem cK_setByWay_48 : Dc yK_setByWay 48 (.getfield 53) 3 51 := ⟨by decide +kernel, rfl⟩
theorem cK_setByWay_51 : Dc yK_setByWay 51 (.getfield 144) 3 54 := ⟨by decide +kernel, rfl⟩
theorem cK_setByWay_54 : Dc yK_setByWay 54 (.iload_n 2) 1 55 := ⟨by decide +kernel, rfl⟩
theorem cK_setByWay_55 : Dc yK_setByWay 55 (.iload_n 3) 1 56 := ⟨by decide +kernel, rfl⟩
theorem cK_setByWay_56 : Dc yK_setByWay 56 (.invokestatic 163) 3 59 := ⟨by decide +kernel, rfl⟩
theorem cK_setByWay_59 : Dc yK_setByWay 59 (.iinc 2 1) 3 62 := ⟨by decide +kernel, rfl⟩
theorem cK_setByWay_62 : Db yK_setByWay 62 (.goto (-58)) 3 65 (-58) 4 := ⟨by decide +kernel, rfl, by decide⟩
theorem cK_setByWay_65 : Dc yK_setByWay 65 (.iload_n 1) 1 66 := ⟨by decide +kernel, rfl⟩
theorem cK_setByWay_66 : Dc yK_setByWay 66 (.ireturn) 1 67 := ⟨by decide +kernel, rfl⟩
theorem cK_whereToCut_0 : Dc yK_whereToCut 0 (.aload_n 0) 1 1 := ⟨by decide +kernel, rfl⟩
theorem cK_whereToCut_1 : Dc yK_whereToCut 1 (.getfield 59) 3 4 := ⟨by decide +kernel, rfl⟩
theorem cK_whereToCut_4 : Dc yK_whereToCut 4 (.aload_n 0) 1 5 := ⟨by decide +kernel, rfl⟩
theorem cK_whereToCut_5 : Dc yK_whereToCut 5 (.getfield 19) 3 8 := ⟨by decide +kernel, rfl⟩
theorem cK_whereToCut_8 : Dc yK_whereToCut 8 (.invokevirtual 124) 3 11 := ⟨by decide +kernel, rfl⟩
theorem cK_whereToCut_11 : Dc yK_whereToCut 11 (.aload_n 0) 1 12 := ⟨by decide +kernel, rfl⟩
theorem cK_whereToCut_12 : Dc yK_whereToCut 12 (.getfield 19) 3 15 := ⟨by decide +kernel, rfl⟩
theorem cK_whereToCut_15 : Dc yK_whereToCut 15 (.getfield 106) 3 18 := ⟨by decide +kernel, rfl⟩
theorem cK_whereToCut_18 : Dc yK_whereToCut 18 (.iconst 1) 1 19 := ⟨by decide +kernel, rfl⟩
theorem cK_whereToCut_19 : Dc yK_whereToCut 19 (.isub) 1 20 := ⟨by decide +kernel, rfl⟩
theorem cK_whereToCut_20 : Dc yK_whereToCut 20 (.istore_n 1) 1 21 := ⟨by decide +kernel, rfl⟩
theorem cK_whereToCut_21 : Dc yK_whereToCut 21 (.iload_n 1) 1 22 := ⟨by decide +kernel, rfl⟩
theorem cK_whereToCut_22 : Dc yK_whereToCut 22 (.iconst 1) 1 23 := ⟨by decide +kernel, rfl⟩
theorem cK_whereToCut_23 : Db yK_whereToCut 23 (.if_icmp .lt 29) 3 26 (29) 52 := ⟨by decide +kernel, rfl, by decide⟩
theorem cK_whereToCut_26 : Dc yK_whereToCut 26 (.iconst 1) 1 27 := ⟨by decide +kernel, rfl⟩
theorem cK_whereToCut_27 : Dc yK_whereToCut 27 (.iload_n 1) 1 28 := ⟨by decide +kernel, rfl⟩
theorem cK_whereToCut_28 : Dc yK_whereToCut 28 (.ishl) 1 29 := ⟨by decide +kernel, rfl⟩
theorem cK_whereToCut_29 : Dc yK_whereToCut 29 (.iconst 1) 1 30 := ⟨by decide +kernel, rfl⟩
theorem cK_whereToCut_30 : Dc yK_whereToCut 30 (.isub) 1 31 := ⟨by decide +kernel, rfl⟩
theorem cK_whereToCut_31 : Dc yK_whereToCut 31 (.istore_n 2) 1 32 := ⟨by decide +kernel, rfl⟩
theorem cK_whereToCut_32 : Dc yK_whereToCut 32 (.aload_n 0) 1 33 := ⟨by decide +kernel, rfl⟩
theorem cK_whereToCut_33 : Dc yK_whereToCut 33 (.getfield 59) 3 36 := ⟨by decide +kernel, rfl⟩
theorem cK_whereToCut_36 : Dc yK_whereToCut 36 (.getfield 127) 3 39 := ⟨by decide +kernel, rfl⟩
theorem cK_whereToCut_39 : Dc yK_whereToCut 39 (.iload_n 2) 1 40 := ⟨by decide +kernel, rfl⟩
theorem cK_whereToCut_40 : Dc yK_whereToCut 40 (.iand) 1 41 := ⟨by decide +kernel, rfl⟩
theorem cK_whereToCut_41 : Db yK_whereToCut 41 (.ifCond .ne 5) 3 44 (5) 46 := ⟨by decide +kernel, rfl, by decide⟩
theorem cK_whereToCut_44 : Dc yK_whereToCut 44 (.iload_n 1) 1 45 := ⟨by decide +kernel, rfl⟩
theorem cK_whereToCut_45 : Dc yK_whereToCut 45 (.ireturn) 1 46 := ⟨by decide +kernel, rfl⟩
theorem cK_whereToCut_46 : Dc yK_whereToCut 46 (.iinc 1 (-1)) 3 49 := ⟨by decide +kernel, rfl⟩
theorem cK_whereToCut_49 : Db yK_whereToCut 49 (.goto (-28)) 3 52 (-28) 21 := ⟨by decide +kernel, rfl, by decide⟩
theorem cK_whereToCut_52 : Dc yK_whereToCut 52 (.bipush (-9)) 2 54 := ⟨by decide +kernel, rfl⟩
theorem cK_whereToCut_54 : Dc yK_whereToCut 54 (.ireturn) 1 55 := ⟨by decide +kernel, rfl⟩
theorem cK_drops_0 : Dc yK_drops 0 (.aload_n 0) 1 1 := ⟨by decide +kernel, rfl⟩
theorem cK_drops_1 : Dc yK_drops 1 (.getfield 19) 3 4 := ⟨by decide +kernel, rfl⟩
theorem cK_drops_4 : Dc yK_drops 4 (.iload_n 1) 1 5 := ⟨by decide +kernel, rfl⟩
theorem cK_drops_5 : Dc yK_drops 5 (.invokevirtual 132) 3 8 := ⟨by decide +kernel, rfl⟩
theorem cK_drops_8 : Db yK_drops 8 (.ifCond .eq 14) 3 11 (14) 22 := ⟨by decide +kernel, rfl, by decide⟩
theorem cK_drops_11 : Dc yK_drops 11 (.aload_n 0) 1 12 := ⟨by decide +kernel, rfl⟩
theorem cK_drops_12 : Dc yK_drops 12 (.getfield 19) 3 15 := ⟨by decide +kernel, rfl⟩
theorem cK_drops_15 : Dc yK_drops 15 (.iload_n 1) 1 16 := ⟨by decide +kernel, rfl⟩
theorem cK_drops_16 : Dc yK_drops 16 (.invokevirtual 121) 3 19 := ⟨by decide +kernel, rfl⟩
theorem cK_drops_19 : Db yK_drops 19 (.goto 4) 3 22 (4) 23 := ⟨by decide +kernel, rfl, by decide⟩
theorem cK_drops_22 : Dc yK_drops 22 (.iconst (-1)) 1 23 := ⟨by decide +kernel, rfl⟩
theorem cK_drops_23 : Dc yK_drops 23 (.ireturn) 1 24 := ⟨by decide +kernel, rfl⟩
theorem cK_share_0 : Dc yK_share 0 (.aload_n 0) 1 1 := ⟨by decide +kernel, rfl⟩
theorem cK_share_1 : Dc yK_share 1 (.getfield 19) 3 4 := ⟨by decide +kernel, rfl⟩
theorem cK_share_4 : Dc yK_share 4 (.iload_n 1) 1 5 := ⟨by decide +kernel, rfl⟩
theorem cK_share_5 : Dc yK_share 5 (.invokevirtual 132) 3 8 := ⟨by decide +kernel, rfl⟩
theorem cK_share_8 : Db yK_share 8 (.ifCond .ne 5) 3 11 (5) 13 := ⟨by decide +kernel, rfl, by decide⟩
theorem cK_share_11 : Dc yK_share 11 (.iconst (-1)) 1 12 := ⟨by decide +kernel, rfl⟩
theorem cK_share_12 : Dc yK_share 12 (.ireturn) 1 13 := ⟨by decide +kernel, rfl⟩
theorem cK_share_13 : Dc yK_share 13 (.iconst 1) 1 14 := ⟨by decide +kernel, rfl⟩
theorem cK_share_14 : Dc yK_share 14 (.aload_n 0) 1 15 := ⟨by decide +kernel, rfl⟩
theorem cK_share_15 : Dc yK_share 15 (.getfield 19) 3 18 := ⟨by decide +kernel, rfl⟩
theorem cK_share_18 : Dc yK_share 18 (.getfield 106) 3 21 := ⟨by decide +kernel, rfl⟩
theorem cK_share_21 : Dc yK_share 21 (.ishl) 1 22 := ⟨by decide +kernel, rfl⟩
theorem cK_share_22 : Dc yK_share 22 (.istore_n 3) 1 23 := ⟨by decide +kernel, rfl⟩
theorem cK_share_23 : Dc yK_share 23 (.iconst 1) 1 24 := ⟨by decide +kernel, rfl⟩
theorem cK_share_24 : Dc yK_share 24 (.iload_n 1) 1 25 := ⟨by decide +kernel, rfl⟩
theorem cK_share_25 : Dc yK_share 25 (.ishl) 1 26 := ⟨by decide +kernel, rfl⟩
theorem cK_share_26 : Dc yK_share 26 (.istore 4) 2 28 := ⟨by decide +kernel, rfl⟩
theorem cK_share_28 : Dc yK_share 28 (.iconst 0) 1 29 := ⟨by decide +kernel, rfl⟩
theorem cK_share_29 : Dc yK_share 29 (.istore 5) 2 31 := ⟨by decide +kernel, rfl⟩
theorem cK_share_31 : Dc yK_share 31 (.iconst 0) 1 32 := ⟨by decide +kernel, rfl⟩
theorem cK_share_32 : Dc yK_share 32 (.istore 6) 2 34 := ⟨by decide +kernel, rfl⟩
theorem cK_share_34 : Dc yK_share 34 (.iload 6) 2 36 := ⟨by decide +kernel, rfl⟩
theorem cK_share_36 : Dc yK_share 36 (.iload_n 3) 1 37 := ⟨by decide +kernel, rfl⟩
theorem cK_share_37 : Db yK_share 37 (.if_icmp .ge 71) 3 40 (71) 108 := ⟨by decide +kernel, rfl, by decide⟩
theorem cK_share_40 : Dc yK_share 40 (.iload 6) 2 42 := ⟨by decide +kernel, rfl⟩
theorem cK_share_42 : Dc yK_share 42 (.iload 4) 2 44 := ⟨by decide +kernel, rfl⟩
theorem cK_share_44 : Dc yK_share 44 (.iand) 1 45 := ⟨by decide +kernel, rfl⟩
theorem cK_share_45 : Db yK_share 45 (.ifCond .ne 57) 3 48 (57) 102 := ⟨by decide +kernel, rfl, by decide⟩
theorem cK_share_48 : Dc yK_share 48 (.iload 6) 2 50 := ⟨by decide +kernel, rfl⟩
theorem cK_share_50 : Dc yK_share 50 (.invokestatic 193) 3 53 := ⟨by decide +kernel, rfl⟩
theorem cK_share_53 : Dc yK_share 53 (.istore 7) 2 55 := ⟨by decide +kernel, rfl⟩
theorem cK_share_55 : Dc yK_share 55 (.iload 7) 2 57 := ⟨by decide +kernel, rfl⟩
theorem cK_share_57 : Dc yK_share 57 (.invokestatic 198) 3 60 := ⟨by decide +kernel, rfl⟩
theorem cK_share_60 : Dc yK_share 60 (.aload_n 0) 1 61 := ⟨by decide +kernel, rfl⟩
theorem cK_share_61 : Dc yK_share 61 (.getfield 19) 3 64 := ⟨by decide +kernel, rfl⟩
theorem cK_share_64 : Dc yK_share 64 (.getfield 106) 3 67 := ⟨by decide +kernel, rfl⟩
theorem cK_share_67 : Dc yK_share 67 (.iconst 1) 1 68 := ⟨by decide +kernel, rfl⟩
theorem cK_share_68 : Dc yK_share 68 (.isub) 1 69 := ⟨by decide +kernel, rfl⟩
theorem cK_share_69 : Dc yK_share 69 (.iload 7) 2 71 := ⟨by decide +kernel, rfl⟩
theorem cK_share_71 : Dc yK_share 71 (.isub) 1 72 := ⟨by decide +kernel, rfl⟩
theorem cK_share_72 : Dc yK_share 72 (.invokestatic 198) 3 75 := ⟨by decide +kernel, rfl⟩
theorem cK_share_75 : Dc yK_share 75 (.imul) 1 76 := ⟨by decide +kernel, rfl⟩
theorem cK_share_76 : Dc yK_share 76 (.istore 8) 2 78 := ⟨by decide +kernel, rfl⟩
theorem cK_share_78 : Dc yK_share 78 (.iload 5) 2 80 := ⟨by decide +kernel, rfl⟩
theorem cK_share_80 : Dc yK_share 80 (.iload 8) 2 82 := ⟨by decide +kernel, rfl⟩
theorem cK_share_82 : Dc yK_share 82 (.aload_n 0) 1 83 := ⟨by decide +kernel, rfl⟩
theorem cK_share_83 : Dc yK_share 83 (.iload 6) 2 85 := ⟨by decide +kernel, rfl⟩
theorem cK_share_85 : Dc yK_share 85 (.iload 4) 2 87 := ⟨by decide +kernel, rfl⟩
theorem cK_share_87 : Dc yK_share 87 (.ior) 1 88 := ⟨by decide +kernel, rfl⟩
theorem cK_share_88 : Dc yK_share 88 (.invokevirtual 201) 3 91 := ⟨by decide +kernel, rfl⟩
theorem cK_share_91 : Dc yK_share 91 (.aload_n 0) 1 92 := ⟨by decide +kernel, rfl⟩
theorem cK_share_92 : Dc yK_share 92 (.iload 6) 2 94 := ⟨by decide +kernel, rfl⟩
theorem cK_share_94 : Dc yK_share 94 (.invokevirtual 201) 3 97 := ⟨by decide +kernel, rfl⟩
theorem cK_share_97 : Dc yK_share 97 (.isub) 1 98 := ⟨by decide +kernel, rfl⟩
theorem cK_share_98 : Dc yK_share 98 (.imul) 1 99 := ⟨by decide +kernel, rfl⟩
theorem cK_share_99 : Dc yK_share 99 (.iadd) 1 100 := ⟨by decide +kernel, rfl⟩
theorem cK_share_100 : Dc yK_share 100 (.istore 5) 2 102 := ⟨by decide +kernel, rfl⟩
theorem cK_share_102 : Dc yK_share 102 (.iinc 6 1) 3 105 := ⟨by decide +kernel, rfl⟩
theorem cK_share_105 : Db yK_share 105 (.goto (-71)) 3 108 (-71) 34 := ⟨by decide +kernel, rfl, by decide⟩
theorem cK_share_108 : Dc yK_share 108 (.iload 5) 2 110 := ⟨by decide +kernel, rfl⟩
theorem cK_share_110 : Dc yK_share 110 (.aload_n 0) 1 111 := ⟨by decide +kernel, rfl⟩
theorem cK_share_111 : Dc yK_share 111 (.getfield 19) 3 114 := ⟨by decide +kernel, rfl⟩
theorem cK_share_114 : Dc yK_share 114 (.getfield 106) 3 117 := ⟨by decide +kernel, rfl⟩
theorem cK_share_117 : Dc yK_share 117 (.invokestatic 198) 3 120 := ⟨by decide +kernel, rfl⟩
theorem cK_share_120 : Dc yK_share 120 (.iload_n 2) 1 121 := ⟨by decide +kernel, rfl⟩
theorem cK_share_121 : Dc yK_share 121 (.invokestatic 204) 3 124 := ⟨by decide +kernel, rfl⟩
theorem cK_share_124 : Dc yK_share 124 (.ireturn) 1 125 := ⟨by decide +kernel, rfl⟩
theorem cK_orders_0 : Dc yK_orders 0 (.iconst 1) 1 1 := ⟨by decide +kernel, rfl⟩
theorem cK_orders_1 : Dc yK_orders 1 (.istore_n 1) 1 2 := ⟨by decide +kernel, rfl⟩
theorem cK_orders_2 : Dc yK_orders 2 (.iconst 2) 1 3 := ⟨by decide +kernel, rfl⟩
theorem cK_orders_3 : Dc yK_orders 3 (.istore_n 2) 1 4 := ⟨by decide +kernel, rfl⟩
theorem cK_orders_4 : Dc yK_orders 4 (.iload_n 2) 1 5 := ⟨by decide +kernel, rfl⟩
theorem cK_orders_5 : Dc yK_orders 5 (.iload_n 0) 1 6 := ⟨by decide +kernel, rfl⟩
theorem cK_orders_6 : Db yK_orders 6 (.if_icmp .gt 18) 3 9 (18) 24 := ⟨by decide +kernel, rfl, by decide⟩
theorem cK_orders_9 : Dc yK_orders 9 (.iload_n 2) 1 10 := ⟨by decide +kernel, rfl⟩
theorem cK_orders_10 : Dc yK_orders 10 (.iconst 5) 1 11 := ⟨by decide +kernel, rfl⟩
theorem cK_orders_11 : Db yK_orders 11 (.if_icmp .gt 13) 3 14 (13) 24 := ⟨by decide +kernel, rfl, by decide⟩
theorem cK_orders_14 : Dc yK_orders 14 (.iload_n 1) 1 15 := ⟨by decide +kernel, rfl⟩
theorem cK_orders_15 : Dc yK_orders 15 (.iload_n 2) 1 16 := ⟨by decide +kernel, rfl⟩
theorem cK_orders_16 : Dc yK_orders 16 (.imul) 1 17 := ⟨by decide +kernel, rfl⟩
theorem cK_orders_17 : Dc yK_orders 17 (.istore_n 1) 1 18 := ⟨by decide +kernel, rfl⟩
theorem cK_orders_18 : Dc yK_orders 18 (.iinc 2 1) 3 21 := ⟨by decide +kernel, rfl⟩
theorem cK_orders_21 : Db yK_orders 21 (.goto (-17)) 3 24 (-17) 4 := ⟨by decide +kernel, rfl, by decide⟩
theorem cK_orders_24 : Dc yK_orders 24 (.iload_n 1) 1 25 := ⟨by decide +kernel, rfl⟩
theorem cK_orders_25 : Dc yK_orders 25 (.ireturn) 1 26 := ⟨by decide +kernel, rfl⟩
theorem cK_viewOf_0 : Dc yK_viewOf 0 (.aload_n 0) 1 1 := ⟨by decide +kernel, rfl⟩
theorem cK_viewOf_1 : Dc yK_viewOf 1 (.getfield 53) 3 4 := ⟨by decide +kernel, rfl⟩
theorem cK_viewOf_4 : Dc yK_viewOf 4 (.aload_n 0) 1 5 := ⟨by decide +kernel, rfl⟩
theorem cK_viewOf_5 : Dc yK_viewOf 5 (.getfield 19) 3 8 := ⟨by decide +kernel, rfl⟩
theorem cK_viewOf_8 : Dc yK_viewOf 8 (.iload_n 1) 1 9 := ⟨by decide +kernel, rfl⟩
theorem cK_viewOf_9 : Dc yK_viewOf 9 (.invokevirtual 289) 3 12 := ⟨by decide +kernel, rfl⟩
theorem cK_viewOf_12 : Dc yK_viewOf 12 (.aload_n 0) 1 13 := ⟨by decide +kernel, rfl⟩
theorem cK_viewOf_13 : Dc yK_viewOf 13 (.getfield 59) 3 16 := ⟨by decide +kernel, rfl⟩
theorem cK_viewOf_16 : Dc yK_viewOf 16 (.aload_n 0) 1 17 := ⟨by decide +kernel, rfl⟩
theorem cK_viewOf_17 : Dc yK_viewOf 17 (.getfield 53) 3 20 := ⟨by decide +kernel, rfl⟩
theorem cK_viewOf_20 : Dc yK_viewOf 20 (.invokevirtual 124) 3 23 := ⟨by decide +kernel, rfl⟩
theorem cK_viewOf_23 : Dc yK_viewOf 23 (.aload_n 0) 1 24 := ⟨by decide +kernel, rfl⟩
theorem cK_viewOf_24 : Dc yK_viewOf 24 (.getfield 59) 3 27 := ⟨by decide +kernel, rfl⟩
theorem cK_viewOf_27 : Dc yK_viewOf 27 (.bipush 9) 2 29 := ⟨by decide +kernel, rfl⟩
theorem cK_viewOf_29 : Dc yK_viewOf 29 (.invokevirtual 293) 3 32 := ⟨by decide +kernel, rfl⟩
theorem cK_viewOf_32 : Dc yK_viewOf 32 (.ireturn) 1 33 := ⟨by decide +kernel, rfl⟩
theorem cK_fraction_0 : Dc yK_fraction 0 (.iload_n 0) 1 1 := ⟨by decide +kernel, rfl⟩
theorem cK_fraction_1 : Dc yK_fraction 1 (.invokestatic 309) 3 4 := ⟨by decide +kernel, rfl⟩
theorem cK_fraction_4 : Dc yK_fraction 4 (.iload_n 1) 1 5 := ⟨by decide +kernel, rfl⟩
theorem cK_fraction_5 : Dc yK_fraction 5 (.invokestatic 317) 3 8 := ⟨by decide +kernel, rfl⟩
theorem cK_fraction_8 : Dc yK_fraction 8 (.istore_n 3) 1 9 := ⟨by decide +kernel, rfl⟩
theorem cK_fraction_9 : Dc yK_fraction 9 (.iload_n 3) 1 10 := ⟨by decide +kernel, rfl⟩
theorem cK_fraction_10 : Db yK_fraction 10 (.ifCond .gt 5) 3 13 (5) 15 := ⟨by decide +kernel, rfl, by decide⟩
theorem cK_fraction_13 : Dc yK_fraction 13 (.iconst 0) 1 14 := ⟨by decide +kernel, rfl⟩
theorem cK_fraction_14 : Dc yK_fraction 14 (.ireturn) 1 15 := ⟨by decide +kernel, rfl⟩
theorem cK_fraction_15 : Dc yK_fraction 15 (.iload_n 2) 1 16 := ⟨by decide +kernel, rfl⟩
theorem cK_fraction_16 : Db yK_fraction 16 (.ifCond .eq 9) 3 19 (9) 25 := ⟨by decide +kernel, rfl, by decide⟩
theorem cK_fraction_19 : Dc yK_fraction 19 (.iload_n 0) 1 20 := ⟨by decide +kernel, rfl⟩
theorem cK_fraction_20 : Dc yK_fraction 20 (.iload_n 3) 1 21 := ⟨by decide +kernel, rfl⟩
theorem cK_fraction_21 : Dc yK_fraction 21 (.idiv) 1 22 := ⟨by decide +kernel, rfl⟩
theorem cK_fraction_22 : Db yK_fraction 22 (.goto 6) 3 25 (6) 28 := ⟨by decide +kernel, rfl, by decide⟩
theorem cK_fraction_25 : Dc yK_fraction 25 (.iload_n 1) 1 26 := ⟨by decide +kernel, rfl⟩
theorem cK_fraction_26 : Dc yK_fraction 26 (.iload_n 3) 1 27 := ⟨by decide +kernel, rfl⟩
theorem cK_fraction_27 : Dc yK_fraction 27 (.idiv) 1 28 := ⟨by decide +kernel, rfl⟩
theorem cK_fraction_28 : Dc yK_fraction 28 (.ireturn) 1 29 := ⟨by decide +kernel, rfl⟩
theorem cK_commonDivisor_0 : Dc yK_commonDivisor 0 (.iload_n 0) 1 1 := ⟨by decide +kernel, rfl⟩
theorem cK_commonDivisor_1 : Dc yK_commonDivisor 1 (.istore_n 2) 1 2 := ⟨by decide +kernel, rfl⟩
theorem cK_commonDivisor_2 : Dc yK_commonDivisor 2 (.iload_n 1) 1 3 := ⟨by decide +kernel, rfl⟩
theorem cK_commonDivisor_3 : Dc yK_commonDivisor 3 (.istore_n 3) 1 4 := ⟨by decide +kernel, rfl⟩
theorem cK_commonDivisor_4 : Dc yK_commonDivisor 4 (.iconst 0) 1 5 := ⟨by decide +kernel, rfl⟩
theorem cK_commonDivisor_5 : Dc yK_commonDivisor 5 (.istore 4) 2 7 := ⟨by decide +kernel, rfl⟩
theorem cK_commonDivisor_7 : Dc yK_commonDivisor 7 (.iload 4) 2 9 := ⟨by decide +kernel, rfl⟩
theorem cK_commonDivisor_9 : Dc yK_commonDivisor 9 (.bipush 100) 2 11 := ⟨by decide +kernel, rfl⟩
theorem cK_commonDivisor_11 : Db yK_commonDivisor 11 (.if_icmp .ge 23) 3 14 (23) 34 := ⟨by decide +kernel, rfl, by decide⟩
theorem cK_commonDivisor_14 : Dc yK_commonDivisor 14 (.iload_n 3) 1 15 := ⟨by decide +kernel, rfl⟩
theorem cK_commonDivisor_15 : Db yK_commonDivisor 15 (.ifCond .eq 19) 3 18 (19) 34 := ⟨by decide +kernel, rfl, by decide⟩
theorem cK_commonDivisor_18 : Dc yK_commonDivisor 18 (.iload_n 2) 1 19 := ⟨by decide +kernel, rfl⟩
theorem cK_commonDivisor_19 : Dc yK_commonDivisor 19 (.iload_n 3) 1 20 := ⟨by decide +kernel, rfl⟩
theorem cK_commonDivisor_20 : Dc yK_commonDivisor 20 (.irem) 1 21 := ⟨by decide +kernel, rfl⟩
theorem cK_commonDivisor_21 : Dc yK_commonDivisor 21 (.istore 5) 2 23 := ⟨by decide +kernel, rfl⟩
theorem cK_commonDivisor_23 : Dc yK_commonDivisor 23 (.iload_n 3) 1 24 := ⟨by decide +kernel, rfl⟩
theorem cK_commonDivisor_24 : Dc yK_commonDivisor 24 (.istore_n 2) 1 25 := ⟨by decide +kernel, rfl⟩
theorem cK_commonDivisor_25 : Dc yK_commonDivisor 25 (.iload 5) 2 27 := ⟨by decide +kernel, rfl⟩
theorem cK_commonDivisor_27 : Dc yK_commonDivisor 27 (.istore_n 3) 1 28 := ⟨by decide +kernel, rfl⟩
theorem cK_commonDivisor_28 : Dc yK_commonDivisor 28 (.iinc 4 1) 3 31 := ⟨by decide +kernel, rfl⟩
theorem cK_commonDivisor_31 : Db yK_commonDivisor 31 (.goto (-24)) 3 34 (-24) 7 := ⟨by decide +kernel, rfl, by decide⟩
theorem cK_commonDivisor_34 : Dc yK_commonDivisor 34 (.iload_n 2) 1 35 := ⟨by decide +kernel, rfl⟩
theorem cK_commonDivisor_35 : Dc yK_commonDivisor 35 (.ireturn) 1 36 := ⟨by decide +kernel, rfl⟩
theorem cK_arrives_0 : Dc yK_arrives 0 (.iload_n 1) 1 1 := ⟨by decide +kernel, rfl⟩
theorem cK_arrives_1 : Dc yK_arrives 1 (.iload_n 2) 1 2 := ⟨by decide +kernel, rfl⟩
theorem cK_arrives_2 : Dc yK_arrives 2 (.invokestatic 208) 3 5 := ⟨by decide +kernel, rfl⟩
theorem cK_arrives_5 : Db yK_arrives 5 (.ifCond .eq 18) 3 8 (18) 23 := ⟨by decide +kernel, rfl, by decide⟩
theorem cK_arrives_8 : Dc yK_arrives 8 (.iload_n 1) 1 9 := ⟨by decide +kernel, rfl⟩
theorem cK_arrives_9 : Dc yK_arrives 9 (.iload_n 2) 1 10 := ⟨by decide +kernel, rfl⟩
theorem cK_arrives_10 : Dc yK_arrives 10 (.aload_n 0) 1 11 := ⟨by decide +kernel, rfl⟩
theorem cK_arrives_11 : Dc yK_arrives 11 (.getfield 19) 3 14 := ⟨by decide +kernel, rfl⟩
theorem cK_arrives_14 : Dc yK_arrives 14 (.invokevirtual 211) 3 17 := ⟨by decide +kernel, rfl⟩
theorem cK_arrives_17 : Dc yK_arrives 17 (.invokestatic 214) 3 20 := ⟨by decide +kernel, rfl⟩
theorem cK_arrives_20 : Db yK_arrives 20 (.goto 5) 3 23 (5) 25 := ⟨by decide +kernel, rfl, by decide⟩
theorem cK_arrives_23 : Dc yK_arrives 23 (.bipush (-2)) 2 25 := ⟨by decide +kernel, rfl⟩
theorem cK_arrives_25 : Dc yK_arrives 25 (.ireturn) 1 26 := ⟨by decide +kernel, rfl⟩
theorem cK_isWord_0 : Dc yK_isWord 0 (.iload_n 0) 1 1 := ⟨by decide +kernel, rfl⟩
theorem cK_isWord_1 : Dc yK_isWord 1 (.iconst 1) 1 2 := ⟨by decide +kernel, rfl⟩
theorem cK_isWord_2 : Db yK_isWord 2 (.if_icmp .lt 13) 3 5 (13) 15 := ⟨by decide +kernel, rfl, by decide⟩
theorem cK_isWord_5 : Dc yK_isWord 5 (.iload_n 0) 1 6 := ⟨by decide +kernel, rfl⟩
theorem cK_isWord_6 : Dc yK_isWord 6 (.bipush 6) 2 8 := ⟨by decide +kernel, rfl⟩
theorem cK_isWord_8 : Db yK_isWord 8 (.if_icmp .gt 7) 3 11 (7) 15 := ⟨by decide +kernel, rfl, by decide⟩
theorem cK_isWord_11 : Dc yK_isWord 11 (.iload_n 1) 1 12 := ⟨by decide +kernel, rfl⟩
theorem cK_isWord_12 : Db yK_isWord 12 (.ifCond .ge 5) 3 15 (5) 17 := ⟨by decide +kernel, rfl, by decide⟩
theorem cK_isWord_15 : Dc yK_isWord 15 (.iconst 0) 1 16 := ⟨by decide +kernel, rfl⟩
theorem cK_isWord_16 : Dc yK_isWord 16 (.ireturn) 1 17 := ⟨by decide +kernel, rfl⟩
theorem cK_isWord_17 : Dc yK_isWord 17 (.iload_n 1) 1 18 := ⟨by decide +kernel, rfl⟩
theorem cK_isWord_18 : Dc yK_isWord 18 (.istore_n 2) 1 19 := ⟨by decide +kernel, rfl⟩
theorem cK_isWord_19 : Dc yK_isWord 19 (.iconst 0) 1 20 := ⟨by decide +kernel, rfl⟩
theorem cK_isWord_20 : Dc yK_isWord 20 (.istore_n 3) 1 21 := ⟨by decide +kernel, rfl⟩
theorem cK_isWord_21 : Dc yK_isWord 21 (.iload_n 3) 1 22 := ⟨by decide +kernel, rfl⟩
theorem cK_isWord_22 : Dc yK_isWord 22 (.iload_n 0) 1 23 := ⟨by decide +kernel, rfl⟩
theorem cK_isWord_23 : Db yK_isWord 23 (.if_icmp .ge 24) 3 26 (24) 47 := ⟨by decide +kernel, rfl, by decide⟩
theorem cK_isWord_26 : Dc yK_isWord 26 (.iload_n 2) 1 27 := ⟨by decide +kernel, rfl⟩
theorem cK_isWord_27 : Dc yK_isWord 27 (.bipush 10) 2 29 := ⟨by decide +kernel, rfl⟩
theorem cK_isWord_29 : Dc yK_isWord 29 (.irem) 1 30 := ⟨by decide +kernel, rfl⟩
theorem cK_isWord_30 : Dc yK_isWord 30 (.iconst 4) 1 31 := ⟨by decide +kernel, rfl⟩
theorem cK_isWord_31 : Db yK_isWord 31 (.if_icmp .lt 5) 3 34 (5) 36 := ⟨by decide +kernel, rfl, by decide⟩
theorem cK_isWord_34 : Dc yK_isWord 34 (.iconst 0) 1 35 := ⟨by decide +kernel, rfl⟩
theorem cK_isWord_35 : Dc yK_isWord 35 (.ireturn) 1 36 := ⟨by decide +kernel, rfl⟩
theorem cK_isWord_36 : Dc yK_isWord 36 (.iload_n 2) 1 37 := ⟨by decide +kernel, rfl⟩
theorem cK_isWord_37 : Dc yK_isWord 37 (.bipush 10) 2 39 := ⟨by decide +kernel, rfl⟩
theorem cK_isWord_39 : Dc yK_isWord 39 (.idiv) 1 40 := ⟨by decide +kernel, rfl⟩
theorem cK_isWord_40 : Dc yK_isWord 40 (.istore_n 2) 1 41 := ⟨by decide +kernel, rfl⟩
theorem cK_isWord_41 : Dc yK_isWord 41 (.iinc 3 1) 3 44 := ⟨by decide +kernel, rfl⟩
theorem cK_isWord_44 : Db yK_isWord 44 (.goto (-23)) 3 47 (-23) 21 := ⟨by decide +kernel, rfl, by decide⟩
theorem cK_isWord_47 : Dc yK_isWord 47 (.iload_n 2) 1 48 := ⟨by decide +kernel, rfl⟩
theorem cK_isWord_48 : Db yK_isWord 48 (.ifCond .ne 7) 3 51 (7) 55 := ⟨by decide +kernel, rfl, by decide⟩
theorem cK_isWord_51 : Dc yK_isWord 51 (.iconst 1) 1 52 := ⟨by decide +kernel, rfl⟩
theorem cK_isWord_52 : Db yK_isWord 52 (.goto 4) 3 55 (4) 56 := ⟨by decide +kernel, rfl, by decide⟩
theorem cK_isWord_55 : Dc yK_isWord 55 (.iconst 0) 1 56 := ⟨by decide +kernel, rfl⟩
theorem cK_isWord_56 : Dc yK_isWord 56 (.ireturn) 1 57 := ⟨by decide +kernel, rfl⟩
theorem cK_shifted_0 : Dc yK_shifted 0 (.iload_n 1) 1 1 := ⟨by decide +kernel, rfl⟩
theorem cK_shifted_1 : Dc yK_shifted 1 (.istore_n 3) 1 2 := ⟨by decide +kernel, rfl⟩
theorem cK_shifted_2 : Dc yK_shifted 2 (.iconst 0) 1 3 := ⟨by decide +kernel, rfl⟩
theorem cK_shifted_3 : Dc yK_shifted 3 (.istore 4) 2 5 := ⟨by decide +kernel, rfl⟩
theorem cK_shifted_5 : Dc yK_shifted 5 (.iconst 1) 1 6 := ⟨by decide +kernel, rfl⟩
theorem cK_shifted_6 : Dc yK_shifted 6 (.istore 5) 2 8 := ⟨by decide +kernel, rfl⟩
theorem cK_shifted_8 : Dc yK_shifted 8 (.iconst 0) 1 9 := ⟨by decide +kernel, rfl⟩
theorem cK_shifted_9 : Dc yK_shifted 9 (.istore 6) 2 11 := ⟨by decide +kernel, rfl⟩
theorem cK_shifted_11 : Dc yK_shifted 11 (.iload 6) 2 13 := ⟨by decide +kernel, rfl⟩
theorem cK_shifted_13 : Dc yK_shifted 13 (.iload_n 0) 1 14 := ⟨by decide +kernel, rfl⟩
theorem cK_shifted_14 : Db yK_shifted 14 (.if_icmp .ge 39) 3 17 (39) 53 := ⟨by decide +kernel, rfl, by decide⟩
theorem cK_shifted_17 : Dc yK_shifted 17 (.iload 4) 2 19 := ⟨by decide +kernel, rfl⟩
theorem cK_shifted_19 : Dc yK_shifted 19 (.iload 5) 2 21 := ⟨by decide +kernel, rfl⟩
theorem cK_shifted_21 : Dc yK_shifted 21 (.iload_n 3) 1 22 := ⟨by decide +kernel, rfl⟩
theorem cK_shifted_22 : Dc yK_shifted 22 (.bipush 10) 2 24 := ⟨by decide +kernel, rfl⟩
theorem cK_shifted_24 : Dc yK_shifted 24 (.irem) 1 25 := ⟨by decide +kernel, rfl⟩
theorem cK_shifted_25 : Dc yK_shifted 25 (.iload_n 2) 1 26 := ⟨by decide +kernel, rfl⟩
theorem cK_shifted_26 : Dc yK_shifted 26 (.iadd) 1 27 := ⟨by decide +kernel, rfl⟩
theorem cK_shifted_27 : Dc yK_shifted 27 (.iconst 4) 1 28 := ⟨by decide +kernel, rfl⟩
theorem cK_shifted_28 : Dc yK_shifted 28 (.invokestatic 314) 3 31 := ⟨by decide +kernel, rfl⟩
theorem cK_shifted_31 : Dc yK_shifted 31 (.imul) 1 32 := ⟨by decide +kernel, rfl⟩
theorem cK_shifted_32 : Dc yK_shifted 32 (.iadd) 1 33 := ⟨by decide +kernel, rfl⟩
theorem cK_shifted_33 : Dc yK_shifted 33 (.istore 4) 2 35 := ⟨by decide +kernel, rfl⟩
theorem cK_shifted_35 : Dc yK_shifted 35 (.iload_n 3) 1 36 := ⟨by decide +kernel, rfl⟩
theorem cK_shifted_36 : Dc yK_shifted 36 (.bipush 10) 2 38 := ⟨by decide +kernel, rfl⟩
theorem cK_shifted_38 : Dc yK_shifted 38 (.idiv) 1 39 := ⟨by decide +kernel, rfl⟩
theorem cK_shifted_39 : Dc yK_shifted 39 (.istore_n 3) 1 40 := ⟨by decide +kernel, rfl⟩
theorem cK_shifted_40 : Dc yK_shifted 40 (.iload 5) 2 42 := ⟨by decide +kernel, rfl⟩
theorem cK_shifted_42 : Dc yK_shifted 42 (.bipush 10) 2 44 := ⟨by decide +kernel, rfl⟩
theorem cK_shifted_44 : Dc yK_shifted 44 (.imul) 1 45 := ⟨by decide +kernel, rfl⟩
theorem cK_shifted_45 : Dc yK_shifted 45 (.istore 5) 2 47 := ⟨by decide +kernel, rfl⟩
theorem cK_shifted_47 : Dc yK_shifted 47 (.iinc 6 1) 3 50 := ⟨by decide +kernel, rfl⟩
theorem cK_shifted_50 : Db yK_shifted 50 (.goto (-39)) 3 53 (-39) 11 := ⟨by decide +kernel, rfl, by decide⟩
theorem cK_shifted_53 : Dc yK_shifted 53 (.iload 4) 2 55 := ⟨by decide +kernel, rfl⟩
theorem cK_shifted_55 : Dc yK_shifted 55 (.ireturn) 1 56 := ⟨by decide +kernel, rfl⟩
theorem cK_sent_0 : Dc yK_sent 0 (.iload_n 1) 1 1 := ⟨by decide +kernel, rfl⟩
theorem cK_sent_1 : Dc yK_sent 1 (.iload_n 2) 1 2 := ⟨by decide +kernel, rfl⟩
theorem cK_sent_2 : Dc yK_sent 2 (.invokestatic 208) 3 5 := ⟨by decide +kernel, rfl⟩
theorem cK_sent_5 : Db yK_sent 5 (.ifCond .eq 19) 3 8 (19) 24 := ⟨by decide +kernel, rfl, by decide⟩
theorem cK_sent_8 : Dc yK_sent 8 (.iload_n 1) 1 9 := ⟨by decide +kernel, rfl⟩
theorem cK_sent_9 : Dc yK_sent 9 (.iload_n 2) 1 10 := ⟨by decide +kernel, rfl⟩
theorem cK_sent_10 : Dc yK_sent 10 (.aload_n 0) 1 11 := ⟨by decide +kernel, rfl⟩
theorem cK_sent_11 : Dc yK_sent 11 (.getfield 19) 3 14 := ⟨by decide +kernel, rfl⟩
theorem cK_sent_14 : Dc yK_sent 14 (.invokevirtual 211) 3 17 := ⟨by decide +kernel, rfl⟩
theorem cK_sent_17 : Dc yK_sent 17 (.ineg) 1 18 := ⟨by decide +kernel, rfl⟩
theorem cK_sent_18 : Dc yK_sent 18 (.invokestatic 214) 3 21 := ⟨by decide +kernel, rfl⟩
theorem cK_sent_21 : Db yK_sent 21 (.goto 5) 3 24 (5) 26 := ⟨by decide +kernel, rfl, by decide⟩
theorem cK_sent_24 : Dc yK_sent 24 (.bipush (-2)) 2 26 := ⟨by decide +kernel, rfl⟩
theorem cK_sent_26 : Dc yK_sent 26 (.ireturn) 1 27 := ⟨by decide +kernel, rfl⟩
theorem cK_taken_0 : Dc yK_taken 0 (.iload_n 1) 1 1 := ⟨by decide +kernel, rfl⟩
theorem cK_taken_1 : Dc yK_taken 1 (.iload_n 2) 1 2 := ⟨by decide +kernel, rfl⟩
theorem cK_taken_2 : Dc yK_taken 2 (.invokestatic 208) 3 5 := ⟨by decide +kernel, rfl⟩
theorem cK_taken_5 : Db yK_taken 5 (.ifCond .eq 11) 3 8 (11) 16 := ⟨by decide +kernel, rfl, by decide⟩
theorem cK_taken_8 : Dc yK_taken 8 (.iload_n 1) 1 9 := ⟨by decide +kernel, rfl⟩
theorem cK_taken_9 : Dc yK_taken 9 (.iload_n 3) 1 10 := ⟨by decide +kernel, rfl⟩
theorem cK_taken_10 : Dc yK_taken 10 (.invokestatic 208) 3 13 := ⟨by decide +kernel, rfl⟩
theorem cK_taken_13 : Db yK_taken 13 (.ifCond .ne 6) 3 16 (6) 19 := ⟨by decide +kernel, rfl, by decide⟩
theorem cK_taken_16 : Dc yK_taken 16 (.bipush (-2)) 2 18 := ⟨by decide +kernel, rfl⟩
theorem cK_taken_18 : Dc yK_taken 18 (.ireturn) 1 19 := ⟨by decide +kernel, rfl⟩
theorem cK_taken_19 : Dc yK_taken 19 (.aload_n 0) 1 20 := ⟨by decide +kernel, rfl⟩
theorem cK_taken_20 : Dc yK_taken 20 (.getfield 19) 3 23 := ⟨by decide +kernel, rfl⟩
theorem cK_taken_23 : Dc yK_taken 23 (.getfield 106) 3 26 := ⟨by decide +kernel, rfl⟩
theorem cK_taken_26 : Db yK_taken 26 (.ifCond .ne 14) 3 29 (14) 40 := ⟨by decide +kernel, rfl, by decide⟩
theorem cK_taken_29 : Dc yK_taken 29 (.iload_n 2) 1 30 := ⟨by decide +kernel, rfl⟩
theorem cK_taken_30 : Dc yK_taken 30 (.iload_n 3) 1 31 := ⟨by decide +kernel, rfl⟩
theorem cK_taken_31 : Db yK_taken 31 (.if_icmp .ne 7) 3 34 (7) 38 := ⟨by decide +kernel, rfl, by decide⟩
theorem cK_taken_34 : Dc yK_taken 34 (.iconst 1) 1 35 := ⟨by decide +kernel, rfl⟩
theorem cK_taken_35 : Db yK_taken 35 (.goto 4) 3 38 (4) 39 := ⟨by decide +kernel, rfl, by decide⟩
theorem cK_taken_38 : Dc yK_taken 38 (.iconst 0) 1 39 := ⟨by decide +kernel, rfl⟩
theorem cK_taken_39 : Dc yK_taken 39 (.ireturn) 1 40 := ⟨by decide +kernel, rfl⟩
theorem cK_taken_40 : Dc yK_taken 40 (.iload_n 1) 1 41 := ⟨by decide +kernel, rfl⟩
theorem cK_taken_41 : Dc yK_taken 41 (.iload_n 2) 1 42 := ⟨by decide +kernel, rfl⟩
theorem cK_taken_42 : Dc yK_taken 42 (.iload_n 3) 1 43 := ⟨by decide +kernel, rfl⟩
theorem cK_taken_43 : Dc yK_taken 43 (.invokestatic 218) 3 46 := ⟨by decide +kernel, rfl⟩
theorem cK_taken_46 : Db yK_taken 46 (.ifCond .eq 7) 3 49 (7) 53 := ⟨by decide +kernel, rfl, by decide⟩
theorem cK_taken_49 : Dc yK_taken 49 (.iconst 1) 1 50 := ⟨by decide +kernel, rfl⟩
theorem cK_taken_50 : Db yK_taken 50 (.goto 4) 3 53 (4) 54 := ⟨by decide +kernel, rfl, by decide⟩
theorem cK_taken_53 : Dc yK_taken 53 (.iconst 0) 1 54 := ⟨by decide +kernel, rfl⟩
theorem cK_taken_54 : Dc yK_taken 54 (.ireturn) 1 55 := ⟨by decide +kernel, rfl⟩
theorem cK_meetBySlips_0 : Dc yK_meetBySlips 0 (.iconst 0) 1 1 := ⟨by decide +kernel, rfl⟩
theorem cK_meetBySlips_1 : Dc yK_meetBySlips 1 (.istore_n 3) 1 2 := ⟨by decide +kernel, rfl⟩
theorem cK_meetBySlips_2 : Dc yK_meetBySlips 2 (.iconst 0) 1 3 := ⟨by decide +kernel, rfl⟩
theorem cK_meetBySlips_3 : Dc yK_meetBySlips 3 (.istore 4) 2 5 := ⟨by decide +kernel, rfl⟩
theorem cK_meetBySlips_5 : Dc yK_meetBySlips 5 (.iload_n 1) 1 6 := ⟨by decide +kernel, rfl⟩
theorem cK_meetBySlips_6 : Dc yK_meetBySlips 6 (.istore 5) 2 8 := ⟨by decide +kernel, rfl⟩
theorem cK_meetBySlips_8 : Dc yK_meetBySlips 8 (.iload_n 2) 1 9 := ⟨by decide +kernel, rfl⟩
theorem cK_meetBySlips_9 : Dc yK_meetBySlips 9 (.istore 6) 2 11 := ⟨by decide +kernel, rfl⟩
theorem cK_meetBySlips_11 : Dc yK_meetBySlips 11 (.iconst 0) 1 12 := ⟨by decide +kernel, rfl⟩
theorem cK_meetBySlips_12 : Dc yK_meetBySlips 12 (.istore 7) 2 14 := ⟨by decide +kernel, rfl⟩
theorem cK_meetBySlips_14 : Dc yK_meetBySlips 14 (.iload 7) 2 16 := ⟨by decide +kernel, rfl⟩
theorem cK_meetBySlips_16 : Dc yK_meetBySlips 16 (.iload_n 0) 1 17 := ⟨by decide +kernel, rfl⟩
theorem cK_meetBySlips_17 : Db yK_meetBySlips 17 (.if_icmp .ge 57) 3 20 (57) 74 := ⟨by decide +kernel, rfl, by decide⟩
theorem cK_meetBySlips_20 : Dc yK_meetBySlips 20 (.iload 5) 2 22 := ⟨by decide +kernel, rfl⟩
theorem cK_meetBySlips_22 : Dc yK_meetBySlips 22 (.bipush 10) 2 24 := ⟨by decide +kernel, rfl⟩
theorem cK_meetBySlips_24 : Dc yK_meetBySlips 24 (.irem) 1 25 := ⟨by decide +kernel, rfl⟩
theorem cK_meetBySlips_25 : Dc yK_meetBySlips 25 (.iload 6) 2 27 := ⟨by decide +kernel, rfl⟩
theorem cK_meetBySlips_27 : Dc yK_meetBySlips 27 (.bipush 10) 2 29 := ⟨by decide +kernel, rfl⟩
theorem cK_meetBySlips_29 : Dc yK_meetBySlips 29 (.irem) 1 30 := ⟨by decide +kernel, rfl⟩
theorem cK_meetBySlips_30 : Dc yK_meetBySlips 30 (.isub) 1 31 := ⟨by decide +kernel, rfl⟩
theorem cK_meetBySlips_31 : Dc yK_meetBySlips 31 (.iconst 4) 1 32 := ⟨by decide +kernel, rfl⟩
theorem cK_meetBySlips_32 : Dc yK_meetBySlips 32 (.invokestatic 314) 3 35 := ⟨by decide +kernel, rfl⟩
theorem cK_meetBySlips_35 : Dc yK_meetBySlips 35 (.istore 8) 2 37 := ⟨by decide +kernel, rfl⟩
theorem cK_meetBySlips_37 : Dc yK_meetBySlips 37 (.iload 8) 2 39 := ⟨by decide +kernel, rfl⟩
theorem cK_meetBySlips_39 : Db yK_meetBySlips 39 (.ifCond .eq 6) 3 42 (6) 45 := ⟨by decide +kernel, rfl, by decide⟩
theorem cK_meetBySlips_42 : Dc yK_meetBySlips 42 (.iinc 3 1) 3 45 := ⟨by decide +kernel, rfl⟩
theorem cK_meetBySlips_45 : Dc yK_meetBySlips 45 (.iload 8) 2 47 := ⟨by decide +kernel, rfl⟩
theorem cK_meetBySlips_47 : Dc yK_meetBySlips 47 (.iconst 2) 1 48 := ⟨by decide +kernel, rfl⟩
theorem cK_meetBySlips_48 : Db yK_meetBySlips 48 (.if_icmp .ne 6) 3 51 (6) 54 := ⟨by decide +kernel, rfl, by decide⟩
theorem cK_meetBySlips_51 : Dc yK_meetBySlips 51 (.iinc 4 1) 3 54 := ⟨by decide +kernel, rfl⟩
theorem cK_meetBySlips_54 : Dc yK_meetBySlips 54 (.iload 5) 2 56 := ⟨by decide +kernel, rfl⟩
theorem cK_meetBySlips_56 : Dc yK_meetBySlips 56 (.bipush 10) 2 58 := ⟨by decide +kernel, rfl⟩
theorem cK_meetBySlips_58 : Dc yK_meetBySlips 58 (.idiv) 1 59 := ⟨by decide +kernel, rfl⟩
theorem cK_meetBySlips_59 : Dc yK_meetBySlips 59 (.istore 5) 2 61 := ⟨by decide +kernel, rfl⟩
theorem cK_meetBySlips_61 : Dc yK_meetBySlips 61 (.iload 6) 2 63 := ⟨by decide +kernel, rfl⟩
theorem cK_meetBySlips_63 : Dc yK_meetBySlips 63 (.bipush 10) 2 65 := ⟨by decide +kernel, rfl⟩
theorem cK_meetBySlips_65 : Dc yK_meetBySlips 65 (.idiv) 1 66 := ⟨by decide +kernel, rfl⟩
theorem cK_meetBySlips_66 : Dc yK_meetBySlips 66 (.istore 6) 2 68 := ⟨by decide +kernel, rfl⟩
theorem cK_meetBySlips_68 : Dc yK_meetBySlips 68 (.iinc 7 1) 3 71 := ⟨by decide +kernel, rfl⟩
theorem cK_meetBySlips_71 : Db yK_meetBySlips 71 (.goto (-57)) 3 74 (-57) 14 := ⟨by decide +kernel, rfl, by decide⟩
theorem cK_meetBySlips_74 : Dc yK_meetBySlips 74 (.iload_n 3) 1 75 := ⟨by decide +kernel, rfl⟩
theorem cK_meetBySlips_75 : Dc yK_meetBySlips 75 (.iconst 1) 1 76 := ⟨by decide +kernel, rfl⟩
theorem cK_meetBySlips_76 : Db yK_meetBySlips 76 (.if_icmp .le 13) 3 79 (13) 89 := ⟨by decide +kernel, rfl, by decide⟩
theorem cK_meetBySlips_79 : Dc yK_meetBySlips 79 (.iload_n 3) 1 80 := ⟨by decide +kernel, rfl⟩
theorem cK_meetBySlips_80 : Dc yK_meetBySlips 80 (.iconst 2) 1 81 := ⟨by decide +kernel, rfl⟩
theorem cK_meetBySlips_81 : Db yK_meetBySlips 81 (.if_icmp .ne 12) 3 84 (12) 93 := ⟨by decide +kernel, rfl, by decide⟩
theorem cK_meetBySlips_84 : Dc yK_meetBySlips 84 (.iload 4) 2 86 := ⟨by decide +kernel, rfl⟩
theorem cK_meetBySlips_86 : Db yK_meetBySlips 86 (.ifCond .ne 7) 3 89 (7) 93 := ⟨by decide +kernel, rfl, by decide⟩
theorem cK_meetBySlips_89 : Dc yK_meetBySlips 89 (.iconst 1) 1 90 := ⟨by decide +kernel, rfl⟩
theorem cK_meetBySlips_90 : Db yK_meetBySlips 90 (.goto 4) 3 93 (4) 94 := ⟨by decide +kernel, rfl, by decide⟩
theorem cK_meetBySlips_93 : Dc yK_meetBySlips 93 (.iconst 0) 1 94 := ⟨by decide +kernel, rfl⟩
theorem cK_meetBySlips_94 : Dc yK_meetBySlips 94 (.ireturn) 1 95 := ⟨by decide +kernel, rfl⟩
theorem cK_seeAt_0 : Dc yK_seeAt 0 (.aload_n 0) 1 1 := ⟨by decide +kernel, rfl⟩
theorem cK_seeAt_1 : Dc yK_seeAt 1 (.getfield 19) 3 4 := ⟨by decide +kernel, rfl⟩
theorem cK_seeAt_4 : Dc yK_seeAt 4 (.iload_n 1) 1 5 := ⟨by decide +kernel, rfl⟩
theorem cK_seeAt_5 : Dc yK_seeAt 5 (.invokevirtual 132) 3 8 := ⟨by decide +kernel, rfl⟩
theorem cK_seeAt_8 : Db yK_seeAt 8 (.ifCond .ne 5) 3 11 (5) 13 := ⟨by decide +kernel, rfl, by decide⟩
theorem cK_seeAt_11 : Dc yK_seeAt 11 (.iconst (-1)) 1 12 := ⟨by decide +kernel, rfl⟩
theorem cK_seeAt_12 : Dc yK_seeAt 12 (.ireturn) 1 13 := ⟨by decide +kernel, rfl⟩
theorem cK_seeAt_13 : Dc yK_seeAt 13 (.iload_n 2) 1 14 := ⟨by decide +kernel, rfl⟩
theorem cK_seeAt_14 : Dc yK_seeAt 14 (.bipush 30) 2 16 := ⟨by decide +kernel, rfl⟩
theorem cK_seeAt_16 : Dc yK_seeAt 16 (.invokestatic 156) 3 19 := ⟨by decide +kernel, rfl⟩
theorem cK_seeAt_19 : Db yK_seeAt 19 (.ifCond .ne 6) 3 22 (6) 25 := ⟨by decide +kernel, rfl, by decide⟩
theorem cK_seeAt_22 : Dc yK_seeAt 22 (.bipush (-2)) 2 24 := ⟨by decide +kernel, rfl⟩
theorem cK_seeAt_24 : Dc yK_seeAt 24 (.ireturn) 1 25 := ⟨by decide +kernel, rfl⟩
theorem cK_seeAt_25 : Dc yK_seeAt 25 (.aload_n 0) 1 26 := ⟨by decide +kernel, rfl⟩
theorem cK_seeAt_26 : Dc yK_seeAt 26 (.getfield 45) 3 29 := ⟨by decide +kernel, rfl⟩
theorem cK_seeAt_29 : Dc yK_seeAt 29 (.getfield 131) 3 32 := ⟨by decide +kernel, rfl⟩
theorem cK_seeAt_32 : Dc yK_seeAt 32 (.bipush 6) 2 34 := ⟨by decide +kernel, rfl⟩
theorem cK_seeAt_34 : Db yK_seeAt 34 (.if_icmp .lt 6) 3 37 (6) 40 := ⟨by decide +kernel, rfl, by decide⟩
theorem cK_seeAt_37 : Dc yK_seeAt 37 (.bipush (-4)) 2 39 := ⟨by decide +kernel, rfl⟩
theorem cK_seeAt_39 : Dc yK_seeAt 39 (.ireturn) 1 40 := ⟨by decide +kernel, rfl⟩
theorem cK_seeAt_40 : Dc yK_seeAt 40 (.aload_n 0) 1 41 := ⟨by decide +kernel, rfl⟩
theorem cK_seeAt_41 : Dc yK_seeAt 41 (.getfield 45) 3 44 := ⟨by decide +kernel, rfl⟩
theorem cK_seeAt_44 : Dc yK_seeAt 44 (.iload_n 1) 1 45 := ⟨by decide +kernel, rfl⟩
theorem cK_seeAt_45 : Dc yK_seeAt 45 (.iload_n 2) 1 46 := ⟨by decide +kernel, rfl⟩
theorem cK_seeAt_46 : Dc yK_seeAt 46 (.invokevirtual 222) 3 49 := ⟨by decide +kernel, rfl⟩
theorem cK_seeAt_49 : Dc yK_seeAt 49 (.ireturn) 1 50 := ⟨by decide +kernel, rfl⟩
theorem cK_unsee_0 : Dc yK_unsee 0 (.aload_n 0) 1 1 := ⟨by decide +kernel, rfl⟩
theorem cK_unsee_1 : Dc yK_unsee 1 (.getfield 45) 3 4 := ⟨by decide +kernel, rfl⟩
theorem cK_unsee_4 : Dc yK_unsee 4 (.getfield 131) 3 7 := ⟨by decide +kernel, rfl⟩
theorem cK_unsee_7 : Dc yK_unsee 7 (.istore_n 1) 1 8 := ⟨by decide +kernel, rfl⟩
theorem cK_unsee_8 : Dc yK_unsee 8 (.aload_n 0) 1 9 := ⟨by decide +kernel, rfl⟩
theorem cK_unsee_9 : Dc yK_unsee 9 (.getfield 45) 3 12 := ⟨by decide +kernel, rfl⟩
theorem cK_unsee_12 : Dc yK_unsee 12 (.iconst 0) 1 13 := ⟨by decide +kernel, rfl⟩
theorem cK_unsee_13 : Dc yK_unsee 13 (.putfield 131) 3 16 := ⟨by decide +kernel, rfl⟩
theorem cK_unsee_16 : Dc yK_unsee 16 (.iload_n 1) 1 17 := ⟨by decide +kernel, rfl⟩
theorem cK_unsee_17 : Dc yK_unsee 17 (.ireturn) 1 18 := ⟨by decide +kernel, rfl⟩
theorem cK_winds_0 : Dc yK_winds 0 (.iload_n 1) 1 1 := ⟨by decide +kernel, rfl⟩
theorem cK_winds_1 : Db yK_winds 1 (.ifCond .lt 8) 3 4 (8) 9 := ⟨by decide +kernel, rfl, by decide⟩
theorem cK_winds_4 : Dc yK_winds 4 (.iload_n 1) 1 5 := ⟨by decide +kernel, rfl⟩
theorem cK_winds_5 : Dc yK_winds 5 (.iconst 2) 1 6 := ⟨by decide +kernel, rfl⟩
theorem cK_winds_6 : Db yK_winds 6 (.if_icmp .le 6) 3 9 (6) 12 := ⟨by decide +kernel, rfl, by decide⟩
theorem cK_winds_9 : Dc yK_winds 9 (.bipush (-2)) 2 11 := ⟨by decide +kernel, rfl⟩
theorem cK_winds_11 : Dc yK_winds 11 (.ireturn) 1 12 := ⟨by decide +kernel, rfl⟩
theorem cK_winds_12 : Dc yK_winds 12 (.aload_n 0) 1 13 := ⟨by decide +kernel, rfl⟩
theorem cK_winds_13 : Dc yK_winds 13 (.invokevirtual 225) 3 16 := ⟨by decide +kernel, rfl⟩
theorem cK_winds_16 : Dc yK_winds 16 (.istore_n 2) 1 17 := ⟨by decide +kernel, rfl⟩
theorem cK_winds_17 : Dc yK_winds 17 (.iload_n 1) 1 18 := ⟨by decide +kernel, rfl⟩
theorem cK_winds_18 : decode (yB yK_winds) 18 = .ok (.lookupswitch 42 #[(0, 26), (1, 34)], 26) := by decide +kernel
theorem cK_winds_44 : Dc yK_winds 44 (.aload_n 0) 1 45 := ⟨by decide +kernel, rfl⟩
theorem cK_winds_45 : Dc yK_winds 45 (.getfield 80) 3 48 := ⟨by decide +kernel, rfl⟩
theorem cK_winds_48 : Dc yK_winds 48 (.getfield 228) 3 51 := ⟨by decide +kernel, rfl⟩
theorem cK_winds_51 : Dc yK_winds 51 (.ireturn) 1 52 := ⟨by decide +kernel, rfl⟩
theorem cK_winds_52 : Dc yK_winds 52 (.aload_n 0) 1 53 := ⟨by decide +kernel, rfl⟩
theorem cK_winds_53 : Dc yK_winds 53 (.getfield 80) 3 56 := ⟨by decide +kernel, rfl⟩
theorem cK_winds_56 : Dc yK_winds 56 (.getfield 229) 3 59 := ⟨by decide +kernel, rfl⟩
theorem cK_winds_59 : Dc yK_winds 59 (.ireturn) 1 60 := ⟨by decide +kernel, rfl⟩
theorem cK_winds_60 : Dc yK_winds 60 (.iload_n 2) 1 61 := ⟨by decide +kernel, rfl⟩
theorem cK_winds_61 : Dc yK_winds 61 (.invokestatic 193) 3 64 := ⟨by decide +kernel, rfl⟩
theorem cK_winds_64 : Dc yK_winds 64 (.iconst 1) 1 65 := ⟨by decide +kernel, rfl⟩
theorem cK_winds_65 : Db yK_winds 65 (.if_icmp .ne 16) 3 68 (16) 81 := ⟨by decide +kernel, rfl, by decide⟩
theorem cK_winds_68 : Dc yK_winds 68 (.aload_n 0) 1 69 := ⟨by decide +kernel, rfl⟩
theorem cK_winds_69 : Dc yK_winds 69 (.getfield 80) 3 72 := ⟨by decide +kernel, rfl⟩
theorem cK_winds_72 : Dc yK_winds 72 (.getfield 229) 3 75 := ⟨by decide +kernel, rfl⟩
theorem cK_winds_75 : Dc yK_winds 75 (.bipush 10) 2 77 := ⟨by decide +kernel, rfl⟩
theorem cK_winds_77 : Dc yK_winds 77 (.idiv) 1 78 := ⟨by decide +kernel, rfl⟩
theorem cK_winds_78 : Db yK_winds 78 (.goto 5) 3 81 (5) 83 := ⟨by decide +kernel, rfl, by decide⟩
theorem cK_winds_81 : Dc yK_winds 81 (.bipush (-9)) 2 83 := ⟨by decide +kernel, rfl⟩
theorem cK_winds_83 : Dc yK_winds 83 (.ireturn) 1 84 := ⟨by decide +kernel, rfl⟩
theorem cK_seekWinds_0 : Dc yK_seekWinds 0 (.iconst 0) 1 1 := ⟨by decide +kernel, rfl⟩
theorem cK_seekWinds_1 : Dc yK_seekWinds 1 (.istore_n 1) 1 2 := ⟨by decide +kernel, rfl⟩
theorem cK_seekWinds_2 : Dc yK_seekWinds 2 (.aload_n 0) 1 3 := ⟨by decide +kernel, rfl⟩
theorem cK_seekWinds_3 : Dc yK_seekWinds 3 (.getfield 80) 3 6 := ⟨by decide +kernel, rfl⟩
theorem cK_seekWinds_6 : Dc yK_seekWinds 6 (.invokevirtual 296) 3 9 := ⟨by decide +kernel, rfl⟩
theorem cK_seekWinds_9 : Dc yK_seekWinds 9 (.aload_n 0) 1 10 := ⟨by decide +kernel, rfl⟩
theorem cK_seekWinds_10 : Dc yK_seekWinds 10 (.getfield 53) 3 13 := ⟨by decide +kernel, rfl⟩
theorem cK_seekWinds_13 : Dc yK_seekWinds 13 (.aload_n 0) 1 14 := ⟨by decide +kernel, rfl⟩
theorem cK_seekWinds_14 : Dc yK_seekWinds 14 (.getfield 19) 3 17 := ⟨by decide +kernel, rfl⟩
theorem cK_seekWinds_17 : Dc yK_seekWinds 17 (.invokevirtual 239) 3 20 := ⟨by decide +kernel, rfl⟩
theorem cK_seekWinds_20 : Dc yK_seekWinds 20 (.bipush (-2)) 2 22 := ⟨by decide +kernel, rfl⟩
theorem cK_seekWinds_22 : Dc yK_seekWinds 22 (.istore_n 2) 1 23 := ⟨by decide +kernel, rfl⟩
theorem cK_seekWinds_23 : Dc yK_seekWinds 23 (.iload_n 2) 1 24 := ⟨by decide +kernel, rfl⟩
theorem cK_seekWinds_24 : Dc yK_seekWinds 24 (.iconst 2) 1 25 := ⟨by decide +kernel, rfl⟩
theorem cK_seekWinds_25 : Db yK_seekWinds 25 (.if_icmp .gt 84) 3 28 (84) 109 := ⟨by decide +kernel, rfl, by decide⟩
theorem cK_seekWinds_28 : Dc yK_seekWinds 28 (.bipush (-2)) 2 30 := ⟨by decide +kernel, rfl⟩
theorem cK_seekWinds_30 : Dc yK_seekWinds 30 (.istore_n 3) 1 31 := ⟨by decide +kernel, rfl⟩
theorem cK_seekWinds_31 : Dc yK_seekWinds 31 (.iload_n 3) 1 32 := ⟨by decide +kernel, rfl⟩
theorem cK_seekWinds_32 : Dc yK_seekWinds 32 (.iconst 2) 1 33 := ⟨by decide +kernel, rfl⟩
theorem cK_seekWinds_33 : Db yK_seekWinds 33 (.if_icmp .gt 70) 3 36 (70) 103 := ⟨by decide +kernel, rfl, by decide⟩
theorem cK_seekWinds_36 : Dc yK_seekWinds 36 (.aload_n 0) 1 37 := ⟨by decide +kernel, rfl⟩
theorem cK_seekWinds_37 : Dc yK_seekWinds 37 (.getfield 53) 3 40 := ⟨by decide +kernel, rfl⟩
theorem cK_seekWinds_40 : Dc yK_seekWinds 40 (.iload_n 2) 1 41 := ⟨by decide +kernel, rfl⟩
theorem cK_seekWinds_41 : Dc yK_seekWinds 41 (.putfield 109) 3 44 := ⟨by decide +kernel, rfl⟩
theorem cK_seekWinds_44 : Dc yK_seekWinds 44 (.aload_n 0) 1 45 := ⟨by decide +kernel, rfl⟩
theorem cK_seekWinds_45 : Dc yK_seekWinds 45 (.getfield 53) 3 48 := ⟨by decide +kernel, rfl⟩
theorem cK_seekWinds_48 : Dc yK_seekWinds 48 (.iload_n 3) 1 49 := ⟨by decide +kernel, rfl⟩
theorem cK_seekWinds_49 : Dc yK_seekWinds 49 (.putfield 112) 3 52 := ⟨by decide +kernel, rfl⟩
theorem cK_seekWinds_52 : Dc yK_seekWinds 52 (.aload_n 0) 1 53 := ⟨by decide +kernel, rfl⟩
theorem cK_seekWinds_53 : Dc yK_seekWinds 53 (.getfield 59) 3 56 := ⟨by decide +kernel, rfl⟩
theorem cK_seekWinds_56 : Dc yK_seekWinds 56 (.aload_n 0) 1 57 := ⟨by decide +kernel, rfl⟩
theorem cK_seekWinds_57 : Dc yK_seekWinds 57 (.getfield 53) 3 60 := ⟨by decide +kernel, rfl⟩
theorem cK_seekWinds_60 : Dc yK_seekWinds 60 (.invokevirtual 124) 3 63 := ⟨by decide +kernel, rfl⟩
theorem cK_seekWinds_63 : Dc yK_seekWinds 63 (.aload_n 0) 1 64 := ⟨by decide +kernel, rfl⟩
theorem cK_seekWinds_64 : Dc yK_seekWinds 64 (.getfield 45) 3 67 := ⟨by decide +kernel, rfl⟩
theorem cK_seekWinds_67 : Dc yK_seekWinds 67 (.aload_n 0) 1 68 := ⟨by decide +kernel, rfl⟩
theorem cK_seekWinds_68 : Dc yK_seekWinds 68 (.getfield 59) 3 71 := ⟨by decide +kernel, rfl⟩
theorem cK_seekWinds_71 : Dc yK_seekWinds 71 (.invokevirtual 297) 3 74 := ⟨by decide +kernel, rfl⟩
theorem cK_seekWinds_74 : Db yK_seekWinds 74 (.ifCond .eq 23) 3 77 (23) 97 := ⟨by decide +kernel, rfl, by decide⟩
theorem cK_seekWinds_77 : Dc yK_seekWinds 77 (.aload_n 0) 1 78 := ⟨by decide +kernel, rfl⟩
theorem cK_seekWinds_78 : Dc yK_seekWinds 78 (.getfield 80) 3 81 := ⟨by decide +kernel, rfl⟩
theorem cK_seekWinds_81 : Dc yK_seekWinds 81 (.iload_n 2) 1 82 := ⟨by decide +kernel, rfl⟩
theorem cK_seekWinds_82 : Dc yK_seekWinds 82 (.iload_n 3) 1 83 := ⟨by decide +kernel, rfl⟩
theorem cK_seekWinds_83 : Dc yK_seekWinds 83 (.invokestatic 167) 3 86 := ⟨by decide +kernel, rfl⟩
theorem cK_seekWinds_86 : Dc yK_seekWinds 86 (.invokevirtual 301) 3 89 := ⟨by decide +kernel, rfl⟩
theorem cK_seekWinds_89 : Dc yK_seekWinds 89 (.iload_n 1) 1 90 := ⟨by decide +kernel, rfl⟩
theorem cK_seekWinds_90 : Dc yK_seekWinds 90 (.iconst 1) 1 91 := ⟨by decide +kernel, rfl⟩
theorem cK_seekWinds_91 : Dc yK_seekWinds 91 (.iload_n 2) 1 92 := ⟨by decide +kernel, rfl⟩
theorem cK_seekWinds_92 : Dc yK_seekWinds 92 (.iconst 2) 1 93 := ⟨by decide +kernel, rfl⟩
theorem cK_seekWinds_93 : Dc yK_seekWinds 93 (.iadd) 1 94 := ⟨by decide +kernel, rfl⟩
theorem cK_seekWinds_94 : Dc yK_seekWinds 94 (.ishl) 1 95 := ⟨by decide +kernel, rfl⟩
theorem cK_seekWinds_95 : Dc yK_seekWinds 95 (.ior) 1 96 := ⟨by decide +kernel, rfl⟩
theorem cK_seekWinds_96 : Dc yK_seekWinds 96 (.istore_n 1) 1 97 := ⟨by decide +kernel, rfl⟩
theorem cK_seekWinds_97 : Dc yK_seekWinds 97 (.iinc 3 1) 3 100 := ⟨by decide +kernel, rfl⟩
theorem cK_seekWinds_100 : Db yK_seekWinds 100 (.goto (-69)) 3 103 (-69) 31 := ⟨by decide +kernel, rfl, by decide⟩
theorem cK_seekWinds_103 : Dc yK_seekWinds 103 (.iinc 2 1) 3 106 := ⟨by decide +kernel, rfl⟩
theorem cK_seekWinds_106 : Db yK_seekWinds 106 (.goto (-83)) 3 109 (-83) 23 := ⟨by decide +kernel, rfl, by decide⟩
theorem cK_seekWinds_109 : Dc yK_seekWinds 109 (.iload_n 1) 1 110 := ⟨by decide +kernel, rfl⟩
theorem cK_seekWinds_110 : Dc yK_seekWinds 110 (.ireturn) 1 111 := ⟨by decide +kernel, rfl⟩
theorem cK_rests_0 : Dc yK_rests 0 (.aload_n 0) 1 1 := ⟨by decide +kernel, rfl⟩
theorem cK_rests_1 : Dc yK_rests 1 (.getfield 19) 3 4 := ⟨by decide +kernel, rfl⟩
theorem cK_rests_4 : Dc yK_rests 4 (.iload_n 1) 1 5 := ⟨by decide +kernel, rfl⟩
theorem cK_rests_5 : Dc yK_rests 5 (.invokevirtual 132) 3 8 := ⟨by decide +kernel, rfl⟩
theorem cK_rests_8 : Db yK_rests 8 (.ifCond .eq 14) 3 11 (14) 22 := ⟨by decide +kernel, rfl, by decide⟩
theorem cK_rests_11 : Dc yK_rests 11 (.aload_n 0) 1 12 := ⟨by decide +kernel, rfl⟩
theorem cK_rests_12 : Dc yK_rests 12 (.getfield 19) 3 15 := ⟨by decide +kernel, rfl⟩
theorem cK_rests_15 : Dc yK_rests 15 (.iload_n 2) 1 16 := ⟨by decide +kernel, rfl⟩
theorem cK_rests_16 : Dc yK_rests 16 (.invokevirtual 132) 3 19 := ⟨by decide +kernel, rfl⟩
theorem cK_rests_19 : Db yK_rests 19 (.ifCond .ne 5) 3 22 (5) 24 := ⟨by decide +kernel, rfl, by decide⟩
theorem cK_rests_22 : Dc yK_rests 22 (.iconst (-1)) 1 23 := ⟨by decide +kernel, rfl⟩
theorem cK_rests_23 : Dc yK_rests 23 (.ireturn) 1 24 := ⟨by decide +kernel, rfl⟩
theorem cK_rests_24 : Dc yK_rests 24 (.iload_n 3) 1 25 := ⟨by decide +kernel, rfl⟩
theorem cK_rests_25 : Dc yK_rests 25 (.bipush 20) 2 27 := ⟨by decide +kernel, rfl⟩
theorem cK_rests_27 : Dc yK_rests 27 (.invokestatic 156) 3 30 := ⟨by decide +kernel, rfl⟩
theorem cK_rests_30 : Db yK_rests 30 (.ifCond .eq 17) 3 33 (17) 47 := ⟨by decide +kernel, rfl, by decide⟩
theorem cK_rests_33 : Dc yK_rests 33 (.iload 4) 2 35 := ⟨by decide +kernel, rfl⟩
theorem cK_rests_35 : Dc yK_rests 35 (.bipush 20) 2 37 := ⟨by decide +kernel, rfl⟩
theorem cK_rests_37 : Dc yK_rests 37 (.invokestatic 156) 3 40 := ⟨by decide +kernel, rfl⟩
theorem cK_rests_40 : Db yK_rests 40 (.ifCond .eq 7) 3 43 (7) 47 := ⟨by decide +kernel, rfl, by decide⟩
theorem cK_rests_43 : Dc yK_rests 43 (.iconst 1) 1 44 := ⟨by decide +kernel, rfl⟩
theorem cK_rests_44 : Db yK_rests 44 (.goto 4) 3 47 (4) 48 := ⟨by decide +kernel, rfl, by decide⟩
theorem cK_rests_47 : Dc yK_rests 47 (.iconst 0) 1 48 := ⟨by decide +kernel, rfl⟩
theorem cK_rests_48 : Dc yK_rests 48 (.istore 6) 2 50 := ⟨by decide +kernel, rfl⟩
theorem cK_rests_50 : Dc yK_rests 50 (.iload_n 1) 1 51 := ⟨by decide +kernel, rfl⟩
theorem cK_rests_51 : Dc yK_rests 51 (.iload_n 2) 1 52 := ⟨by decide +kernel, rfl⟩
theorem cK_rests_52 : Db yK_rests 52 (.if_icmp .eq 16) 3 55 (16) 68 := ⟨by decide +kernel, rfl, by decide⟩
theorem cK_rests_55 : Dc yK_rests 55 (.iload 6) 2 57 := ⟨by decide +kernel, rfl⟩
theorem cK_rests_57 : Db yK_rests 57 (.ifCond .eq 11) 3 60 (11) 68 := ⟨by decide +kernel, rfl, by decide⟩
theorem cK_rests_60 : Dc yK_rests 60 (.iload 5) 2 62 := ⟨by decide +kernel, rfl⟩
theorem cK_rests_62 : Dc yK_rests 62 (.invokestatic 177) 3 65 := ⟨by decide +kernel, rfl⟩
theorem cK_rests_65 : Db yK_rests 65 (.ifCond .ne 6) 3 68 (6) 71 := ⟨by decide +kernel, rfl, by decide⟩
theorem cK_rests_68 : Dc yK_rests 68 (.bipush (-2)) 2 70 := ⟨by decide +kernel, rfl⟩
theorem cK_rests_70 : Dc yK_rests 70 (.ireturn) 1 71 := ⟨by decide +kernel, rfl⟩
theorem cK_rests_71 : Dc yK_rests 71 (.aload_n 0) 1 72 := ⟨by decide +kernel, rfl⟩
theorem cK_rests_72 : Dc yK_rests 72 (.iload_n 1) 1 73 := ⟨by decide +kernel, rfl⟩
theorem cK_rests_73 : Dc yK_rests 73 (.iload_n 2) 1 74 := ⟨by decide +kernel, rfl⟩
theorem cK_rests_74 : Dc yK_rests 74 (.iload_n 3) 1 75 := ⟨by decide +kernel, rfl⟩
theorem cK_rests_75 : Dc yK_rests 75 (.iload 4) 2 77 := ⟨by decide +kernel, rfl⟩
theorem cK_rests_77 : Dc yK_rests 77 (.invokevirtual 232) 3 80 := ⟨by decide +kernel, rfl⟩
theorem cK_rests_80 : Dc yK_rests 80 (.iload 5) 2 82 := ⟨by decide +kernel, rfl⟩
theorem cK_rests_82 : Db yK_rests 82 (.ifCond .ne 13) 3 85 (13) 95 := ⟨by decide +kernel, rfl, by decide⟩
theorem cK_rests_85 : Dc yK_rests 85 (.aload_n 0) 1 86 := ⟨by decide +kernel, rfl⟩
theorem cK_rests_86 : Dc yK_rests 86 (.getfield 80) 3 89 := ⟨by decide +kernel, rfl⟩
theorem cK_rests_89 : Dc yK_rests 89 (.getfield 228) 3 92 := ⟨by decide +kernel, rfl⟩
theorem cK_rests_92 : Db yK_rests 92 (.goto 10) 3 95 (10) 102 := ⟨by decide +kernel, rfl, by decide⟩
theorem cK_rests_95 : Dc yK_rests 95 (.aload_n 0) 1 96 := ⟨by decide +kernel, rfl⟩
theorem cK_rests_96 : Dc yK_rests 96 (.getfield 80) 3 99 := ⟨by decide +kernel, rfl⟩
theorem cK_rests_99 : Dc yK_rests 99 (.getfield 229) 3 102 := ⟨by decide +kernel, rfl⟩
theorem cK_rests_102 : Dc yK_rests 102 (.ireturn) 1 103 := ⟨by decide +kernel, rfl⟩
theorem cK_seekRests_0 : Dc yK_seekRests 0 (.aload_n 0) 1 1 := ⟨by decide +kernel, rfl⟩
theorem cK_seekRests_1 : Dc yK_seekRests 1 (.getfield 80) 3 4 := ⟨by decide +kernel, rfl⟩
theorem cK_seekRests_4 : Dc yK_seekRests 4 (.invokevirtual 296) 3 7 := ⟨by decide +kernel, rfl⟩
theorem cK_seekRests_7 : Dc yK_seekRests 7 (.aload_n 0) 1 8 := ⟨by decide +kernel, rfl⟩
theorem cK_seekRests_8 : Dc yK_seekRests 8 (.getfield 53) 3 11 := ⟨by decide +kernel, rfl⟩
theorem cK_seekRests_11 : Dc yK_seekRests 11 (.aload_n 0) 1 12 := ⟨by decide +kernel, rfl⟩
theorem cK_seekRests_12 : Dc yK_seekRests 12 (.getfield 19) 3 15 := ⟨by decide +kernel, rfl⟩
theorem cK_seekRests_15 : Dc yK_seekRests 15 (.invokevirtual 239) 3 18 := ⟨by decide +kernel, rfl⟩
theorem cK_seekRests_18 : Dc yK_seekRests 18 (.bipush (-2)) 2 20 := ⟨by decide +kernel, rfl⟩
theorem cK_seekRests_20 : Dc yK_seekRests 20 (.istore 5) 2 22 := ⟨by decide +kernel, rfl⟩
theorem cK_seekRests_22 : Dc yK_seekRests 22 (.iload 5) 2 24 := ⟨by decide +kernel, rfl⟩
theorem cK_seekRests_24 : Dc yK_seekRests 24 (.iconst 2) 1 25 := ⟨by decide +kernel, rfl⟩
theorem cK_seekRests_25 : Db yK_seekRests 25 (.if_icmp .gt 84) 3 28 (84) 109 := ⟨by decide +kernel, rfl, by decide⟩
theorem cK_seekRests_28 : Dc yK_seekRests 28 (.bipush (-2)) 2 30 := ⟨by decide +kernel, rfl⟩
theorem cK_seekRests_30 : Dc yK_seekRests 30 (.istore 6) 2 32 := ⟨by decide +kernel, rfl⟩
theorem cK_seekRests_32 : Dc yK_seekRests 32 (.iload 6) 2 34 := ⟨by decide +kernel, rfl⟩
theorem cK_seekRests_34 : Dc yK_seekRests 34 (.iconst 2) 1 35 := ⟨by decide +kernel, rfl⟩
theorem cK_seekRests_35 : Db yK_seekRests 35 (.if_icmp .gt 68) 3 38 (68) 103 := ⟨by decide +kernel, rfl, by decide⟩
theorem cK_seekRests_38 : Dc yK_seekRests 38 (.aload_n 0) 1 39 := ⟨by decide +kernel, rfl⟩
theorem cK_seekRests_39 : Dc yK_seekRests 39 (.getfield 53) 3 42 := ⟨by decide +kernel, rfl⟩
theorem cK_seekRests_42 : Dc yK_seekRests 42 (.getfield 144) 3 45 := ⟨by decide +kernel, rfl⟩
theorem cK_seekRests_45 : Dc yK_seekRests 45 (.iload_n 1) 1 46 := ⟨by decide +kernel, rfl⟩
theorem cK_seekRests_46 : Dc yK_seekRests 46 (.iload 5) 2 48 := ⟨by decide +kernel, rfl⟩
theorem cK_seekRests_48 : Dc yK_seekRests 48 (.invokestatic 163) 3 51 := ⟨by decide +kernel, rfl⟩
theorem cK_seekRests_51 : Dc yK_seekRests 51 (.aload_n 0) 1 52 := ⟨by decide +kernel, rfl⟩
theorem cK_seekRests_52 : Dc yK_seekRests 52 (.getfield 53) 3 55 := ⟨by decide +kernel, rfl⟩
theorem cK_seekRests_55 : Dc yK_seekRests 55 (.getfield 144) 3 58 := ⟨by decide +kernel, rfl⟩
theorem cK_seekRests_58 : Dc yK_seekRests 58 (.iload_n 2) 1 59 := ⟨by decide +kernel, rfl⟩
theorem cK_seekRests_59 : Dc yK_seekRests 59 (.iload 6) 2 61 := ⟨by decide +kernel, rfl⟩
theorem cK_seekRests_61 : Dc yK_seekRests 61 (.invokestatic 163) 3 64 := ⟨by decide +kernel, rfl⟩
theorem cK_seekRests_64 : Dc yK_seekRests 64 (.aload_n 0) 1 65 := ⟨by decide +kernel, rfl⟩
theorem cK_seekRests_65 : Dc yK_seekRests 65 (.iload_n 1) 1 66 := ⟨by decide +kernel, rfl⟩
theorem cK_seekRests_66 : Dc yK_seekRests 66 (.iload_n 3) 1 67 := ⟨by decide +kernel, rfl⟩
theorem cK_seekRests_67 : Dc yK_seekRests 67 (.invokevirtual 303) 3 70 := ⟨by decide +kernel, rfl⟩
theorem cK_seekRests_70 : Db yK_seekRests 70 (.ifCond .eq 27) 3 73 (27) 97 := ⟨by decide +kernel, rfl, by decide⟩
theorem cK_seekRests_73 : Dc yK_seekRests 73 (.aload_n 0) 1 74 := ⟨by decide +kernel, rfl⟩
theorem cK_seekRests_74 : Dc yK_seekRests 74 (.iload_n 2) 1 75 := ⟨by decide +kernel, rfl⟩
theorem cK_seekRests_75 : Dc yK_seekRests 75 (.iload 4) 2 77 := ⟨by decide +kernel, rfl⟩
theorem cK_seekRests_77 : Dc yK_seekRests 77 (.invokevirtual 303) 3 80 := ⟨by decide +kernel, rfl⟩
theorem cK_seekRests_80 : Db yK_seekRests 80 (.ifCond .eq 17) 3 83 (17) 97 := ⟨by decide +kernel, rfl, by decide⟩
theorem cK_seekRests_83 : Dc yK_seekRests 83 (.aload_n 0) 1 84 := ⟨by decide +kernel, rfl⟩
theorem cK_seekRests_84 : Dc yK_seekRests 84 (.getfield 80) 3 87 := ⟨by decide +kernel, rfl⟩
theorem cK_seekRests_87 : Dc yK_seekRests 87 (.iload 5) 2 89 := ⟨by decide +kernel, rfl⟩
theorem cK_seekRests_89 : Dc yK_seekRests 89 (.iload 6) 2 91 := ⟨by decide +kernel, rfl⟩
theorem cK_seekRests_91 : Dc yK_seekRests 91 (.invokestatic 167) 3 94 := ⟨by decide +kernel, rfl⟩
theorem cK_seekRests_94 : Dc yK_seekRests 94 (.invokevirtual 301) 3 97 := ⟨by decide +kernel, rfl⟩
theorem cK_seekRests_97 : Dc yK_seekRests 97 (.iinc 6 1) 3 100 := ⟨by decide +kernel, rfl⟩
theorem cK_seekRests_100 : Db yK_seekRests 100 (.goto (-68)) 3 103 (-68) 32 := ⟨by decide +kernel, rfl, by decide⟩
theorem cK_seekRests_103 : Dc yK_seekRests 103 (.iinc 5 1) 3 106 := ⟨by decide +kernel, rfl⟩
theorem cK_seekRests_106 : Db yK_seekRests 106 (.goto (-84)) 3 109 (-84) 22 := ⟨by decide +kernel, rfl, by decide⟩
theorem cK_seekRests_109 : Dc yK_seekRests 109 (.return_) 1 110 := ⟨by decide +kernel, rfl⟩
theorem cK_isNearest_0 : Dc yK_isNearest 0 (.aload_n 0) 1 1 := ⟨by decide +kernel, rfl⟩
theorem cK_isNearest_1 : Dc yK_isNearest 1 (.getfield 53) 3 4 := ⟨by decide +kernel, rfl⟩
theorem cK_isNearest_4 : Dc yK_isNearest 4 (.getfield 144) 3 7 := ⟨by decide +kernel, rfl⟩
theorem cK_isNearest_7 : Dc yK_isNearest 7 (.iload_n 1) 1 8 := ⟨by decide +kernel, rfl⟩
theorem cK_isNearest_8 : Dc yK_isNearest 8 (.invokestatic 140) 3 11 := ⟨by decide +kernel, rfl⟩
theorem cK_isNearest_11 : Dc yK_isNearest 11 (.istore_n 3) 1 12 := ⟨by decide +kernel, rfl⟩
theorem cK_isNearest_12 : Dc yK_isNearest 12 (.aload_n 0) 1 13 := ⟨by decide +kernel, rfl⟩
theorem cK_isNearest_13 : Dc yK_isNearest 13 (.iload_n 1) 1 14 := ⟨by decide +kernel, rfl⟩
theorem cK_isNearest_14 : Dc yK_isNearest 14 (.iload_n 3) 1 15 := ⟨by decide +kernel, rfl⟩
theorem cK_isNearest_15 : Dc yK_isNearest 15 (.iload_n 2) 1 16 := ⟨by decide +kernel, rfl⟩
theorem cK_isNearest_16 : Dc yK_isNearest 16 (.invokevirtual 306) 3 19 := ⟨by decide +kernel, rfl⟩
theorem cK_isNearest_19 : Dc yK_isNearest 19 (.istore 4) 2 21 := ⟨by decide +kernel, rfl⟩
theorem cK_isNearest_21 : Dc yK_isNearest 21 (.iconst 1) 1 22 := ⟨by decide +kernel, rfl⟩
theorem cK_isNearest_22 : Dc yK_isNearest 22 (.istore 5) 2 24 := ⟨by decide +kernel, rfl⟩
theorem cK_isNearest_24 : Dc yK_isNearest 24 (.bipush (-2)) 2 26 := ⟨by decide +kernel, rfl⟩
theorem cK_isNearest_26 : Dc yK_isNearest 26 (.istore 6) 2 28 := ⟨by decide +kernel, rfl⟩
theorem cK_isNearest_28 : Dc yK_isNearest 28 (.iload 6) 2 30 := ⟨by decide +kernel, rfl⟩
theorem cK_isNearest_30 : Dc yK_isNearest 30 (.iconst 2) 1 31 := ⟨by decide +kernel, rfl⟩
theorem cK_isNearest_31 : Db yK_isNearest 31 (.if_icmp .gt 25) 3 34 (25) 56 := ⟨by decide +kernel, rfl, by decide⟩
theorem cK_isNearest_34 : Dc yK_isNearest 34 (.aload_n 0) 1 35 := ⟨by decide +kernel, rfl⟩
theorem cK_isNearest_35 : Dc yK_isNearest 35 (.iload_n 1) 1 36 := ⟨by decide +kernel, rfl⟩
theorem cK_isNearest_36 : Dc yK_isNearest 36 (.iload 6) 2 38 := ⟨by decide +kernel, rfl⟩
theorem cK_isNearest_38 : Dc yK_isNearest 38 (.iload_n 2) 1 39 := ⟨by decide +kernel, rfl⟩
theorem cK_isNearest_39 : Dc yK_isNearest 39 (.invokevirtual 306) 3 42 := ⟨by decide +kernel, rfl⟩
theorem cK_isNearest_42 : Dc yK_isNearest 42 (.iload 4) 2 44 := ⟨by decide +kernel, rfl⟩
theorem cK_isNearest_44 : Db yK_isNearest 44 (.if_icmp .ge 6) 3 47 (6) 50 := ⟨by decide +kernel, rfl, by decide⟩
theorem cK_isNearest_47 : Dc yK_isNearest 47 (.iconst 0) 1 48 := ⟨by decide +kernel, rfl⟩
theorem cK_isNearest_48 : Dc yK_isNearest 48 (.istore 5) 2 50 := ⟨by decide +kernel, rfl⟩
theorem cK_isNearest_50 : Dc yK_isNearest 50 (.iinc 6 1) 3 53 := ⟨by decide +kernel, rfl⟩
theorem cK_isNearest_53 : Db yK_isNearest 53 (.goto (-25)) 3 56 (-25) 28 := ⟨by decide +kernel, rfl, by decide⟩
theorem cK_isNearest_56 : Dc yK_isNearest 56 (.aload_n 0) 1 57 := ⟨by decide +kernel, rfl⟩
theorem cK_isNearest_57 : Dc yK_isNearest 57 (.getfield 53) 3 60 := ⟨by decide +kernel, rfl⟩
theorem cK_isNearest_60 : Dc yK_isNearest 60 (.getfield 144) 3 63 := ⟨by decide +kernel, rfl⟩
theorem cK_isNearest_63 : Dc yK_isNearest 63 (.iload_n 1) 1 64 := ⟨by decide +kernel, rfl⟩
theorem cK_isNearest_64 : Dc yK_isNearest 64 (.iload_n 3) 1 65 := ⟨by decide +kernel, rfl⟩
theorem cK_isNearest_65 : Dc yK_isNearest 65 (.invokestatic 163) 3 68 := ⟨by decide +kernel, rfl⟩
theorem cK_isNearest_68 : Dc yK_isNearest 68 (.iload 5) 2 70 := ⟨by decide +kernel, rfl⟩
theorem cK_isNearest_70 : Dc yK_isNearest 70 (.ireturn) 1 71 := ⟨by decide +kernel, rfl⟩
theorem cK_distanceBy_0 : Dc yK_distanceBy 0 (.aload_n 0) 1 1 := ⟨by decide +kernel, rfl⟩
theorem cK_distanceBy_1 : Dc yK_distanceBy 1 (.getfield 53) 3 4 := ⟨by decide +kernel, rfl⟩
theorem cK_distanceBy_4 : Dc yK_distanceBy 4 (.getfield 144) 3 7 := ⟨by decide +kernel, rfl⟩
theorem cK_distanceBy_7 : Dc yK_distanceBy 7 (.iload_n 1) 1 8 := ⟨by decide +kernel, rfl⟩
theorem cK_distanceBy_8 : Dc yK_distanceBy 8 (.iload_n 2) 1 9 := ⟨by decide +kernel, rfl⟩
theorem cK_distanceBy_9 : Dc yK_distanceBy 9 (.invokestatic 163) 3 12 := ⟨by decide +kernel, rfl⟩
theorem cK_distanceBy_12 : Dc yK_distanceBy 12 (.aload_n 0) 1 13 := ⟨by decide +kernel, rfl⟩
theorem cK_distanceBy_13 : Dc yK_distanceBy 13 (.getfield 59) 3 16 := ⟨by decide +kernel, rfl⟩
theorem cK_distanceBy_16 : Dc yK_distanceBy 16 (.aload_n 0) 1 17 := ⟨by decide +kernel, rfl⟩
theorem cK_distanceBy_17 : Dc yK_distanceBy 17 (.getfield 53) 3 20 := ⟨by decide +kernel, rfl⟩
theorem cK_distanceBy_20 : Dc yK_distanceBy 20 (.invokevirtual 124) 3 23 := ⟨by decide +kernel, rfl⟩
theorem cK_distanceBy_23 : Dc yK_distanceBy 23 (.aload_n 0) 1 24 := ⟨by decide +kernel, rfl⟩
theorem cK_distanceBy_24 : Dc yK_distanceBy 24 (.getfield 59) 3 27 := ⟨by decide +kernel, rfl⟩
theorem cK_distanceBy_27 : Dc yK_distanceBy 27 (.getfield 153) 3 30 := ⟨by decide +kernel, rfl⟩
theorem cK_distanceBy_30 : Dc yK_distanceBy 30 (.iload_n 1) 1 31 := ⟨by decide +kernel, rfl⟩
theorem cK_distanceBy_31 : Dc yK_distanceBy 31 (.invokestatic 140) 3 34 := ⟨by decide +kernel, rfl⟩
theorem cK_distanceBy_34 : Dc yK_distanceBy 34 (.iload_n 3) 1 35 := ⟨by decide +kernel, rfl⟩
theorem cK_distanceBy_35 : Dc yK_distanceBy 35 (.isub) 1 36 := ⟨by decide +kernel, rfl⟩
theorem cK_distanceBy_36 : Dc yK_distanceBy 36 (.invokestatic 309) 3 39 := ⟨by decide +kernel, rfl⟩
theorem cK_distanceBy_39 : Dc yK_distanceBy 39 (.ireturn) 1 40 := ⟨by decide +kernel, rfl⟩
theorem cK_gusts_0 : Dc yK_gusts 0 (.iload_n 1) 1 1 := ⟨by decide +kernel, rfl⟩
theorem cK_gusts_1 : Db yK_gusts 1 (.ifCond .lt 19) 3 4 (19) 20 := ⟨by decide +kernel, rfl, by decide⟩
theorem cK_gusts_4 : Dc yK_gusts 4 (.iload_n 1) 1 5 := ⟨by decide +kernel, rfl⟩
theorem cK_gusts_5 : Dc yK_gusts 5 (.bipush 10) 2 7 := ⟨by decide +kernel, rfl⟩
theorem cK_gusts_7 : Db yK_gusts 7 (.if_icmp .gt 13) 3 10 (13) 20 := ⟨by decide +kernel, rfl, by decide⟩
theorem cK_gusts_10 : Dc yK_gusts 10 (.iload_n 2) 1 11 := ⟨by decide +kernel, rfl⟩
theorem cK_gusts_11 : Db yK_gusts 11 (.ifCond .lt 9) 3 14 (9) 20 := ⟨by decide +kernel, rfl, by decide⟩
theorem cK_gusts_14 : Dc yK_gusts 14 (.iload_n 2) 1 15 := ⟨by decide +kernel, rfl⟩
theorem cK_gusts_15 : Dc yK_gusts 15 (.bipush 10) 2 17 := ⟨by decide +kernel, rfl⟩
theorem cK_gusts_17 : Db yK_gusts 17 (.if_icmp .le 6) 3 20 (6) 23 := ⟨by decide +kernel, rfl, by decide⟩
theorem cK_gusts_20 : Dc yK_gusts 20 (.bipush (-2)) 2 22 := ⟨by decide +kernel, rfl⟩
theorem cK_gusts_22 : Dc yK_gusts 22 (.ireturn) 1 23 := ⟨by decide +kernel, rfl⟩
theorem cK_gusts_23 : Dc yK_gusts 23 (.aload_n 0) 1 24 := ⟨by decide +kernel, rfl⟩
theorem cK_gusts_24 : Dc yK_gusts 24 (.iconst 0) 1 25 := ⟨by decide +kernel, rfl⟩
theorem cK_gusts_25 : Dc yK_gusts 25 (.iconst 0) 1 26 := ⟨by decide +kernel, rfl⟩
theorem cK_gusts_26 : Dc yK_gusts 26 (.invokevirtual 236) 3 29 := ⟨by decide +kernel, rfl⟩
theorem cK_gusts_29 : Dc yK_gusts 29 (.bipush 10) 2 31 := ⟨by decide +kernel, rfl⟩
theorem cK_gusts_31 : Dc yK_gusts 31 (.iload_n 1) 1 32 := ⟨by decide +kernel, rfl⟩
theorem cK_gusts_32 : Dc yK_gusts 32 (.isub) 1 33 := ⟨by decide +kernel, rfl⟩
theorem cK_gusts_33 : Dc yK_gusts 33 (.imul) 1 34 := ⟨by decide +kernel, rfl⟩
theorem cK_gusts_34 : Dc yK_gusts 34 (.bipush 10) 2 36 := ⟨by decide +kernel, rfl⟩
theorem cK_gusts_36 : Dc yK_gusts 36 (.iload_n 2) 1 37 := ⟨by decide +kernel, rfl⟩
theorem cK_gusts_37 : Dc yK_gusts 37 (.isub) 1 38 := ⟨by decide +kernel, rfl⟩
theorem cK_gusts_38 : Dc yK_gusts 38 (.imul) 1 39 := ⟨by decide +kernel, rfl⟩
theorem cK_gusts_39 : Dc yK_gusts 39 (.istore 4) 2 41 := ⟨by decide +kernel, rfl⟩
theorem cK_gusts_41 : Dc yK_gusts 41 (.iload 4) 2 43 := ⟨by decide +kernel, rfl⟩
theorem cK_gusts_43 : Dc yK_gusts 43 (.aload_n 0) 1 44 := ⟨by decide +kernel, rfl⟩
theorem cK_gusts_44 : Dc yK_gusts 44 (.iconst 0) 1 45 := ⟨by decide +kernel, rfl⟩
theorem cK_gusts_45 : Dc yK_gusts 45 (.iconst 1) 1 46 := ⟨by decide +kernel, rfl⟩
theorem cK_gusts_46 : Dc yK_gusts 46 (.invokevirtual 236) 3 49 := ⟨by decide +kernel, rfl⟩
theorem cK_gusts_49 : Dc yK_gusts 49 (.bipush 10) 2 51 := ⟨by decide +kernel, rfl⟩
theorem cK_gusts_51 : Dc yK_gusts 51 (.iload_n 1) 1 52 := ⟨by decide +kernel, rfl⟩
theorem cK_gusts_52 : Dc yK_gusts 52 (.isub) 1 53 := ⟨by decide +kernel, rfl⟩
theorem cK_gusts_53 : Dc yK_gusts 53 (.imul) 1 54 := ⟨by decide +kernel, rfl⟩
theorem cK_gusts_54 : Dc yK_gusts 54 (.iload_n 2) 1 55 := ⟨by decide +kernel, rfl⟩
theorem cK_gusts_55 : Dc yK_gusts 55 (.imul) 1 56 := ⟨by decide +kernel, rfl⟩
theorem cK_gusts_56 : Dc yK_gusts 56 (.iadd) 1 57 := ⟨by decide +kernel, rfl⟩
theorem cK_gusts_57 : Dc yK_gusts 57 (.istore 4) 2 59 := ⟨by decide +kernel, rfl⟩
theorem cK_gusts_59 : Dc yK_gusts 59 (.iload 4) 2 61 := ⟨by decide +kernel, rfl⟩
theorem cK_gusts_61 : Dc yK_gusts 61 (.aload_n 0) 1 62 := ⟨by decide +kernel, rfl⟩
theorem cK_gusts_62 : Dc yK_gusts 62 (.iconst 1) 1 63 := ⟨by decide +kernel, rfl⟩
theorem cK_gusts_63 : Dc yK_gusts 63 (.iconst 0) 1 64 := ⟨by decide +kernel, rfl⟩
theorem cK_gusts_64 : Dc yK_gusts 64 (.invokevirtual 236) 3 67 := ⟨by decide +kernel, rfl⟩
theorem cK_gusts_67 : Dc yK_gusts 67 (.iload_n 1) 1 68 := ⟨by decide +kernel, rfl⟩
theorem cK_gusts_68 : Dc yK_gusts 68 (.imul) 1 69 := ⟨by decide +kernel, rfl⟩
theorem cK_gusts_69 : Dc yK_gusts 69 (.bipush 10) 2 71 := ⟨by decide +kernel, rfl⟩
theorem cK_gusts_71 : Dc yK_gusts 71 (.iload_n 2) 1 72 := ⟨by decide +kernel, rfl⟩
theorem cK_gusts_72 : Dc yK_gusts 72 (.isub) 1 73 := ⟨by decide +kernel, rfl⟩
theorem cK_gusts_73 : Dc yK_gusts 73 (.imul) 1 74 := ⟨by decide +kernel, rfl⟩
theorem cK_gusts_74 : Dc yK_gusts 74 (.iadd) 1 75 := ⟨by decide +kernel, rfl⟩
theorem cK_gusts_75 : Dc yK_gusts 75 (.istore 4) 2 77 := ⟨by decide +kernel, rfl⟩
theorem cK_gusts_77 : Dc yK_gusts 77 (.iload 4) 2 79 := ⟨by decide +kernel, rfl⟩
theorem cK_gusts_79 : Dc yK_gusts 79 (.aload_n 0) 1 80 := ⟨by decide +kernel, rfl⟩
theorem cK_gusts_80 : Dc yK_gusts 80 (.iconst 1) 1 81 := ⟨by decide +kernel, rfl⟩
theorem cK_gusts_81 : Dc yK_gusts 81 (.iconst 1) 1 82 := ⟨by decide +kernel, rfl⟩
theorem cK_gusts_82 : Dc yK_gusts 82 (.invokevirtual 236) 3 85 := ⟨by decide +kernel, rfl⟩
theorem cK_gusts_85 : Dc yK_gusts 85 (.iload_n 1) 1 86 := ⟨by decide +kernel, rfl⟩
theorem cK_gusts_86 : Dc yK_gusts 86 (.imul) 1 87 := ⟨by decide +kernel, rfl⟩
theorem cK_gusts_87 : Dc yK_gusts 87 (.iload_n 2) 1 88 := ⟨by decide +kernel, rfl⟩
theorem cK_gusts_88 : Dc yK_gusts 88 (.imul) 1 89 := ⟨by decide +kernel, rfl⟩
theorem cK_gusts_89 : Dc yK_gusts 89 (.iadd) 1 90 := ⟨by decide +kernel, rfl⟩
theorem cK_gusts_90 : Dc yK_gusts 90 (.istore 4) 2 92 := ⟨by decide +kernel, rfl⟩
theorem cK_gusts_92 : Dc yK_gusts 92 (.iload 4) 2 94 := ⟨by decide +kernel, rfl⟩
theorem cK_gusts_94 : Dc yK_gusts 94 (.bipush 100) 2 96 := ⟨by decide +kernel, rfl⟩
theorem cK_gusts_96 : Dc yK_gusts 96 (.iload_n 3) 1 97 := ⟨by decide +kernel, rfl⟩
theorem cK_gusts_97 : Dc yK_gusts 97 (.invokestatic 204) 3 100 := ⟨by decide +kernel, rfl⟩
theorem cK_gusts_100 : Dc yK_gusts 100 (.ireturn) 1 101 := ⟨by decide +kernel, rfl⟩
theorem cK_calmIn_0 : Dc yK_calmIn 0 (.aload_n 0) 1 1 := ⟨by decide +kernel, rfl⟩
theorem cK_calmIn_1 : Dc yK_calmIn 1 (.getfield 53) 3 4 := ⟨by decide +kernel, rfl⟩
theorem cK_calmIn_4 : Dc yK_calmIn 4 (.aload_n 0) 1 5 := ⟨by decide +kernel, rfl⟩
theorem cK_calmIn_5 : Dc yK_calmIn 5 (.getfield 19) 3 8 := ⟨by decide +kernel, rfl⟩
theorem cK_calmIn_8 : Dc yK_calmIn 8 (.invokevirtual 239) 3 11 := ⟨by decide +kernel, rfl⟩
theorem cK_calmIn_11 : Dc yK_calmIn 11 (.aload_n 0) 1 12 := ⟨by decide +kernel, rfl⟩
theorem cK_calmIn_12 : Dc yK_calmIn 12 (.getfield 53) 3 15 := ⟨by decide +kernel, rfl⟩
theorem cK_calmIn_15 : Dc yK_calmIn 15 (.aload_n 0) 1 16 := ⟨by decide +kernel, rfl⟩
theorem cK_calmIn_16 : Dc yK_calmIn 16 (.getfield 19) 3 19 := ⟨by decide +kernel, rfl⟩
theorem cK_calmIn_19 : Dc yK_calmIn 19 (.getfield 109) 3 22 := ⟨by decide +kernel, rfl⟩
theorem cK_calmIn_22 : Dc yK_calmIn 22 (.iload_n 1) 1 23 := ⟨by decide +kernel, rfl⟩
theorem cK_calmIn_23 : Dc yK_calmIn 23 (.iadd) 1 24 := ⟨by decide +kernel, rfl⟩
theorem cK_calmIn_24 : Dc yK_calmIn 24 (.putfield 109) 3 27 := ⟨by decide +kernel, rfl⟩
theorem cK_calmIn_27 : Dc yK_calmIn 27 (.aload_n 0) 1 28 := ⟨by decide +kernel, rfl⟩
theorem cK_calmIn_28 : Dc yK_calmIn 28 (.getfield 53) 3 31 := ⟨by decide +kernel, rfl⟩
theorem cK_calmIn_31 : Dc yK_calmIn 31 (.aload_n 0) 1 32 := ⟨by decide +kernel, rfl⟩
theorem cK_calmIn_32 : Dc yK_calmIn 32 (.getfield 19) 3 35 := ⟨by decide +kernel, rfl⟩
theorem cK_calmIn_35 : Dc yK_calmIn 35 (.getfield 112) 3 38 := ⟨by decide +kernel, rfl⟩
theorem cK_calmIn_38 : Dc yK_calmIn 38 (.iload_n 2) 1 39 := ⟨by decide +kernel, rfl⟩
theorem cK_calmIn_39 : Dc yK_calmIn 39 (.iadd) 1 40 := ⟨by decide +kernel, rfl⟩
theorem cK_calmIn_40 : Dc yK_calmIn 40 (.putfield 112) 3 43 := ⟨by decide +kernel, rfl⟩
theorem cK_calmIn_43 : Dc yK_calmIn 43 (.aload_n 0) 1 44 := ⟨by decide +kernel, rfl⟩
theorem cK_calmIn_44 : Dc yK_calmIn 44 (.getfield 59) 3 47 := ⟨by decide +kernel, rfl⟩
theorem cK_calmIn_47 : Dc yK_calmIn 47 (.aload_n 0) 1 48 := ⟨by decide +kernel, rfl⟩
theorem cK_calmIn_48 : Dc yK_calmIn 48 (.getfield 53) 3 51 := ⟨by decide +kernel, rfl⟩
theorem cK_calmIn_51 : Dc yK_calmIn 51 (.invokevirtual 124) 3 54 := ⟨by decide +kernel, rfl⟩
theorem cK_calmIn_54 : Dc yK_calmIn 54 (.aload_n 0) 1 55 := ⟨by decide +kernel, rfl⟩
theorem cK_calmIn_55 : Dc yK_calmIn 55 (.getfield 59) 3 58 := ⟨by decide +kernel, rfl⟩
theorem cK_calmIn_58 : Dc yK_calmIn 58 (.getfield 127) 3 61 := ⟨by decide +kernel, rfl⟩
theorem cK_calmIn_61 : Db yK_calmIn 61 (.ifCond .ne 7) 3 64 (7) 68 := ⟨by decide +kernel, rfl, by decide⟩
theorem cK_calmIn_64 : Dc yK_calmIn 64 (.iconst 1) 1 65 := ⟨by decide +kernel, rfl⟩
theorem cK_calmIn_65 : Db yK_calmIn 65 (.goto 4) 3 68 (4) 69 := ⟨by decide +kernel, rfl, by decide⟩
theorem cK_calmIn_68 : Dc yK_calmIn 68 (.iconst 0) 1 69 := ⟨by decide +kernel, rfl⟩
theorem cK_calmIn_69 : Dc yK_calmIn 69 (.ireturn) 1 70 := ⟨by decide +kernel, rfl⟩
theorem cK_seed_0 : Dc yK_seed 0 (.aload_n 0) 1 1 := ⟨by decide +kernel, rfl⟩
theorem cK_seed_1 : Dc yK_seed 1 (.getfield 49) 3 4 := ⟨by decide +kernel, rfl⟩
theorem cK_seed_4 : Dc yK_seed 4 (.lstore_n 3) 1 5 := ⟨by decide +kernel, rfl⟩
theorem cK_seed_5 : Dc yK_seed 5 (.aload_n 0) 1 6 := ⟨by decide +kernel, rfl⟩
theorem cK_seed_6 : Dc yK_seed 6 (.lload_n 1) 1 7 := ⟨by decide +kernel, rfl⟩
theorem cK_seed_7 : Dc yK_seed 7 (.putfield 49) 3 10 := ⟨by decide +kernel, rfl⟩
theorem cK_seed_10 : Dc yK_seed 10 (.lload_n 3) 1 11 := ⟨by decide +kernel, rfl⟩
theorem cK_seed_11 : Dc yK_seed 11 (.lreturn) 1 12 := ⟨by decide +kernel, rfl⟩
theorem cK_afternoons_0 : Dc yK_afternoons 0 (.iload_n 1) 1 1 := ⟨by decide +kernel, rfl⟩
theorem cK_afternoons_1 : Dc yK_afternoons 1 (.iconst 1) 1 2 := ⟨by decide +kernel, rfl⟩
theorem cK_afternoons_2 : Db yK_afternoons 2 (.if_icmp .lt 9) 3 5 (9) 11 := ⟨by decide +kernel, rfl, by decide⟩
theorem cK_afternoons_5 : Dc yK_afternoons 5 (.iload_n 1) 1 6 := ⟨by decide +kernel, rfl⟩
theorem cK_afternoons_6 : Dc yK_afternoons 6 (.bipush 30) 2 8 := ⟨by decide +kernel, rfl⟩
theorem cK_afternoons_8 : Db yK_afternoons 8 (.if_icmp .le 6) 3 11 (6) 14 := ⟨by decide +kernel, rfl, by decide⟩
theorem cK_afternoons_11 : Dc yK_afternoons 11 (.bipush (-2)) 2 13 := ⟨by decide +kernel, rfl⟩
theorem cK_afternoons_13 : Dc yK_afternoons 13 (.ireturn) 1 14 := ⟨by decide +kernel, rfl⟩
theorem cK_afternoons_14 : Dc yK_afternoons 14 (.iconst 0) 1 15 := ⟨by decide +kernel, rfl⟩
theorem cK_afternoons_15 : Dc yK_afternoons 15 (.istore_n 2) 1 16 := ⟨by decide +kernel, rfl⟩
theorem cK_afternoons_16 : Dc yK_afternoons 16 (.aload_n 0) 1 17 := ⟨by decide +kernel, rfl⟩
theorem cK_afternoons_17 : Dc yK_afternoons 17 (.getfield 53) 3 20 := ⟨by decide +kernel, rfl⟩
theorem cK_afternoons_20 : Dc yK_afternoons 20 (.aload_n 0) 1 21 := ⟨by decide +kernel, rfl⟩
theorem cK_afternoons_21 : Dc yK_afternoons 21 (.getfield 19) 3 24 := ⟨by decide +kernel, rfl⟩
theorem cK_afternoons_24 : Dc yK_afternoons 24 (.invokevirtual 239) 3 27 := ⟨by decide +kernel, rfl⟩
theorem cK_afternoons_27 : Dc yK_afternoons 27 (.iconst 0) 1 28 := ⟨by decide +kernel, rfl⟩
theorem cK_afternoons_28 : Dc yK_afternoons 28 (.istore_n 3) 1 29 := ⟨by decide +kernel, rfl⟩
theorem cK_afternoons_29 : Dc yK_afternoons 29 (.iload_n 3) 1 30 := ⟨by decide +kernel, rfl⟩
theorem cK_afternoons_30 : Dc yK_afternoons 30 (.iload_n 1) 1 31 := ⟨by decide +kernel, rfl⟩
theorem cK_afternoons_31 : Db yK_afternoons 31 (.if_icmp .ge 89) 3 34 (89) 120 := ⟨by decide +kernel, rfl, by decide⟩
theorem cK_afternoons_34 : Dc yK_afternoons 34 (.aload_n 0) 1 35 := ⟨by decide +kernel, rfl⟩
theorem cK_afternoons_35 : Dc yK_afternoons 35 (.aload_n 0) 1 36 := ⟨by decide +kernel, rfl⟩
theorem cK_afternoons_36 : Dc yK_afternoons 36 (.getfield 49) 3 39 := ⟨by decide +kernel, rfl⟩
theorem cK_afternoons_39 : Dc yK_afternoons 39 (.ldc2_w 242) 3 42 := ⟨by decide +kernel, rfl⟩
theorem cK_afternoons_42 : Dc yK_afternoons 42 (.lmul) 1 43 := ⟨by decide +kernel, rfl⟩
theorem cK_afternoons_43 : Dc yK_afternoons 43 (.ldc2_w 244) 3 46 := ⟨by decide +kernel, rfl⟩
theorem cK_afternoons_46 : Dc yK_afternoons 46 (.ladd) 1 47 := ⟨by decide +kernel, rfl⟩
theorem cK_afternoons_47 : Dc yK_afternoons 47 (.putfield 49) 3 50 := ⟨by decide +kernel, rfl⟩
theorem cK_afternoons_50 : Dc yK_afternoons 50 (.aload_n 0) 1 51 := ⟨by decide +kernel, rfl⟩
theorem cK_afternoons_51 : Dc yK_afternoons 51 (.getfield 49) 3 54 := ⟨by decide +kernel, rfl⟩
theorem cK_afternoons_54 : Dc yK_afternoons 54 (.bipush 33) 2 56 := ⟨by decide +kernel, rfl⟩
theorem cK_afternoons_56 : Dc yK_afternoons 56 (.lushr) 1 57 := ⟨by decide +kernel, rfl⟩
theorem cK_afternoons_57 : Dc yK_afternoons 57 (.ldc2_w 246) 3 60 := ⟨by decide +kernel, rfl⟩
theorem cK_afternoons_60 : Dc yK_afternoons 60 (.lrem) 1 61 := ⟨by decide +kernel, rfl⟩
theorem cK_afternoons_61 : Dc yK_afternoons 61 (.l2i) 1 62 := ⟨by decide +kernel, rfl⟩
theorem cK_afternoons_62 : Dc yK_afternoons 62 (.istore 4) 2 64 := ⟨by decide +kernel, rfl⟩
theorem cK_afternoons_64 : Dc yK_afternoons 64 (.aload_n 0) 1 65 := ⟨by decide +kernel, rfl⟩
theorem cK_afternoons_65 : Dc yK_afternoons 65 (.getfield 53) 3 68 := ⟨by decide +kernel, rfl⟩
theorem cK_afternoons_68 : Dc yK_afternoons 68 (.iload 4) 2 70 := ⟨by decide +kernel, rfl⟩
theorem cK_afternoons_70 : Dc yK_afternoons 70 (.iconst 5) 1 71 := ⟨by decide +kernel, rfl⟩
theorem cK_afternoons_71 : Dc yK_afternoons 71 (.idiv) 1 72 := ⟨by decide +kernel, rfl⟩
theorem cK_afternoons_72 : Dc yK_afternoons 72 (.iconst 2) 1 73 := ⟨by decide +kernel, rfl⟩
theorem cK_afternoons_73 : Dc yK_afternoons 73 (.isub) 1 74 := ⟨by decide +kernel, rfl⟩
theorem cK_afternoons_74 : Dc yK_afternoons 74 (.putfield 109) 3 77 := ⟨by decide +kernel, rfl⟩
theorem cK_afternoons_77 : Dc yK_afternoons 77 (.aload_n 0) 1 78 := ⟨by decide +kernel, rfl⟩
theorem cK_afternoons_78 : Dc yK_afternoons 78 (.getfield 53) 3 81 := ⟨by decide +kernel, rfl⟩
theorem cK_afternoons_81 : Dc yK_afternoons 81 (.iload 4) 2 83 := ⟨by decide +kernel, rfl⟩
theorem cK_afternoons_83 : Dc yK_afternoons 83 (.iconst 5) 1 84 := ⟨by decide +kernel, rfl⟩
theorem cK_afternoons_84 : Dc yK_afternoons 84 (.irem) 1 85 := ⟨by decide +kernel, rfl⟩
theorem cK_afternoons_85 : Dc yK_afternoons 85 (.iconst 2) 1 86 := ⟨by decide +kernel, rfl⟩
theorem cK_afternoons_86 : Dc yK_afternoons 86 (.isub) 1 87 := ⟨by decide +kernel, rfl⟩
theorem cK_afternoons_87 : Dc yK_afternoons 87 (.putfield 112) 3 90 := ⟨by decide +kernel, rfl⟩
theorem cK_afternoons_90 : Dc yK_afternoons 90 (.aload_n 0) 1 91 := ⟨by decide +kernel, rfl⟩
theorem cK_afternoons_91 : Dc yK_afternoons 91 (.getfield 59) 3 94 := ⟨by decide +kernel, rfl⟩
theorem cK_afternoons_94 : Dc yK_afternoons 94 (.aload_n 0) 1 95 := ⟨by decide +kernel, rfl⟩
theorem cK_afternoons_95 : Dc yK_afternoons 95 (.getfield 53) 3 98 := ⟨by decide +kernel, rfl⟩
theorem cK_afternoons_98 : Dc yK_afternoons 98 (.invokevirtual 124) 3 101 := ⟨by decide +kernel, rfl⟩
theorem cK_afternoons_101 : Dc yK_afternoons 101 (.iload_n 2) 1 102 := ⟨by decide +kernel, rfl⟩
theorem cK_afternoons_102 : Dc yK_afternoons 102 (.aload_n 0) 1 103 := ⟨by decide +kernel, rfl⟩
theorem cK_afternoons_103 : Dc yK_afternoons 103 (.getfield 59) 3 106 := ⟨by decide +kernel, rfl⟩
theorem cK_afternoons_106 : Dc yK_afternoons 106 (.getfield 127) 3 109 := ⟨by decide +kernel, rfl⟩
theorem cK_afternoons_109 : Dc yK_afternoons 109 (.invokestatic 193) 3 112 := ⟨by decide +kernel, rfl⟩
theorem cK_afternoons_112 : Dc yK_afternoons 112 (.iadd) 1 113 := ⟨by decide +kernel, rfl⟩
theorem cK_afternoons_113 : Dc yK_afternoons 113 (.istore_n 2) 1 114 := ⟨by decide +kernel, rfl⟩
theorem cK_afternoons_114 : Dc yK_afternoons 114 (.iinc 3 1) 3 117 := ⟨by decide +kernel, rfl⟩
theorem cK_afternoons_117 : Db yK_afternoons 117 (.goto (-88)) 3 120 (-88) 29 := ⟨by decide +kernel, rfl, by decide⟩
theorem cK_afternoons_120 : Dc yK_afternoons 120 (.iload_n 2) 1 121 := ⟨by decide +kernel, rfl⟩
theorem cK_afternoons_121 : Dc yK_afternoons 121 (.ireturn) 1 122 := ⟨by decide +kernel, rfl⟩
theorem cK_keep_0 : Dc yK_keep 0 (.aload_n 0) 1 1 := ⟨by decide +kernel, rfl⟩
theorem cK_keep_1 : Dc yK_keep 1 (.iload_n 1) 1 2 := ⟨by decide +kernel, rfl⟩
theorem cK_keep_2 : Dc yK_keep 2 (.invokevirtual 248) 3 5 := ⟨by decide +kernel, rfl⟩
theorem cK_keep_5 : Dc yK_keep 5 (.astore_n 2) 1 6 := ⟨by decide +kernel, rfl⟩
theorem cK_keep_6 : Dc yK_keep 6 (.aload_n 2) 1 7 := ⟨by decide +kernel, rfl⟩
theorem cK_keep_7 : Db yK_keep 7 (.ifnull 16) 3 10 (16) 23 := ⟨by decide +kernel, rfl, by decide⟩
theorem cK_keep_10 : Dc yK_keep 10 (.iload_n 1) 1 11 := ⟨by decide +kernel, rfl⟩
theorem cK_keep_11 : Db yK_keep 11 (.ifCond .lt 12) 3 14 (12) 23 := ⟨by decide +kernel, rfl, by decide⟩
theorem cK_keep_14 : Dc yK_keep 14 (.iload_n 1) 1 15 := ⟨by decide +kernel, rfl⟩
theorem cK_keep_15 : Dc yK_keep 15 (.aload_n 0) 1 16 := ⟨by decide +kernel, rfl⟩
theorem cK_keep_16 : Dc yK_keep 16 (.getfield 38) 3 19 := ⟨by decide +kernel, rfl⟩
theorem cK_keep_19 : Dc yK_keep 19 (.arraylength) 1 20 := ⟨by decide +kernel, rfl⟩
theorem cK_keep_20 : Db yK_keep 20 (.if_icmp .lt 5) 3 23 (5) 25 := ⟨by decide +kernel, rfl, by decide⟩
theorem cK_keep_23 : Dc yK_keep 23 (.iconst (-1)) 1 24 := ⟨by decide +kernel, rfl⟩
theorem cK_keep_24 : Dc yK_keep 24 (.ireturn) 1 25 := ⟨by decide +kernel, rfl⟩
theorem cK_keep_25 : Dc yK_keep 25 (.aload_n 2) 1 26 := ⟨by decide +kernel, rfl⟩
theorem cK_keep_26 : Dc yK_keep 26 (.aload_n 0) 1 27 := ⟨by decide +kernel, rfl⟩
theorem cK_keep_27 : Dc yK_keep 27 (.getfield 19) 3 30 := ⟨by decide +kernel, rfl⟩
theorem cK_keep_30 : Dc yK_keep 30 (.invokevirtual 239) 3 33 := ⟨by decide +kernel, rfl⟩
theorem cK_keep_33 : Dc yK_keep 33 (.aload_n 0) 1 34 := ⟨by decide +kernel, rfl⟩
theorem cK_keep_34 : Dc yK_keep 34 (.getfield 38) 3 37 := ⟨by decide +kernel, rfl⟩
theorem cK_keep_37 : Dc yK_keep 37 (.iload_n 1) 1 38 := ⟨by decide +kernel, rfl⟩
theorem cK_keep_38 : Dc yK_keep 38 (.iconst 1) 1 39 := ⟨by decide +kernel, rfl⟩
theorem cK_keep_39 : Dc yK_keep 39 (.bastore) 1 40 := ⟨by decide +kernel, rfl⟩
theorem cK_keep_40 : Dc yK_keep 40 (.aload_n 0) 1 41 := ⟨by decide +kernel, rfl⟩
theorem cK_keep_41 : Dc yK_keep 41 (.getfield 19) 3 44 := ⟨by decide +kernel, rfl⟩
theorem cK_keep_44 : Dc yK_keep 44 (.getfield 106) 3 47 := ⟨by decide +kernel, rfl⟩
theorem cK_keep_47 : Dc yK_keep 47 (.ireturn) 1 48 := ⟨by decide +kernel, rfl⟩
theorem cK_slotLine_0 : Dc yK_slotLine 0 (.iload_n 1) 1 1 := ⟨by decide +kernel, rfl⟩
theorem cK_slotLine_1 : Db yK_slotLine 1 (.ifCond .lt 21) 3 4 (21) 22 := ⟨by decide +kernel, rfl, by decide⟩
theorem cK_slotLine_4 : Dc yK_slotLine 4 (.iload_n 1) 1 5 := ⟨by decide +kernel, rfl⟩
theorem cK_slotLine_5 : Dc yK_slotLine 5 (.aload_n 0) 1 6 := ⟨by decide +kernel, rfl⟩
theorem cK_slotLine_6 : Dc yK_slotLine 6 (.getfield 34) 3 9 := ⟨by decide +kernel, rfl⟩
theorem cK_slotLine_9 : Dc yK_slotLine 9 (.arraylength) 1 10 := ⟨by decide +kernel, rfl⟩
theorem cK_slotLine_10 : Db yK_slotLine 10 (.if_icmp .ge 12) 3 13 (12) 22 := ⟨by decide +kernel, rfl, by decide⟩
theorem cK_slotLine_13 : Dc yK_slotLine 13 (.aload_n 0) 1 14 := ⟨by decide +kernel, rfl⟩
theorem cK_slotLine_14 : Dc yK_slotLine 14 (.getfield 34) 3 17 := ⟨by decide +kernel, rfl⟩
theorem cK_slotLine_17 : Dc yK_slotLine 17 (.iload_n 1) 1 18 := ⟨by decide +kernel, rfl⟩
theorem cK_slotLine_18 : Dc yK_slotLine 18 (.aaload) 1 19 := ⟨by decide +kernel, rfl⟩
theorem cK_slotLine_19 : Db yK_slotLine 19 (.goto 4) 3 22 (4) 23 := ⟨by decide +kernel, rfl, by decide⟩
theorem cK_slotLine_22 : Dc yK_slotLine 22 (.aconst_null) 1 23 := ⟨by decide +kernel, rfl⟩
theorem cK_slotLine_23 : Dc yK_slotLine 23 (.areturn) 1 24 := ⟨by decide +kernel, rfl⟩
theorem cK_again_0 : Dc yK_again 0 (.aload_n 0) 1 1 := ⟨by decide +kernel, rfl⟩
theorem cK_again_1 : Dc yK_again 1 (.iload_n 1) 1 2 := ⟨by decide +kernel, rfl⟩
theorem cK_again_2 : Dc yK_again 2 (.invokevirtual 248) 3 5 := ⟨by decide +kernel, rfl⟩
theorem cK_again_5 : Dc yK_again 5 (.astore_n 2) 1 6 := ⟨by decide +kernel, rfl⟩
theorem cK_again_6 : Dc yK_again 6 (.aload_n 2) 1 7 := ⟨by decide +kernel, rfl⟩
theorem cK_again_7 : Db yK_again 7 (.ifnull 16) 3 10 (16) 23 := ⟨by decide +kernel, rfl, by decide⟩
theorem cK_again_10 : Dc yK_again 10 (.iload_n 1) 1 11 := ⟨by decide +kernel, rfl⟩
theorem cK_again_11 : Db yK_again 11 (.ifCond .lt 12) 3 14 (12) 23 := ⟨by decide +kernel, rfl, by decide⟩
theorem cK_again_14 : Dc yK_again 14 (.iload_n 1) 1 15 := ⟨by decide +kernel, rfl⟩
theorem cK_again_15 : Dc yK_again 15 (.aload_n 0) 1 16 := ⟨by decide +kernel, rfl⟩
theorem cK_again_16 : Dc yK_again 16 (.getfield 38) 3 19 := ⟨by decide +kernel, rfl⟩
theorem cK_again_19 : Dc yK_again 19 (.arraylength) 1 20 := ⟨by decide +kernel, rfl⟩
theorem cK_again_20 : Db yK_again 20 (.if_icmp .lt 5) 3 23 (5) 25 := ⟨by decide +kernel, rfl, by decide⟩
theorem cK_again_23 : Dc yK_again 23 (.iconst (-1)) 1 24 := ⟨by decide +kernel, rfl⟩
theorem cK_again_24 : Dc yK_again 24 (.ireturn) 1 25 := ⟨by decide +kernel, rfl⟩
theorem cK_again_25 : Dc yK_again 25 (.aload_n 0) 1 26 := ⟨by decide +kernel, rfl⟩
theorem cK_again_26 : Dc yK_again 26 (.getfield 38) 3 29 := ⟨by decide +kernel, rfl⟩
theorem cK_again_29 : Dc yK_again 29 (.iload_n 1) 1 30 := ⟨by decide +kernel, rfl⟩
theorem cK_again_30 : Dc yK_again 30 (.baload) 1 31 := ⟨by decide +kernel, rfl⟩
theorem cK_again_31 : Db yK_again 31 (.ifCond .ne 6) 3 34 (6) 37 := ⟨by decide +kernel, rfl, by decide⟩
theorem cK_again_34 : Dc yK_again 34 (.bipush (-3)) 2 36 := ⟨by decide +kernel, rfl⟩
theorem cK_again_36 : Dc yK_again 36 (.ireturn) 1 37 := ⟨by decide +kernel, rfl⟩
theorem cK_again_37 : Dc yK_again 37 (.aload_n 0) 1 38 := ⟨by decide +kernel, rfl⟩
theorem cK_again_38 : Dc yK_again 38 (.getfield 19) 3 41 := ⟨by decide +kernel, rfl⟩
theorem cK_again_41 : Dc yK_again 41 (.aload_n 2) 1 42 := ⟨by decide +kernel, rfl⟩
theorem cK_again_42 : Dc yK_again 42 (.invokevirtual 239) 3 45 := ⟨by decide +kernel, rfl⟩
theorem cK_again_45 : Dc yK_again 45 (.aload_n 0) 1 46 := ⟨by decide +kernel, rfl⟩
theorem cK_again_46 : Dc yK_again 46 (.getfield 26) 3 49 := ⟨by decide +kernel, rfl⟩
theorem cK_again_49 : Dc yK_again 49 (.invokevirtual 100) 3 52 := ⟨by decide +kernel, rfl⟩
theorem cK_again_52 : Dc yK_again 52 (.aload_n 0) 1 53 := ⟨by decide +kernel, rfl⟩
theorem cK_again_53 : Dc yK_again 53 (.getfield 19) 3 56 := ⟨by decide +kernel, rfl⟩
theorem cK_again_56 : Dc yK_again 56 (.getfield 106) 3 59 := ⟨by decide +kernel, rfl⟩
theorem cK_again_59 : Dc yK_again 59 (.ireturn) 1 60 := ⟨by decide +kernel, rfl⟩
end
section
theorem cM_init_0 : Dc yM_init 0 (.aload_n 0) 1 1 := ⟨by decide +kernel, rfl⟩
theorem cM_init_1 : Dc yM_init 1 (.invokespecial 1) 3 4 := ⟨by decide +kernel, rfl⟩
theorem cM_init_4 : Dc yM_init 4 (.aload_n 0) 1 5 := ⟨by decide +kernel, rfl⟩
theorem cM_init_5 : Dc yM_init 5 (.bipush 32) 2 7 := ⟨by decide +kernel, rfl⟩
theorem cM_init_7 : Dc yM_init 7 (.newarray .int) 2 9 := ⟨by decide +kernel, rfl⟩
theorem cM_init_9 : Dc yM_init 9 (.putfield 7) 3 12 := ⟨by decide +kernel, rfl⟩
theorem cM_init_12 : Dc yM_init 12 (.aload_n 0) 1 13 := ⟨by decide +kernel, rfl⟩
theorem cM_init_13 : Dc yM_init 13 (.iconst 1) 1 14 := ⟨by decide +kernel, rfl⟩
theorem cM_init_14 : Dc yM_init 14 (.putfield 13) 3 17 := ⟨by decide +kernel, rfl⟩
theorem cM_init_17 : Dc yM_init 17 (.aload_n 0) 1 18 := ⟨by decide +kernel, rfl⟩
theorem cM_init_18 : Dc yM_init 18 (.iconst 5) 1 19 := ⟨by decide +kernel, rfl⟩
theorem cM_init_19 : Dc yM_init 19 (.newarray .int) 2 21 := ⟨by decide +kernel, rfl⟩
theorem cM_init_21 : Dc yM_init 21 (.putfield 17) 3 24 := ⟨by decide +kernel, rfl⟩
theorem cM_init_24 : Dc yM_init 24 (.aload_n 0) 1 25 := ⟨by decide +kernel, rfl⟩
theorem cM_init_25 : Dc yM_init 25 (.iconst 5) 1 26 := ⟨by decide +kernel, rfl⟩
theorem cM_init_26 : Dc yM_init 26 (.newarray .int) 2 28 := ⟨by decide +kernel, rfl⟩
theorem cM_init_28 : Dc yM_init 28 (.putfield 20) 3 31 := ⟨by decide +kernel, rfl⟩
theorem cM_init_31 : Dc yM_init 31 (.aload_n 0) 1 32 := ⟨by decide +kernel, rfl⟩
theorem cM_init_32 : Dc yM_init 32 (.iconst 5) 1 33 := ⟨by decide +kernel, rfl⟩
theorem cM_init_33 : Dc yM_init 33 (.newarray .int) 2 35 := ⟨by decide +kernel, rfl⟩
theorem cM_init_35 : Dc yM_init 35 (.putfield 23) 3 38 := ⟨by decide +kernel, rfl⟩
theorem cM_init_38 : Dc yM_init 38 (.aload_n 0) 1 39 := ⟨by decide +kernel, rfl⟩
theorem cM_init_39 : Dc yM_init 39 (.iconst 5) 1 40 := ⟨by decide +kernel, rfl⟩
theorem cM_init_40 : Dc yM_init 40 (.newarray .int) 2 42 := ⟨by decide +kernel, rfl⟩
theorem cM_init_42 : Dc yM_init 42 (.putfield 26) 3 45 := ⟨by decide +kernel, rfl⟩
theorem cM_init_45 : Dc yM_init 45 (.aload_n 0) 1 46 := ⟨by decide +kernel, rfl⟩
theorem cM_init_46 : Dc yM_init 46 (.bipush 13) 2 48 := ⟨by decide +kernel, rfl⟩
theorem cM_init_48 : Dc yM_init 48 (.newarray .int) 2 50 := ⟨by decide +kernel, rfl⟩
theorem cM_init_50 : Dc yM_init 50 (.putfield 29) 3 53 := ⟨by decide +kernel, rfl⟩
theorem cM_init_53 : Dc yM_init 53 (.aload_n 0) 1 54 := ⟨by decide +kernel, rfl⟩
theorem cM_init_54 : Dc yM_init 54 (.bipush 13) 2 56 := ⟨by decide +kernel, rfl⟩
theorem cM_init_56 : Dc yM_init 56 (.newarray .int) 2 58 := ⟨by decide +kernel, rfl⟩
theorem cM_init_58 : Dc yM_init 58 (.putfield 32) 3 61 := ⟨by decide +kernel, rfl⟩
theorem cM_init_61 : Dc yM_init 61 (.aload_n 0) 1 62 := ⟨by decide +kernel, rfl⟩
theorem cM_init_62 : Dc yM_init 62 (.sipush 182) 3 65 := ⟨by decide +kernel, rfl⟩
theorem cM_init_65 : Dc yM_init 65 (.newarray .int) 2 67 := ⟨by decide +kernel, rfl⟩
theorem cM_init_67 : Dc yM_init 67 (.putfield 35) 3 70 := ⟨by decide +kernel, rfl⟩
theorem cM_init_70 : Dc yM_init 70 (.aload_n 0) 1 71 := ⟨by decide +kernel, rfl⟩
theorem cM_init_71 : Dc yM_init 71 (.bipush 26) 2 73 := ⟨by decide +kernel, rfl⟩
theorem cM_init_73 : Dc yM_init 73 (.newarray .int) 2 75 := ⟨by decide +kernel, rfl⟩
theorem cM_init_75 : Dc yM_init 75 (.putfield 38) 3 78 := ⟨by decide +kernel, rfl⟩
theorem cM_init_78 : Dc yM_init 78 (.aload_n 0) 1 79 := ⟨by decide +kernel, rfl⟩
theorem cM_init_79 : Dc yM_init 79 (.iconst 2) 1 80 := ⟨by decide +kernel, rfl⟩
theorem cM_init_80 : Dc yM_init 80 (.newarray .boolean) 2 82 := ⟨by decide +kernel, rfl⟩
theorem cM_init_82 : Dc yM_init 82 (.putfield 41) 3 85 := ⟨by decide +kernel, rfl⟩
theorem cM_init_85 : Dc yM_init 85 (.aload_n 0) 1 86 := ⟨by decide +kernel, rfl⟩
theorem cM_init_86 : Dc yM_init 86 (.bipush 6) 2 88 := ⟨by decide +kernel, rfl⟩
theorem cM_init_88 : Dc yM_init 88 (.newarray .int) 2 90 := ⟨by decide +kernel, rfl⟩
theorem cM_init_90 : Dc yM_init 90 (.putfield 45) 3 93 := ⟨by decide +kernel, rfl⟩
theorem cM_init_93 : Dc yM_init 93 (.aload_n 0) 1 94 := ⟨by decide +kernel, rfl⟩
theorem cM_init_94 : Dc yM_init 94 (.bipush 6) 2 96 := ⟨by decide +kernel, rfl⟩
theorem cM_init_96 : Dc yM_init 96 (.newarray .int) 2 98 := ⟨by decide +kernel, rfl⟩
theorem cM_init_98 : Dc yM_init 98 (.putfield 48) 3 101 := ⟨by decide +kernel, rfl⟩
theorem cM_init_101 : Dc yM_init 101 (.aload_n 0) 1 102 := ⟨by decide +kernel, rfl⟩
theorem cM_init_102 : Dc yM_init 102 (.iconst 5) 1 103 := ⟨by decide +kernel, rfl⟩
theorem cM_init_103 : Dc yM_init 103 (.newarray .int) 2 105 := ⟨by decide +kernel, rfl⟩
theorem cM_init_105 : Dc yM_init 105 (.putfield 51) 3 108 := ⟨by decide +kernel, rfl⟩
theorem cM_init_108 : Dc yM_init 108 (.aload_n 0) 1 109 := ⟨by decide +kernel, rfl⟩
theorem cM_init_109 : Dc yM_init 109 (.iconst 5) 1 110 := ⟨by decide +kernel, rfl⟩
theorem cM_init_110 : Dc yM_init 110 (.newarray .int) 2 112 := ⟨by decide +kernel, rfl⟩
theorem cM_init_112 : Dc yM_init 112 (.putfield 54) 3 115 := ⟨by decide +kernel, rfl⟩
theorem cM_init_115 : Dc yM_init 115 (.aload_n 0) 1 116 := ⟨by decide +kernel, rfl⟩
theorem cM_init_116 : Dc yM_init 116 (.iconst 5) 1 117 := ⟨by decide +kernel, rfl⟩
theorem cM_init_117 : Dc yM_init 117 (.newarray .int) 2 119 := ⟨by decide +kernel, rfl⟩
theorem cM_init_119 : Dc yM_init 119 (.putfield 57) 3 122 := ⟨by decide +kernel, rfl⟩
theorem cM_init_122 : Dc yM_init 122 (.aload_n 0) 1 123 := ⟨by decide +kernel, rfl⟩
theorem cM_init_123 : Dc yM_init 123 (.iconst 5) 1 124 := ⟨by decide +kernel, rfl⟩
theorem cM_init_124 : Dc yM_init 124 (.newarray .int) 2 126 := ⟨by decide +kernel, rfl⟩
theorem cM_init_126 : Dc yM_init 126 (.putfield 60) 3 129 := ⟨by decide +kernel, rfl⟩
theorem cM_init_129 : Dc yM_init 129 (.aload_n 0) 1 130 := ⟨by decide +kernel, rfl⟩
theorem cM_init_130 : Dc yM_init 130 (.bipush 32) 2 132 := ⟨by decide +kernel, rfl⟩
theorem cM_init_132 : Dc yM_init 132 (.newarray .int) 2 134 := ⟨by decide +kernel, rfl⟩
theorem cM_init_134 : Dc yM_init 134 (.putfield 63) 3 137 := ⟨by decide +kernel, rfl⟩
theorem cM_init_137 : Dc yM_init 137 (.return_) 1 138 := ⟨by decide +kernel, rfl⟩
theorem cM_write_0 : Dc yM_write 0 (.aload_n 0) 1 1 := ⟨by decide +kernel, rfl⟩
theorem cM_write_1 : Dc yM_write 1 (.iconst 0) 1 2 := ⟨by decide +kernel, rfl⟩
theorem cM_write_2 : Dc yM_write 2 (.putfield 66) 3 5 := ⟨by decide +kernel, rfl⟩
theorem cM_write_5 : Dc yM_write 5 (.iload_n 1) 1 6 := ⟨by decide +kernel, rfl⟩
theorem cM_write_6 : Dc yM_write 6 (.i2l) 1 7 := ⟨by decide +kernel, rfl⟩
theorem cM_write_7 : Dc yM_write 7 (.lconst 0) 1 8 := ⟨by decide +kernel, rfl⟩
theorem cM_write_8 : Dc yM_write 8 (.ldc2_w 73) 3 11 := ⟨by decide +kernel, rfl⟩
theorem cM_write_11 : Dc yM_write 11 (.invokestatic 69) 3 14 := ⟨by decide +kernel, rfl⟩
theorem cM_write_14 : Db yM_write 14 (.ifCond .ne 6) 3 17 (6) 20 := ⟨by decide +kernel, rfl, by decide⟩
theorem cM_write_17 : Dc yM_write 17 (.bipush (-2)) 2 19 := ⟨by decide +kernel, rfl⟩
theorem cM_write_19 : Dc yM_write 19 (.ireturn) 1 20 := ⟨by decide +kernel, rfl⟩
theorem cM_write_20 : Dc yM_write 20 (.aload_n 0) 1 21 := ⟨by decide +kernel, rfl⟩
theorem cM_write_21 : Dc yM_write 21 (.getfield 75) 3 24 := ⟨by decide +kernel, rfl⟩
theorem cM_write_24 : Dc yM_write 24 (.bipush 32) 2 26 := ⟨by decide +kernel, rfl⟩
theorem cM_write_26 : Db yM_write 26 (.if_icmp .ne 6) 3 29 (6) 32 := ⟨by decide +kernel, rfl, by decide⟩
theorem cM_write_29 : Dc yM_write 29 (.bipush (-4)) 2 31 := ⟨by decide +kernel, rfl⟩
theorem cM_write_31 : Dc yM_write 31 (.ireturn) 1 32 := ⟨by decide +kernel, rfl⟩
theorem cM_write_32 : Dc yM_write 32 (.aload_n 0) 1 33 := ⟨by decide +kernel, rfl⟩
theorem cM_write_33 : Dc yM_write 33 (.getfield 7) 3 36 := ⟨by decide +kernel, rfl⟩
theorem cM_write_36 : Dc yM_write 36 (.aload_n 0) 1 37 := ⟨by decide +kernel, rfl⟩
theorem cM_write_37 : Dc yM_write 37 (.getfield 75) 3 40 := ⟨by decide +kernel, rfl⟩
theorem cM_write_40 : Dc yM_write 40 (.iload_n 1) 1 41 := ⟨by decide +kernel, rfl⟩
theorem cM_write_41 : Dc yM_write 41 (.iastore) 1 42 := ⟨by decide +kernel, rfl⟩
theorem cM_write_42 : Dc yM_write 42 (.aload_n 0) 1 43 := ⟨by decide +kernel, rfl⟩
theorem cM_write_43 : Dc yM_write 43 (.dup) 1 44 := ⟨by decide +kernel, rfl⟩
theorem cM_write_44 : Dc yM_write 44 (.getfield 75) 3 47 := ⟨by decide +kernel, rfl⟩
theorem cM_write_47 : Dc yM_write 47 (.iconst 1) 1 48 := ⟨by decide +kernel, rfl⟩
theorem cM_write_48 : Dc yM_write 48 (.iadd) 1 49 := ⟨by decide +kernel, rfl⟩
theorem cM_write_49 : Dc yM_write 49 (.putfield 75) 3 52 := ⟨by decide +kernel, rfl⟩
theorem cM_write_52 : Dc yM_write 52 (.aload_n 0) 1 53 := ⟨by decide +kernel, rfl⟩
theorem cM_write_53 : Dc yM_write 53 (.getfield 75) 3 56 := ⟨by decide +kernel, rfl⟩
theorem cM_write_56 : Dc yM_write 56 (.ireturn) 1 57 := ⟨by decide +kernel, rfl⟩
theorem cM_in_0 : Dc yM_in 0 (.lload_n 0) 1 1 := ⟨by decide +kernel, rfl⟩
theorem cM_in_1 : Dc yM_in 1 (.lload_n 2) 1 2 := ⟨by decide +kernel, rfl⟩
theorem cM_in_2 : Dc yM_in 2 (.lcmp) 1 3 := ⟨by decide +kernel, rfl⟩
theorem cM_in_3 : Db yM_in 3 (.ifCond .lt 14) 3 6 (14) 17 := ⟨by decide +kernel, rfl, by decide⟩
theorem cM_in_6 : Dc yM_in 6 (.lload_n 0) 1 7 := ⟨by decide +kernel, rfl⟩
theorem cM_in_7 : Dc yM_in 7 (.lload 4) 2 9 := ⟨by decide +kernel, rfl⟩
theorem cM_in_9 : Dc yM_in 9 (.lcmp) 1 10 := ⟨by decide +kernel, rfl⟩
theorem cM_in_10 : Db yM_in 10 (.ifCond .gt 7) 3 13 (7) 17 := ⟨by decide +kernel, rfl, by decide⟩
theorem cM_in_13 : Dc yM_in 13 (.iconst 1) 1 14 := ⟨by decide +kernel, rfl⟩
theorem cM_in_14 : Db yM_in 14 (.goto 4) 3 17 (4) 18 := ⟨by decide +kernel, rfl, by decide⟩
theorem cM_in_17 : Dc yM_in 17 (.iconst 0) 1 18 := ⟨by decide +kernel, rfl⟩
theorem cM_in_18 : Dc yM_in 18 (.ireturn) 1 19 := ⟨by decide +kernel, rfl⟩
theorem cM_wipe_0 : Dc yM_wipe 0 (.aload_n 0) 1 1 := ⟨by decide +kernel, rfl⟩
theorem cM_wipe_1 : Dc yM_wipe 1 (.iconst 0) 1 2 := ⟨by decide +kernel, rfl⟩
theorem cM_wipe_2 : Dc yM_wipe 2 (.putfield 66) 3 5 := ⟨by decide +kernel, rfl⟩
theorem cM_wipe_5 : Dc yM_wipe 5 (.aload_n 0) 1 6 := ⟨by decide +kernel, rfl⟩
theorem cM_wipe_6 : Dc yM_wipe 6 (.getfield 75) 3 9 := ⟨by decide +kernel, rfl⟩
theorem cM_wipe_9 : Dc yM_wipe 9 (.istore_n 1) 1 10 := ⟨by decide +kernel, rfl⟩
theorem cM_wipe_10 : Dc yM_wipe 10 (.aload_n 0) 1 11 := ⟨by decide +kernel, rfl⟩
theorem cM_wipe_11 : Dc yM_wipe 11 (.iconst 0) 1 12 := ⟨by decide +kernel, rfl⟩
theorem cM_wipe_12 : Dc yM_wipe 12 (.putfield 75) 3 15 := ⟨by decide +kernel, rfl⟩
theorem cM_wipe_15 : Dc yM_wipe 15 (.iload_n 1) 1 16 := ⟨by decide +kernel, rfl⟩
theorem cM_wipe_16 : Dc yM_wipe 16 (.ireturn) 1 17 := ⟨by decide +kernel, rfl⟩
theorem cM_fault_0 : Dc yM_fault 0 (.aload_n 0) 1 1 := ⟨by decide +kernel, rfl⟩
theorem cM_fault_1 : Dc yM_fault 1 (.iconst 0) 1 2 := ⟨by decide +kernel, rfl⟩
theorem cM_fault_2 : Dc yM_fault 2 (.putfield 66) 3 5 := ⟨by decide +kernel, rfl⟩
theorem cM_fault_5 : Dc yM_fault 5 (.aload_n 0) 1 6 := ⟨by decide +kernel, rfl⟩
theorem cM_fault_6 : Dc yM_fault 6 (.invokevirtual 104) 3 9 := ⟨by decide +kernel, rfl⟩
theorem cM_fault_9 : Dc yM_fault 9 (.ireturn) 1 10 := ⟨by decide +kernel, rfl⟩
theorem cM_readString_0 : Dc yM_readString 0 (.aload_n 0) 1 1 := ⟨by decide +kernel, rfl⟩
theorem cM_readString_1 : Dc yM_readString 1 (.iconst 0) 1 2 := ⟨by decide +kernel, rfl⟩
theorem cM_readString_2 : Dc yM_readString 2 (.putfield 78) 3 5 := ⟨by decide +kernel, rfl⟩
theorem cM_readString_5 : Dc yM_readString 5 (.aload_n 0) 1 6 := ⟨by decide +kernel, rfl⟩
theorem cM_readString_6 : Dc yM_readString 6 (.iconst 0) 1 7 := ⟨by decide +kernel, rfl⟩
theorem cM_readString_7 : Dc yM_readString 7 (.putfield 97) 3 10 := ⟨by decide +kernel, rfl⟩
theorem cM_readString_10 : Dc yM_readString 10 (.aload_n 0) 1 11 := ⟨by decide +kernel, rfl⟩
theorem cM_readString_11 : Dc yM_readString 11 (.getfield 75) 3 14 := ⟨by decide +kernel, rfl⟩
theorem cM_readString_14 : Db yM_readString 14 (.ifCond .eq 14) 3 17 (14) 28 := ⟨by decide +kernel, rfl, by decide⟩
theorem cM_readString_17 : Dc yM_readString 17 (.aload_n 0) 1 18 := ⟨by decide +kernel, rfl⟩
theorem cM_readString_18 : Dc yM_readString 18 (.getfield 7) 3 21 := ⟨by decide +kernel, rfl⟩
theorem cM_readString_21 : Dc yM_readString 21 (.iconst 0) 1 22 := ⟨by decide +kernel, rfl⟩
theorem cM_readString_22 : Dc yM_readString 22 (.iaload) 1 23 := ⟨by decide +kernel, rfl⟩
theorem cM_readString_23 : Dc yM_readString 23 (.bipush 75) 2 25 := ⟨by decide +kernel, rfl⟩
theorem cM_readString_25 : Db yM_readString 25 (.if_icmp .eq 5) 3 28 (5) 30 := ⟨by decide +kernel, rfl, by decide⟩
theorem cM_readString_28 : Dc yM_readString 28 (.iconst 0) 1 29 := ⟨by decide +kernel, rfl⟩
theorem cM_readString_29 : Dc yM_readString 29 (.ireturn) 1 30 := ⟨by decide +kernel, rfl⟩
theorem cM_readString_30 : Dc yM_readString 30 (.aload_n 0) 1 31 := ⟨by decide +kernel, rfl⟩
theorem cM_readString_31 : Dc yM_readString 31 (.iconst 1) 1 32 := ⟨by decide +kernel, rfl⟩
theorem cM_readString_32 : Dc yM_readString 32 (.putfield 78) 3 35 := ⟨by decide +kernel, rfl⟩
theorem cM_readString_35 : Dc yM_readString 35 (.aload_n 0) 1 36 := ⟨by decide +kernel, rfl⟩
theorem cM_readString_36 : Dc yM_readString 36 (.invokevirtual 100) 3 39 := ⟨by decide +kernel, rfl⟩
theorem cM_readString_39 : Db yM_readString 39 (.ifCond .ne 8) 3 42 (8) 47 := ⟨by decide +kernel, rfl, by decide⟩
theorem cM_readString_42 : Dc yM_readString 42 (.aload_n 0) 1 43 := ⟨by decide +kernel, rfl⟩
theorem cM_readString_43 : Dc yM_readString 43 (.getfield 78) 3 46 := ⟨by decide +kernel, rfl⟩
theorem cM_readString_46 : Dc yM_readString 46 (.ireturn) 1 47 := ⟨by decide +kernel, rfl⟩
theorem cM_readString_47 : Dc yM_readString 47 (.aload_n 0) 1 48 := ⟨by decide +kernel, rfl⟩
theorem cM_readString_48 : Dc yM_readString 48 (.getfield 78) 3 51 := ⟨by decide +kernel, rfl⟩
theorem cM_readString_51 : Dc yM_readString 51 (.aload_n 0) 1 52 := ⟨by decide +kernel, rfl⟩
theorem cM_readString_52 : Dc yM_readString 52 (.getfield 75) 3 55 := ⟨by decide +kernel, rfl⟩
theorem cM_readString_55 : Db yM_readString 55 (.if_icmp .ge 140) 3 58 (140) 195 := ⟨by decide +kernel, rfl, by decide⟩
theorem cM_readString_58 : Dc yM_readString 58 (.aload_n 0) 1 59 := ⟨by decide +kernel, rfl⟩
theorem cM_readString_59 : Dc yM_readString 59 (.getfield 7) 3 62 := ⟨by decide +kernel, rfl⟩
theorem cM_readString_62 : Dc yM_readString 62 (.aload_n 0) 1 63 := ⟨by decide +kernel, rfl⟩
theorem cM_readString_63 : Dc yM_readString 63 (.getfield 78) 3 66 := ⟨by decide +kernel, rfl⟩
theorem cM_readString_66 : Dc yM_readString 66 (.iaload) 1 67 := ⟨by decide +kernel, rfl⟩
theorem cM_readString_67 : Dc yM_readString 67 (.bipush 89) 2 69 := ⟨by decide +kernel, rfl⟩
theorem cM_readString_69 : Db yM_readString 69 (.if_icmp .ne 11) 3 72 (11) 80 := ⟨by decide +kernel, rfl, by decide⟩
theorem cM_readString_72 : Dc yM_readString 72 (.aload_n 0) 1 73 := ⟨by decide +kernel, rfl⟩
theorem cM_readString_73 : Dc yM_readString 73 (.getfield 97) 3 76 := ⟨by decide +kernel, rfl⟩
theorem cM_readString_76 : Dc yM_readString 76 (.iconst 5) 1 77 := ⟨by decide +kernel, rfl⟩
theorem cM_readString_77 : Db yM_readString 77 (.if_icmp .ne 8) 3 80 (8) 85 := ⟨by decide +kernel, rfl, by decide⟩
theorem cM_readString_80 : Dc yM_readString 80 (.aload_n 0) 1 81 := ⟨by decide +kernel, rfl⟩
theorem cM_readString_81 : Dc yM_readString 81 (.getfield 78) 3 84 := ⟨by decide +kernel, rfl⟩
theorem cM_readString_84 : Dc yM_readString 84 (.ireturn) 1 85 := ⟨by decide +kernel, rfl⟩
theorem cM_readString_85 : Dc yM_readString 85 (.aload_n 0) 1 86 := ⟨by decide +kernel, rfl⟩
theorem cM_readString_86 : Dc yM_readString 86 (.dup) 1 87 := ⟨by decide +kernel, rfl⟩
theorem cM_readString_87 : Dc yM_readString 87 (.getfield 78) 3 90 := ⟨by decide +kernel, rfl⟩
theorem cM_readString_90 : Dc yM_readString 90 (.iconst 1) 1 91 := ⟨by decide +kernel, rfl⟩
theorem cM_readString_91 : Dc yM_readString 91 (.iadd) 1 92 := ⟨by decide +kernel, rfl⟩
theorem cM_readString_92 : Dc yM_readString 92 (.putfield 78) 3 95 := ⟨by decide +kernel, rfl⟩
theorem cM_readString_95 : Dc yM_readString 95 (.aload_n 0) 1 96 := ⟨by decide +kernel, rfl⟩
theorem cM_readString_96 : Dc yM_readString 96 (.iconst 1) 1 97 := ⟨by decide +kernel, rfl⟩
theorem cM_readString_97 : Dc yM_readString 97 (.bipush 9) 2 99 := ⟨by decide +kernel, rfl⟩
theorem cM_readString_99 : Dc yM_readString 99 (.invokevirtual 81) 3 102 := ⟨by decide +kernel, rfl⟩
theorem cM_readString_102 : Dc yM_readString 102 (.istore_n 1) 1 103 := ⟨by decide +kernel, rfl⟩
theorem cM_readString_103 : Dc yM_readString 103 (.iload_n 1) 1 104 := ⟨by decide +kernel, rfl⟩
theorem cM_readString_104 : Dc yM_readString 104 (.bipush (-9)) 2 106 := ⟨by decide +kernel, rfl⟩
theorem cM_readString_106 : Db yM_readString 106 (.if_icmp .ne 8) 3 109 (8) 114 := ⟨by decide +kernel, rfl, by decide⟩
theorem cM_readString_109 : Dc yM_readString 109 (.bipush (-9)) 2 111 := ⟨by decide +kernel, rfl⟩
theorem cM_readString_111 : Db yM_readString 111 (.goto 9) 3 114 (9) 120 := ⟨by decide +kernel, rfl, by decide⟩
theorem cM_readString_114 : Dc yM_readString 114 (.aload_n 0) 1 115 := ⟨by decide +kernel, rfl⟩
theorem cM_readString_115 : Dc yM_readString 115 (.iconst 0) 1 116 := ⟨by decide +kernel, rfl⟩
theorem cM_readString_116 : Dc yM_readString 116 (.iconst 4) 1 117 := ⟨by decide +kernel, rfl⟩
theorem cM_readString_117 : Dc yM_readString 117 (.invokevirtual 81) 3 120 := ⟨by decide +kernel, rfl⟩
theorem cM_readString_120 : Dc yM_readString 120 (.istore_n 2) 1 121 := ⟨by decide +kernel, rfl⟩
theorem cM_readString_121 : Dc yM_readString 121 (.iload_n 2) 1 122 := ⟨by decide +kernel, rfl⟩
theorem cM_readString_122 : Dc yM_readString 122 (.bipush (-9)) 2 124 := ⟨by decide +kernel, rfl⟩
theorem cM_readString_124 : Db yM_readString 124 (.if_icmp .ne 8) 3 127 (8) 132 := ⟨by decide +kernel, rfl, by decide⟩
theorem cM_readString_127 : Dc yM_readString 127 (.bipush (-9)) 2 129 := ⟨by decide +kernel, rfl⟩
theorem cM_readString_129 : Db yM_readString 129 (.goto 9) 3 132 (9) 138 := ⟨by decide +kernel, rfl, by decide⟩
theorem cM_readString_132 : Dc yM_readString 132 (.aload_n 0) 1 133 := ⟨by decide +kernel, rfl⟩
theorem cM_readString_133 : Dc yM_readString 133 (.iconst 0) 1 134 := ⟨by decide +kernel, rfl⟩
theorem cM_readString_134 : Dc yM_readString 134 (.iconst 3) 1 135 := ⟨by decide +kernel, rfl⟩
theorem cM_readString_135 : Dc yM_readString 135 (.invokevirtual 81) 3 138 := ⟨by decide +kernel, rfl⟩
theorem cM_readString_138 : Dc yM_readString 138 (.istore_n 3) 1 139 := ⟨by decide +kernel, rfl⟩
theorem cM_readString_139 : Dc yM_readString 139 (.iload_n 3) 1 140 := ⟨by decide +kernel, rfl⟩
theorem cM_readString_140 : Dc yM_readString 140 (.bipush (-9)) 2 142 := ⟨by decide +kernel, rfl⟩
theorem cM_readString_142 : Db yM_readString 142 (.if_icmp .ne 8) 3 145 (8) 150 := ⟨by decide +kernel, rfl, by decide⟩
theorem cM_readString_145 : Dc yM_readString 145 (.aload_n 0) 1 146 := ⟨by decide +kernel, rfl⟩
theorem cM_readString_146 : Dc yM_readString 146 (.getfield 78) 3 149 := ⟨by decide +kernel, rfl⟩
theorem cM_readString_149 : Dc yM_readString 149 (.ireturn) 1 150 := ⟨by decide +kernel, rfl⟩
theorem cM_readString_150 : Dc yM_readString 150 (.aload_n 0) 1 151 := ⟨by decide +kernel, rfl⟩
theorem cM_readString_151 : Dc yM_readString 151 (.getfield 20) 3 154 := ⟨by decide +kernel, rfl⟩
theorem cM_readString_154 : Dc yM_readString 154 (.aload_n 0) 1 155 := ⟨by decide +kernel, rfl⟩
theorem cM_readString_155 : Dc yM_readString 155 (.getfield 97) 3 158 := ⟨by decide +kernel, rfl⟩
theorem cM_readString_158 : Dc yM_readString 158 (.iload_n 1) 1 159 := ⟨by decide +kernel, rfl⟩
theorem cM_readString_159 : Dc yM_readString 159 (.iastore) 1 160 := ⟨by decide +kernel, rfl⟩
theorem cM_readString_160 : Dc yM_readString 160 (.aload_n 0) 1 161 := ⟨by decide +kernel, rfl⟩
theorem cM_readString_161 : Dc yM_readString 161 (.getfield 23) 3 164 := ⟨by decide +kernel, rfl⟩
theorem cM_readString_164 : Dc yM_readString 164 (.aload_n 0) 1 165 := ⟨by decide +kernel, rfl⟩
theorem cM_readString_165 : Dc yM_readString 165 (.getfield 97) 3 168 := ⟨by decide +kernel, rfl⟩
theorem cM_readString_168 : Dc yM_readString 168 (.iload_n 2) 1 169 := ⟨by decide +kernel, rfl⟩
theorem cM_readString_169 : Dc yM_readString 169 (.iconst 2) 1 170 := ⟨by decide +kernel, rfl⟩
theorem cM_readString_170 : Dc yM_readString 170 (.isub) 1 171 := ⟨by decide +kernel, rfl⟩
theorem cM_readString_171 : Dc yM_readString 171 (.iastore) 1 172 := ⟨by decide +kernel, rfl⟩
theorem cM_readString_172 : Dc yM_readString 172 (.aload_n 0) 1 173 := ⟨by decide +kernel, rfl⟩
theorem cM_readString_173 : Dc yM_readString 173 (.getfield 26) 3 176 := ⟨by decide +kernel, rfl⟩
theorem cM_readString_176 : Dc yM_readString 176 (.aload_n 0) 1 177 := ⟨by decide +kernel, rfl⟩
theorem cM_readString_177 : Dc yM_readString 177 (.getfield 97) 3 180 := ⟨by decide +kernel, rfl⟩
theorem cM_readString_180 : Dc yM_readString 180 (.iload_n 3) 1 181 := ⟨by decide +kernel, rfl⟩
theorem cM_readString_181 : Dc yM_readString 181 (.iastore) 1 182 := ⟨by decide +kernel, rfl⟩
theorem cM_readString_182 : Dc yM_readString 182 (.aload_n 0) 1 183 := ⟨by decide +kernel, rfl⟩
theorem cM_readString_183 : Dc yM_readString 183 (.dup) 1 184 := ⟨by decide +kernel, rfl⟩
theorem cM_readString_184 : Dc yM_readString 184 (.getfield 97) 3 187 := ⟨by decide +kernel, rfl⟩
theorem cM_readString_187 : Dc yM_readString 187 (.iconst 1) 1 188 := ⟨by decide +kernel, rfl⟩
theorem cM_readString_188 : Dc yM_readString 188 (.iadd) 1 189 := ⟨by decide +kernel, rfl⟩
theorem cM_readString_189 : Dc yM_readString 189 (.putfield 97) 3 192 := ⟨by decide +kernel, rfl⟩
theorem cM_readString_192 : Db yM_readString 192 (.goto (-145)) 3 195 (-145) 47 := ⟨by decide +kernel, rfl, by decide⟩
theorem cM_readString_195 : Dc yM_readString 195 (.bipush (-9)) 2 197 := ⟨by decide +kernel, rfl⟩
theorem cM_readString_197 : Dc yM_readString 197 (.ireturn) 1 198 := ⟨by decide +kernel, rfl⟩
theorem cM_readHead_0 : Dc yM_readHead 0 (.aload_n 0) 1 1 := ⟨by decide +kernel, rfl⟩
theorem cM_readHead_1 : Dc yM_readHead 1 (.iconst 0) 1 2 := ⟨by decide +kernel, rfl⟩
theorem cM_readHead_2 : Dc yM_readHead 2 (.iconst 4) 1 3 := ⟨by decide +kernel, rfl⟩
theorem cM_readHead_3 : Dc yM_readHead 3 (.invokevirtual 81) 3 6 := ⟨by decide +kernel, rfl⟩
theorem cM_readHead_6 : Dc yM_readHead 6 (.istore_n 1) 1 7 := ⟨by decide +kernel, rfl⟩
theorem cM_readHead_7 : Dc yM_readHead 7 (.iload_n 1) 1 8 := ⟨by decide +kernel, rfl⟩
theorem cM_readHead_8 : Dc yM_readHead 8 (.bipush (-9)) 2 10 := ⟨by decide +kernel, rfl⟩
theorem cM_readHead_10 : Db yM_readHead 10 (.if_icmp .ne 8) 3 13 (8) 18 := ⟨by decide +kernel, rfl, by decide⟩
theorem cM_readHead_13 : Dc yM_readHead 13 (.bipush (-9)) 2 15 := ⟨by decide +kernel, rfl⟩
theorem cM_readHead_15 : Db yM_readHead 15 (.goto 9) 3 18 (9) 24 := ⟨by decide +kernel, rfl, by decide⟩
theorem cM_readHead_18 : Dc yM_readHead 18 (.aload_n 0) 1 19 := ⟨by decide +kernel, rfl⟩
theorem cM_readHead_19 : Dc yM_readHead 19 (.iconst 0) 1 20 := ⟨by decide +kernel, rfl⟩
theorem cM_readHead_20 : Dc yM_readHead 20 (.iconst 4) 1 21 := ⟨by decide +kernel, rfl⟩
theorem cM_readHead_21 : Dc yM_readHead 21 (.invokevirtual 81) 3 24 := ⟨by decide +kernel, rfl⟩
theorem cM_readHead_24 : Dc yM_readHead 24 (.istore_n 2) 1 25 := ⟨by decide +kernel, rfl⟩
theorem cM_readHead_25 : Dc yM_readHead 25 (.iload_n 2) 1 26 := ⟨by decide +kernel, rfl⟩
theorem cM_readHead_26 : Dc yM_readHead 26 (.bipush (-9)) 2 28 := ⟨by decide +kernel, rfl⟩
theorem cM_readHead_28 : Db yM_readHead 28 (.if_icmp .ne 8) 3 31 (8) 36 := ⟨by decide +kernel, rfl, by decide⟩
theorem cM_readHead_31 : Dc yM_readHead 31 (.bipush (-9)) 2 33 := ⟨by decide +kernel, rfl⟩
theorem cM_readHead_33 : Db yM_readHead 33 (.goto 9) 3 36 (9) 42 := ⟨by decide +kernel, rfl, by decide⟩
theorem cM_readHead_36 : Dc yM_readHead 36 (.aload_n 0) 1 37 := ⟨by decide +kernel, rfl⟩
theorem cM_readHead_37 : Dc yM_readHead 37 (.iconst 0) 1 38 := ⟨by decide +kernel, rfl⟩
theorem cM_readHead_38 : Dc yM_readHead 38 (.iconst 5) 1 39 := ⟨by decide +kernel, rfl⟩
theorem cM_readHead_39 : Dc yM_readHead 39 (.invokevirtual 81) 3 42 := ⟨by decide +kernel, rfl⟩
theorem cM_readHead_42 : Dc yM_readHead 42 (.istore_n 3) 1 43 := ⟨by decide +kernel, rfl⟩
theorem cM_readHead_43 : Dc yM_readHead 43 (.iload_n 3) 1 44 := ⟨by decide +kernel, rfl⟩
theorem cM_readHead_44 : Dc yM_readHead 44 (.bipush (-9)) 2 46 := ⟨by decide +kernel, rfl⟩
theorem cM_readHead_46 : Db yM_readHead 46 (.if_icmp .ne 8) 3 49 (8) 54 := ⟨by decide +kernel, rfl, by decide⟩
theorem cM_readHead_49 : Dc yM_readHead 49 (.bipush (-9)) 2 51 := ⟨by decide +kernel, rfl⟩
theorem cM_readHead_51 : Db yM_readHead 51 (.goto 19) 3 54 (19) 70 := ⟨by decide +kernel, rfl, by decide⟩
theorem cM_readHead_54 : Dc yM_readHead 54 (.aload_n 0) 1 55 := ⟨by decide +kernel, rfl⟩
theorem cM_readHead_55 : Dc yM_readHead 55 (.iconst 0) 1 56 := ⟨by decide +kernel, rfl⟩
theorem cM_readHead_56 : Dc yM_readHead 56 (.iload_n 3) 1 57 := ⟨by decide +kernel, rfl⟩
theorem cM_readHead_57 : Dc yM_readHead 57 (.iconst 5) 1 58 := ⟨by decide +kernel, rfl⟩
theorem cM_readHead_58 : Db yM_readHead 58 (.if_icmp .ne 7) 3 61 (7) 65 := ⟨by decide +kernel, rfl, by decide⟩
theorem cM_readHead_61 : Dc yM_readHead 61 (.iconst 0) 1 62 := ⟨by decide +kernel, rfl⟩
theorem cM_readHead_62 : Db yM_readHead 62 (.goto 5) 3 65 (5) 67 := ⟨by decide +kernel, rfl, by decide⟩
theorem cM_readHead_65 : Dc yM_readHead 65 (.bipush 9) 2 67 := ⟨by decide +kernel, rfl⟩
theorem cM_readHead_67 : Dc yM_readHead 67 (.invokevirtual 81) 3 70 := ⟨by decide +kernel, rfl⟩
theorem cM_readHead_70 : Dc yM_readHead 70 (.istore 4) 2 72 := ⟨by decide +kernel, rfl⟩
theorem cM_readHead_72 : Dc yM_readHead 72 (.iload 4) 2 74 := ⟨by decide +kernel, rfl⟩
theorem cM_readHead_74 : Dc yM_readHead 74 (.bipush (-9)) 2 76 := ⟨by decide +kernel, rfl⟩
theorem cM_readHead_76 : Db yM_readHead 76 (.if_icmp .ne 8) 3 79 (8) 84 := ⟨by decide +kernel, rfl, by decide⟩
theorem cM_readHead_79 : Dc yM_readHead 79 (.bipush (-9)) 2 81 := ⟨by decide +kernel, rfl⟩
theorem cM_readHead_81 : Db yM_readHead 81 (.goto 10) 3 84 (10) 91 := ⟨by decide +kernel, rfl, by decide⟩
theorem cM_readHead_84 : Dc yM_readHead 84 (.aload_n 0) 1 85 := ⟨by decide +kernel, rfl⟩
theorem cM_readHead_85 : Dc yM_readHead 85 (.iconst 1) 1 86 := ⟨by decide +kernel, rfl⟩
theorem cM_readHead_86 : Dc yM_readHead 86 (.bipush 9) 2 88 := ⟨by decide +kernel, rfl⟩
theorem cM_readHead_88 : Dc yM_readHead 88 (.invokevirtual 81) 3 91 := ⟨by decide +kernel, rfl⟩
theorem cM_readHead_91 : Dc yM_readHead 91 (.istore 5) 2 93 := ⟨by decide +kernel, rfl⟩
theorem cM_readHead_93 : Dc yM_readHead 93 (.aload_n 0) 1 94 := ⟨by decide +kernel, rfl⟩
theorem cM_readHead_94 : Dc yM_readHead 94 (.iload_n 1) 1 95 := ⟨by decide +kernel, rfl⟩
theorem cM_readHead_95 : Dc yM_readHead 95 (.iconst 2) 1 96 := ⟨by decide +kernel, rfl⟩
theorem cM_readHead_96 : Dc yM_readHead 96 (.isub) 1 97 := ⟨by decide +kernel, rfl⟩
theorem cM_readHead_97 : Dc yM_readHead 97 (.putfield 85) 3 100 := ⟨by decide +kernel, rfl⟩
theorem cM_readHead_100 : Dc yM_readHead 100 (.aload_n 0) 1 101 := ⟨by decide +kernel, rfl⟩
theorem cM_readHead_101 : Dc yM_readHead 101 (.iload_n 2) 1 102 := ⟨by decide +kernel, rfl⟩
theorem cM_readHead_102 : Dc yM_readHead 102 (.iconst 2) 1 103 := ⟨by decide +kernel, rfl⟩
theorem cM_readHead_103 : Dc yM_readHead 103 (.isub) 1 104 := ⟨by decide +kernel, rfl⟩
theorem cM_readHead_104 : Dc yM_readHead 104 (.putfield 88) 3 107 := ⟨by decide +kernel, rfl⟩
theorem cM_readHead_107 : Dc yM_readHead 107 (.aload_n 0) 1 108 := ⟨by decide +kernel, rfl⟩
theorem cM_readHead_108 : Dc yM_readHead 108 (.bipush 10) 2 110 := ⟨by decide +kernel, rfl⟩
theorem cM_readHead_110 : Dc yM_readHead 110 (.iload_n 3) 1 111 := ⟨by decide +kernel, rfl⟩
theorem cM_readHead_111 : Dc yM_readHead 111 (.imul) 1 112 := ⟨by decide +kernel, rfl⟩
theorem cM_readHead_112 : Dc yM_readHead 112 (.iload 4) 2 114 := ⟨by decide +kernel, rfl⟩
theorem cM_readHead_114 : Dc yM_readHead 114 (.iadd) 1 115 := ⟨by decide +kernel, rfl⟩
theorem cM_readHead_115 : Dc yM_readHead 115 (.putfield 91) 3 118 := ⟨by decide +kernel, rfl⟩
theorem cM_readHead_118 : Dc yM_readHead 118 (.aload_n 0) 1 119 := ⟨by decide +kernel, rfl⟩
theorem cM_readHead_119 : Dc yM_readHead 119 (.iload 5) 2 121 := ⟨by decide +kernel, rfl⟩
theorem cM_readHead_121 : Dc yM_readHead 121 (.putfield 94) 3 124 := ⟨by decide +kernel, rfl⟩
theorem cM_readHead_124 : Dc yM_readHead 124 (.iload 5) 2 126 := ⟨by decide +kernel, rfl⟩
theorem cM_readHead_126 : Dc yM_readHead 126 (.bipush (-9)) 2 128 := ⟨by decide +kernel, rfl⟩
theorem cM_readHead_128 : Db yM_readHead 128 (.if_icmp .eq 7) 3 131 (7) 135 := ⟨by decide +kernel, rfl, by decide⟩
theorem cM_readHead_131 : Dc yM_readHead 131 (.iconst 1) 1 132 := ⟨by decide +kernel, rfl⟩
theorem cM_readHead_132 : Db yM_readHead 132 (.goto 4) 3 135 (4) 136 := ⟨by decide +kernel, rfl, by decide⟩
theorem cM_readHead_135 : Dc yM_readHead 135 (.iconst 0) 1 136 := ⟨by decide +kernel, rfl⟩
theorem cM_readHead_136 : Dc yM_readHead 136 (.ireturn) 1 137 := ⟨by decide +kernel, rfl⟩
theorem cM_figure_0 : Dc yM_figure 0 (.aload_n 0) 1 1 := ⟨by decide +kernel, rfl⟩
theorem cM_figure_1 : Dc yM_figure 1 (.getfield 78) 3 4 := ⟨by decide +kernel, rfl⟩
theorem cM_figure_4 : Dc yM_figure 4 (.aload_n 0) 1 5 := ⟨by decide +kernel, rfl⟩
theorem cM_figure_5 : Dc yM_figure 5 (.getfield 75) 3 8 := ⟨by decide +kernel, rfl⟩
theorem cM_figure_8 : Db yM_figure 8 (.if_icmp .eq 26) 3 11 (26) 34 := ⟨by decide +kernel, rfl, by decide⟩
theorem cM_figure_11 : Dc yM_figure 11 (.aload_n 0) 1 12 := ⟨by decide +kernel, rfl⟩
theorem cM_figure_12 : Dc yM_figure 12 (.getfield 7) 3 15 := ⟨by decide +kernel, rfl⟩
theorem cM_figure_15 : Dc yM_figure 15 (.aload_n 0) 1 16 := ⟨by decide +kernel, rfl⟩
theorem cM_figure_16 : Dc yM_figure 16 (.getfield 78) 3 19 := ⟨by decide +kernel, rfl⟩
theorem cM_figure_19 : Dc yM_figure 19 (.iaload) 1 20 := ⟨by decide +kernel, rfl⟩
theorem cM_figure_20 : Dc yM_figure 20 (.bipush 48) 2 22 := ⟨by decide +kernel, rfl⟩
theorem cM_figure_22 : Dc yM_figure 22 (.isub) 1 23 := ⟨by decide +kernel, rfl⟩
theorem cM_figure_23 : Dc yM_figure 23 (.i2l) 1 24 := ⟨by decide +kernel, rfl⟩
theorem cM_figure_24 : Dc yM_figure 24 (.iload_n 1) 1 25 := ⟨by decide +kernel, rfl⟩
theorem cM_figure_25 : Dc yM_figure 25 (.i2l) 1 26 := ⟨by decide +kernel, rfl⟩
theorem cM_figure_26 : Dc yM_figure 26 (.iload_n 2) 1 27 := ⟨by decide +kernel, rfl⟩
theorem cM_figure_27 : Dc yM_figure 27 (.i2l) 1 28 := ⟨by decide +kernel, rfl⟩
theorem cM_figure_28 : Dc yM_figure 28 (.invokestatic 69) 3 31 := ⟨by decide +kernel, rfl⟩
theorem cM_figure_31 : Db yM_figure 31 (.ifCond .ne 6) 3 34 (6) 37 := ⟨by decide +kernel, rfl, by decide⟩
theorem cM_figure_34 : Dc yM_figure 34 (.bipush (-9)) 2 36 := ⟨by decide +kernel, rfl⟩
theorem cM_figure_36 : Dc yM_figure 36 (.ireturn) 1 37 := ⟨by decide +kernel, rfl⟩
theorem cM_figure_37 : Dc yM_figure 37 (.aload_n 0) 1 38 := ⟨by decide +kernel, rfl⟩
theorem cM_figure_38 : Dc yM_figure 38 (.dup) 1 39 := ⟨by decide +kernel, rfl⟩
theorem cM_figure_39 : Dc yM_figure 39 (.getfield 78) 3 42 := ⟨by decide +kernel, rfl⟩
theorem cM_figure_42 : Dc yM_figure 42 (.iconst 1) 1 43 := ⟨by decide +kernel, rfl⟩
theorem cM_figure_43 : Dc yM_figure 43 (.iadd) 1 44 := ⟨by decide +kernel, rfl⟩
theorem cM_figure_44 : Dc yM_figure 44 (.putfield 78) 3 47 := ⟨by decide +kernel, rfl⟩
theorem cM_figure_47 : Dc yM_figure 47 (.aload_n 0) 1 48 := ⟨by decide +kernel, rfl⟩
theorem cM_figure_48 : Dc yM_figure 48 (.getfield 7) 3 51 := ⟨by decide +kernel, rfl⟩
theorem cM_figure_51 : Dc yM_figure 51 (.aload_n 0) 1 52 := ⟨by decide +kernel, rfl⟩
theorem cM_figure_52 : Dc yM_figure 52 (.getfield 78) 3 55 := ⟨by decide +kernel, rfl⟩
theorem cM_figure_55 : Dc yM_figure 55 (.iconst 1) 1 56 := ⟨by decide +kernel, rfl⟩
theorem cM_figure_56 : Dc yM_figure 56 (.isub) 1 57 := ⟨by decide +kernel, rfl⟩
theorem cM_figure_57 : Dc yM_figure 57 (.iaload) 1 58 := ⟨by decide +kernel, rfl⟩
theorem cM_figure_58 : Dc yM_figure 58 (.bipush 48) 2 60 := ⟨by decide +kernel, rfl⟩
theorem cM_figure_60 : Dc yM_figure 60 (.isub) 1 61 := ⟨by decide +kernel, rfl⟩
theorem cM_figure_61 : Dc yM_figure 61 (.ireturn) 1 62 := ⟨by decide +kernel, rfl⟩
theorem cM_fly_0 : Dc yM_fly 0 (.aload_n 0) 1 1 := ⟨by decide +kernel, rfl⟩
theorem cM_fly_1 : Dc yM_fly 1 (.iconst 0) 1 2 := ⟨by decide +kernel, rfl⟩
theorem cM_fly_2 : Dc yM_fly 2 (.putfield 66) 3 5 := ⟨by decide +kernel, rfl⟩
theorem cM_fly_5 : Dc yM_fly 5 (.aload_n 0) 1 6 := ⟨by decide +kernel, rfl⟩
theorem cM_fly_6 : Dc yM_fly 6 (.invokevirtual 104) 3 9 := ⟨by decide +kernel, rfl⟩
theorem cM_fly_9 : Dc yM_fly 9 (.bipush (-9)) 2 11 := ⟨by decide +kernel, rfl⟩
theorem cM_fly_11 : Db yM_fly 11 (.if_icmp .eq 6) 3 14 (6) 17 := ⟨by decide +kernel, rfl, by decide⟩
theorem cM_fly_14 : Dc yM_fly 14 (.bipush (-3)) 2 16 := ⟨by decide +kernel, rfl⟩
theorem cM_fly_16 : Dc yM_fly 16 (.ireturn) 1 17 := ⟨by decide +kernel, rfl⟩
theorem cM_fly_17 : Dc yM_fly 17 (.aload_n 0) 1 18 := ⟨by decide +kernel, rfl⟩
theorem cM_fly_18 : Dc yM_fly 18 (.getfield 29) 3 21 := ⟨by decide +kernel, rfl⟩
theorem cM_fly_21 : Dc yM_fly 21 (.iconst 0) 1 22 := ⟨by decide +kernel, rfl⟩
theorem cM_fly_22 : Dc yM_fly 22 (.aload_n 0) 1 23 := ⟨by decide +kernel, rfl⟩
theorem cM_fly_23 : Dc yM_fly 23 (.getfield 97) 3 26 := ⟨by decide +kernel, rfl⟩
theorem cM_fly_26 : Dc yM_fly 26 (.iastore) 1 27 := ⟨by decide +kernel, rfl⟩
theorem cM_fly_27 : Dc yM_fly 27 (.aload_n 0) 1 28 := ⟨by decide +kernel, rfl⟩
theorem cM_fly_28 : Dc yM_fly 28 (.getfield 29) 3 31 := ⟨by decide +kernel, rfl⟩
theorem cM_fly_31 : Dc yM_fly 31 (.iconst 1) 1 32 := ⟨by decide +kernel, rfl⟩
theorem cM_fly_32 : Dc yM_fly 32 (.aload_n 0) 1 33 := ⟨by decide +kernel, rfl⟩
theorem cM_fly_33 : Dc yM_fly 33 (.getfield 85) 3 36 := ⟨by decide +kernel, rfl⟩
theorem cM_fly_36 : Dc yM_fly 36 (.iastore) 1 37 := ⟨by decide +kernel, rfl⟩
theorem cM_fly_37 : Dc yM_fly 37 (.aload_n 0) 1 38 := ⟨by decide +kernel, rfl⟩
theorem cM_fly_38 : Dc yM_fly 38 (.getfield 29) 3 41 := ⟨by decide +kernel, rfl⟩
theorem cM_fly_41 : Dc yM_fly 41 (.iconst 2) 1 42 := ⟨by decide +kernel, rfl⟩
theorem cM_fly_42 : Dc yM_fly 42 (.aload_n 0) 1 43 := ⟨by decide +kernel, rfl⟩
theorem cM_fly_43 : Dc yM_fly 43 (.getfield 88) 3 46 := ⟨by decide +kernel, rfl⟩
theorem cM_fly_46 : Dc yM_fly 46 (.iastore) 1 47 := ⟨by decide +kernel, rfl⟩
theorem cM_fly_47 : Dc yM_fly 47 (.aload_n 0) 1 48 := ⟨by decide +kernel, rfl⟩
theorem cM_fly_48 : Dc yM_fly 48 (.aload_n 0) 1 49 := ⟨by decide +kernel, rfl⟩
theorem cM_fly_49 : Dc yM_fly 49 (.getfield 91) 3 52 := ⟨by decide +kernel, rfl⟩
theorem cM_fly_52 : Dc yM_fly 52 (.putfield 108) 3 55 := ⟨by decide +kernel, rfl⟩
theorem cM_fly_55 : Dc yM_fly 55 (.aload_n 0) 1 56 := ⟨by decide +kernel, rfl⟩
theorem cM_fly_56 : Dc yM_fly 56 (.aload_n 0) 1 57 := ⟨by decide +kernel, rfl⟩
theorem cM_fly_57 : Dc yM_fly 57 (.getfield 94) 3 60 := ⟨by decide +kernel, rfl⟩
theorem cM_fly_60 : Dc yM_fly 60 (.putfield 13) 3 63 := ⟨by decide +kernel, rfl⟩
theorem cM_fly_63 : Dc yM_fly 63 (.iconst 0) 1 64 := ⟨by decide +kernel, rfl⟩
theorem cM_fly_64 : Dc yM_fly 64 (.istore_n 1) 1 65 := ⟨by decide +kernel, rfl⟩
theorem cM_fly_65 : Dc yM_fly 65 (.iload_n 1) 1 66 := ⟨by decide +kernel, rfl⟩
theorem cM_fly_66 : Dc yM_fly 66 (.iconst 5) 1 67 := ⟨by decide +kernel, rfl⟩
theorem cM_fly_67 : Db yM_fly 67 (.if_icmp .ge 86) 3 70 (86) 153 := ⟨by decide +kernel, rfl, by decide⟩
theorem cM_fly_70 : Dc yM_fly 70 (.aload_n 0) 1 71 := ⟨by decide +kernel, rfl⟩
theorem cM_fly_71 : Dc yM_fly 71 (.getfield 29) 3 74 := ⟨by decide +kernel, rfl⟩
theorem cM_fly_74 : Dc yM_fly 74 (.iconst 3) 1 75 := ⟨by decide +kernel, rfl⟩
theorem cM_fly_75 : Dc yM_fly 75 (.iload_n 1) 1 76 := ⟨by decide +kernel, rfl⟩
theorem cM_fly_76 : Dc yM_fly 76 (.iadd) 1 77 := ⟨by decide +kernel, rfl⟩
theorem cM_fly_77 : Dc yM_fly 77 (.iload_n 1) 1 78 := ⟨by decide +kernel, rfl⟩
theorem cM_fly_78 : Dc yM_fly 78 (.aload_n 0) 1 79 := ⟨by decide +kernel, rfl⟩
theorem cM_fly_79 : Dc yM_fly 79 (.getfield 97) 3 82 := ⟨by decide +kernel, rfl⟩
theorem cM_fly_82 : Db yM_fly 82 (.if_icmp .ge 12) 3 85 (12) 94 := ⟨by decide +kernel, rfl, by decide⟩
theorem cM_fly_85 : Dc yM_fly 85 (.aload_n 0) 1 86 := ⟨by decide +kernel, rfl⟩
theorem cM_fly_86 : Dc yM_fly 86 (.getfield 20) 3 89 := ⟨by decide +kernel, rfl⟩
theorem cM_fly_89 : Dc yM_fly 89 (.iload_n 1) 1 90 := ⟨by decide +kernel, rfl⟩
theorem cM_fly_90 : Dc yM_fly 90 (.iaload) 1 91 := ⟨by decide +kernel, rfl⟩
theorem cM_fly_91 : Db yM_fly 91 (.goto 4) 3 94 (4) 95 := ⟨by decide +kernel, rfl, by decide⟩
theorem cM_fly_94 : Dc yM_fly 94 (.iconst 0) 1 95 := ⟨by decide +kernel, rfl⟩
theorem cM_fly_95 : Dc yM_fly 95 (.iastore) 1 96 := ⟨by decide +kernel, rfl⟩
theorem cM_fly_96 : Dc yM_fly 96 (.aload_n 0) 1 97 := ⟨by decide +kernel, rfl⟩
theorem cM_fly_97 : Dc yM_fly 97 (.getfield 29) 3 100 := ⟨by decide +kernel, rfl⟩
theorem cM_fly_100 : Dc yM_fly 100 (.bipush 8) 2 102 := ⟨by decide +kernel, rfl⟩
theorem cM_fly_102 : Dc yM_fly 102 (.iload_n 1) 1 103 := ⟨by decide +kernel, rfl⟩
theorem cM_fly_103 : Dc yM_fly 103 (.iadd) 1 104 := ⟨by decide +kernel, rfl⟩
theorem cM_fly_104 : Dc yM_fly 104 (.iload_n 1) 1 105 := ⟨by decide +kernel, rfl⟩
theorem cM_fly_105 : Dc yM_fly 105 (.aload_n 0) 1 106 := ⟨by decide +kernel, rfl⟩
theorem cM_fly_106 : Dc yM_fly 106 (.getfield 97) 3 109 := ⟨by decide +kernel, rfl⟩
theorem cM_fly_109 : Db yM_fly 109 (.if_icmp .ge 12) 3 112 (12) 121 := ⟨by decide +kernel, rfl, by decide⟩
theorem cM_fly_112 : Dc yM_fly 112 (.aload_n 0) 1 113 := ⟨by decide +kernel, rfl⟩
theorem cM_fly_113 : Dc yM_fly 113 (.getfield 23) 3 116 := ⟨by decide +kernel, rfl⟩
theorem cM_fly_116 : Dc yM_fly 116 (.iload_n 1) 1 117 := ⟨by decide +kernel, rfl⟩
theorem cM_fly_117 : Dc yM_fly 117 (.iaload) 1 118 := ⟨by decide +kernel, rfl⟩
theorem cM_fly_118 : Db yM_fly 118 (.goto 4) 3 121 (4) 122 := ⟨by decide +kernel, rfl, by decide⟩
theorem cM_fly_121 : Dc yM_fly 121 (.iconst 0) 1 122 := ⟨by decide +kernel, rfl⟩
theorem cM_fly_122 : Dc yM_fly 122 (.iastore) 1 123 := ⟨by decide +kernel, rfl⟩
theorem cM_fly_123 : Dc yM_fly 123 (.aload_n 0) 1 124 := ⟨by decide +kernel, rfl⟩
theorem cM_fly_124 : Dc yM_fly 124 (.getfield 17) 3 127 := ⟨by decide +kernel, rfl⟩
theorem cM_fly_127 : Dc yM_fly 127 (.iload_n 1) 1 128 := ⟨by decide +kernel, rfl⟩
theorem cM_fly_128 : Dc yM_fly 128 (.iload_n 1) 1 129 := ⟨by decide +kernel, rfl⟩
theorem cM_fly_129 : Dc yM_fly 129 (.aload_n 0) 1 130 := ⟨by decide +kernel, rfl⟩
theorem cM_fly_130 : Dc yM_fly 130 (.getfield 97) 3 133 := ⟨by decide +kernel, rfl⟩
theorem cM_fly_133 : Db yM_fly 133 (.if_icmp .ge 12) 3 136 (12) 145 := ⟨by decide +kernel, rfl, by decide⟩
theorem cM_fly_136 : Dc yM_fly 136 (.aload_n 0) 1 137 := ⟨by decide +kernel, rfl⟩
theorem cM_fly_137 : Dc yM_fly 137 (.getfield 26) 3 140 := ⟨by decide +kernel, rfl⟩
theorem cM_fly_140 : Dc yM_fly 140 (.iload_n 1) 1 141 := ⟨by decide +kernel, rfl⟩
theorem cM_fly_141 : Dc yM_fly 141 (.iaload) 1 142 := ⟨by decide +kernel, rfl⟩
theorem cM_fly_142 : Db yM_fly 142 (.goto 4) 3 145 (4) 146 := ⟨by decide +kernel, rfl, by decide⟩
theorem cM_fly_145 : Dc yM_fly 145 (.iconst 0) 1 146 := ⟨by decide +kernel, rfl⟩
theorem cM_fly_146 : Dc yM_fly 146 (.iastore) 1 147 := ⟨by decide +kernel, rfl⟩
theorem cM_fly_147 : Dc yM_fly 147 (.iinc 1 1) 3 150 := ⟨by decide +kernel, rfl⟩
theorem cM_fly_150 : Db yM_fly 150 (.goto (-85)) 3 153 (-85) 65 := ⟨by decide +kernel, rfl, by decide⟩
theorem cM_fly_153 : Dc yM_fly 153 (.aload_n 0) 1 154 := ⟨by decide +kernel, rfl⟩
theorem cM_fly_154 : Dc yM_fly 154 (.iconst 0) 1 155 := ⟨by decide +kernel, rfl⟩
theorem cM_fly_155 : Dc yM_fly 155 (.putfield 111) 3 158 := ⟨by decide +kernel, rfl⟩
theorem cM_fly_158 : Dc yM_fly 158 (.aload_n 0) 1 159 := ⟨by decide +kernel, rfl⟩
theorem cM_fly_159 : Dc yM_fly 159 (.getfield 41) 3 162 := ⟨by decide +kernel, rfl⟩
theorem cM_fly_162 : Dc yM_fly 162 (.iconst 0) 1 163 := ⟨by decide +kernel, rfl⟩
theorem cM_fly_163 : Dc yM_fly 163 (.iconst 0) 1 164 := ⟨by decide +kernel, rfl⟩
theorem cM_fly_164 : Dc yM_fly 164 (.bastore) 1 165 := ⟨by decide +kernel, rfl⟩
theorem cM_fly_165 : Dc yM_fly 165 (.aload_n 0) 1 166 := ⟨by decide +kernel, rfl⟩
theorem cM_fly_166 : Dc yM_fly 166 (.getfield 41) 3 169 := ⟨by decide +kernel, rfl⟩
theorem cM_fly_169 : Dc yM_fly 169 (.iconst 1) 1 170 := ⟨by decide +kernel, rfl⟩
theorem cM_fly_170 : Dc yM_fly 170 (.iconst 0) 1 171 := ⟨by decide +kernel, rfl⟩
theorem cM_fly_171 : Dc yM_fly 171 (.bastore) 1 172 := ⟨by decide +kernel, rfl⟩
theorem cM_fly_172 : Dc yM_fly 172 (.aload_n 0) 1 173 := ⟨by decide +kernel, rfl⟩
theorem cM_fly_173 : Dc yM_fly 173 (.getfield 97) 3 176 := ⟨by decide +kernel, rfl⟩
theorem cM_fly_176 : Dc yM_fly 176 (.ireturn) 1 177 := ⟨by decide +kernel, rfl⟩
theorem cM_about_0 : Dc yM_about 0 (.aload_n 0) 1 1 := ⟨by decide +kernel, rfl⟩
theorem cM_about_1 : Dc yM_about 1 (.iconst 0) 1 2 := ⟨by decide +kernel, rfl⟩
theorem cM_about_2 : Dc yM_about 2 (.putfield 66) 3 5 := ⟨by decide +kernel, rfl⟩
theorem cM_about_5 : Dc yM_about 5 (.aload_n 0) 1 6 := ⟨by decide +kernel, rfl⟩
theorem cM_about_6 : Dc yM_about 6 (.invokevirtual 124) 3 9 := ⟨by decide +kernel, rfl⟩
theorem cM_about_9 : Dc yM_about 9 (.iload_n 1) 1 10 := ⟨by decide +kernel, rfl⟩
theorem cM_about_10 : decode (yB yM_about) 10 = .ok (.tableswitch 106 0 9 #[54, 61, 61, 70, 75, 80, 86, 91, 96, 101], 54) := by decide +kernel
theorem cM_about_64 : Dc yM_about 64 (.aload_n 0) 1 65 := ⟨by decide +kernel, rfl⟩
theorem cM_about_65 : Dc yM_about 65 (.getfield 29) 3 68 := ⟨by decide +kernel, rfl⟩
theorem cM_about_68 : Dc yM_about 68 (.iconst 0) 1 69 := ⟨by decide +kernel, rfl⟩
theorem cM_about_69 : Dc yM_about 69 (.iaload) 1 70 := ⟨by decide +kernel, rfl⟩
theorem cM_about_70 : Dc yM_about 70 (.ireturn) 1 71 := ⟨by decide +kernel, rfl⟩
theorem cM_about_71 : Dc yM_about 71 (.aload_n 0) 1 72 := ⟨by decide +kernel, rfl⟩
theorem cM_about_72 : Dc yM_about 72 (.getfield 29) 3 75 := ⟨by decide +kernel, rfl⟩
theorem cM_about_75 : Dc yM_about 75 (.iload_n 1) 1 76 := ⟨by decide +kernel, rfl⟩
theorem cM_about_76 : Dc yM_about 76 (.iaload) 1 77 := ⟨by decide +kernel, rfl⟩
theorem cM_about_77 : Dc yM_about 77 (.iconst 2) 1 78 := ⟨by decide +kernel, rfl⟩
theorem cM_about_78 : Dc yM_about 78 (.iadd) 1 79 := ⟨by decide +kernel, rfl⟩
theorem cM_about_79 : Dc yM_about 79 (.ireturn) 1 80 := ⟨by decide +kernel, rfl⟩
theorem cM_about_80 : Dc yM_about 80 (.aload_n 0) 1 81 := ⟨by decide +kernel, rfl⟩
theorem cM_about_81 : Dc yM_about 81 (.getfield 108) 3 84 := ⟨by decide +kernel, rfl⟩
theorem cM_about_84 : Dc yM_about 84 (.ireturn) 1 85 := ⟨by decide +kernel, rfl⟩
theorem cM_about_85 : Dc yM_about 85 (.aload_n 0) 1 86 := ⟨by decide +kernel, rfl⟩
theorem cM_about_86 : Dc yM_about 86 (.getfield 13) 3 89 := ⟨by decide +kernel, rfl⟩
theorem cM_about_89 : Dc yM_about 89 (.ireturn) 1 90 := ⟨by decide +kernel, rfl⟩
theorem cM_about_90 : Dc yM_about 90 (.aload_n 0) 1 91 := ⟨by decide +kernel, rfl⟩
theorem cM_about_91 : Dc yM_about 91 (.iconst 0) 1 92 := ⟨by decide +kernel, rfl⟩
theorem cM_about_92 : Dc yM_about 92 (.invokevirtual 127) 3 95 := ⟨by decide +kernel, rfl⟩
theorem cM_about_95 : Dc yM_about 95 (.ireturn) 1 96 := ⟨by decide +kernel, rfl⟩
theorem cM_about_96 : Dc yM_about 96 (.aload_n 0) 1 97 := ⟨by decide +kernel, rfl⟩
theorem cM_about_97 : Dc yM_about 97 (.getfield 114) 3 100 := ⟨by decide +kernel, rfl⟩
theorem cM_about_100 : Dc yM_about 100 (.ireturn) 1 101 := ⟨by decide +kernel, rfl⟩
theorem cM_about_101 : Dc yM_about 101 (.aload_n 0) 1 102 := ⟨by decide +kernel, rfl⟩
theorem cM_about_102 : Dc yM_about 102 (.getfield 111) 3 105 := ⟨by decide +kernel, rfl⟩
theorem cM_about_105 : Dc yM_about 105 (.ireturn) 1 106 := ⟨by decide +kernel, rfl⟩
theorem cM_about_106 : Dc yM_about 106 (.aload_n 0) 1 107 := ⟨by decide +kernel, rfl⟩
theorem cM_about_107 : Dc yM_about 107 (.getfield 131) 3 110 := ⟨by decide +kernel, rfl⟩
theorem cM_about_110 : Dc yM_about 110 (.ireturn) 1 111 := ⟨by decide +kernel, rfl⟩
theorem cM_about_111 : Dc yM_about 111 (.aload_n 0) 1 112 := ⟨by decide +kernel, rfl⟩
theorem cM_about_112 : Dc yM_about 112 (.getfield 75) 3 115 := ⟨by decide +kernel, rfl⟩
theorem cM_about_115 : Dc yM_about 115 (.ireturn) 1 116 := ⟨by decide +kernel, rfl⟩
theorem cM_about_116 : Dc yM_about 116 (.bipush (-2)) 2 118 := ⟨by decide +kernel, rfl⟩
theorem cM_about_118 : Dc yM_about 118 (.ireturn) 1 119 := ⟨by decide +kernel, rfl⟩
theorem cM_layPage_0 : Dc yM_layPage 0 (.aload_n 0) 1 1 := ⟨by decide +kernel, rfl⟩
theorem cM_layPage_1 : Dc yM_layPage 1 (.aload_n 0) 1 2 := ⟨by decide +kernel, rfl⟩
theorem cM_layPage_2 : Dc yM_layPage 2 (.getfield 29) 3 5 := ⟨by decide +kernel, rfl⟩
theorem cM_layPage_5 : Dc yM_layPage 5 (.aload_n 0) 1 6 := ⟨by decide +kernel, rfl⟩
theorem cM_layPage_6 : Dc yM_layPage 6 (.getfield 17) 3 9 := ⟨by decide +kernel, rfl⟩
theorem cM_layPage_9 : Dc yM_layPage 9 (.invokevirtual 120) 3 12 := ⟨by decide +kernel, rfl⟩
theorem cM_layPage_12 : Dc yM_layPage 12 (.return_) 1 13 := ⟨by decide +kernel, rfl⟩
theorem cM_lay_0 : Dc yM_lay 0 (.aload_n 0) 1 1 := ⟨by decide +kernel, rfl⟩
theorem cM_lay_1 : Dc yM_lay 1 (.iconst 0) 1 2 := ⟨by decide +kernel, rfl⟩
theorem cM_lay_2 : Dc yM_lay 2 (.putfield 114) 3 5 := ⟨by decide +kernel, rfl⟩
theorem cM_lay_5 : Dc yM_lay 5 (.iconst 0) 1 6 := ⟨by decide +kernel, rfl⟩
theorem cM_lay_6 : Dc yM_lay 6 (.istore_n 3) 1 7 := ⟨by decide +kernel, rfl⟩
theorem cM_lay_7 : Dc yM_lay 7 (.iconst 0) 1 8 := ⟨by decide +kernel, rfl⟩
theorem cM_lay_8 : Dc yM_lay 8 (.istore 4) 2 10 := ⟨by decide +kernel, rfl⟩
theorem cM_lay_10 : Dc yM_lay 10 (.iconst 0) 1 11 := ⟨by decide +kernel, rfl⟩
theorem cM_lay_11 : Dc yM_lay 11 (.istore 5) 2 13 := ⟨by decide +kernel, rfl⟩
theorem cM_lay_13 : Dc yM_lay 13 (.iconst 0) 1 14 := ⟨by decide +kernel, rfl⟩
theorem cM_lay_14 : Dc yM_lay 14 (.istore 6) 2 16 := ⟨by decide +kernel, rfl⟩
theorem cM_lay_16 : Dc yM_lay 16 (.iload 6) 2 18 := ⟨by decide +kernel, rfl⟩
theorem cM_lay_18 : Dc yM_lay 18 (.aload_n 1) 1 19 := ⟨by decide +kernel, rfl⟩
theorem cM_lay_19 : Dc yM_lay 19 (.iconst 0) 1 20 := ⟨by decide +kernel, rfl⟩
theorem cM_lay_20 : Dc yM_lay 20 (.iaload) 1 21 := ⟨by decide +kernel, rfl⟩
theorem cM_lay_21 : Db yM_lay 21 (.if_icmp .ge 142) 3 24 (142) 163 := ⟨by decide +kernel, rfl, by decide⟩
theorem cM_lay_24 : Dc yM_lay 24 (.aload_n 1) 1 25 := ⟨by decide +kernel, rfl⟩
theorem cM_lay_25 : Dc yM_lay 25 (.iconst 3) 1 26 := ⟨by decide +kernel, rfl⟩
theorem cM_lay_26 : Dc yM_lay 26 (.iload 6) 2 28 := ⟨by decide +kernel, rfl⟩
theorem cM_lay_28 : Dc yM_lay 28 (.iadd) 1 29 := ⟨by decide +kernel, rfl⟩
theorem cM_lay_29 : Dc yM_lay 29 (.iaload) 1 30 := ⟨by decide +kernel, rfl⟩
theorem cM_lay_30 : Dc yM_lay 30 (.aload_n 2) 1 31 := ⟨by decide +kernel, rfl⟩
theorem cM_lay_31 : Dc yM_lay 31 (.iload 6) 2 33 := ⟨by decide +kernel, rfl⟩
theorem cM_lay_33 : Dc yM_lay 33 (.iaload) 1 34 := ⟨by decide +kernel, rfl⟩
theorem cM_lay_34 : Dc yM_lay 34 (.isub) 1 35 := ⟨by decide +kernel, rfl⟩
theorem cM_lay_35 : Dc yM_lay 35 (.istore 7) 2 37 := ⟨by decide +kernel, rfl⟩
theorem cM_lay_37 : Dc yM_lay 37 (.iload_n 3) 1 38 := ⟨by decide +kernel, rfl⟩
theorem cM_lay_38 : Dc yM_lay 38 (.iload 7) 2 40 := ⟨by decide +kernel, rfl⟩
theorem cM_lay_40 : Db yM_lay 40 (.ifCond .ge 7) 3 43 (7) 47 := ⟨by decide +kernel, rfl, by decide⟩
theorem cM_lay_43 : Dc yM_lay 43 (.iconst 0) 1 44 := ⟨by decide +kernel, rfl⟩
theorem cM_lay_44 : Db yM_lay 44 (.goto 5) 3 47 (5) 49 := ⟨by decide +kernel, rfl, by decide⟩
theorem cM_lay_47 : Dc yM_lay 47 (.iload 7) 2 49 := ⟨by decide +kernel, rfl⟩
theorem cM_lay_49 : Dc yM_lay 49 (.iadd) 1 50 := ⟨by decide +kernel, rfl⟩
theorem cM_lay_50 : Dc yM_lay 50 (.istore_n 3) 1 51 := ⟨by decide +kernel, rfl⟩
theorem cM_lay_51 : Dc yM_lay 51 (.aload_n 0) 1 52 := ⟨by decide +kernel, rfl⟩
theorem cM_lay_52 : Dc yM_lay 52 (.getfield 51) 3 55 := ⟨by decide +kernel, rfl⟩
theorem cM_lay_55 : Dc yM_lay 55 (.iload 6) 2 57 := ⟨by decide +kernel, rfl⟩
theorem cM_lay_57 : Dc yM_lay 57 (.iload_n 3) 1 58 := ⟨by decide +kernel, rfl⟩
theorem cM_lay_58 : Dc yM_lay 58 (.iastore) 1 59 := ⟨by decide +kernel, rfl⟩
theorem cM_lay_59 : Dc yM_lay 59 (.aload_n 0) 1 60 := ⟨by decide +kernel, rfl⟩
theorem cM_lay_60 : Dc yM_lay 60 (.getfield 54) 3 63 := ⟨by decide +kernel, rfl⟩
theorem cM_lay_63 : Dc yM_lay 63 (.iload 6) 2 65 := ⟨by decide +kernel, rfl⟩
theorem cM_lay_65 : Dc yM_lay 65 (.iload_n 3) 1 66 := ⟨by decide +kernel, rfl⟩
theorem cM_lay_66 : Dc yM_lay 66 (.aload_n 0) 1 67 := ⟨by decide +kernel, rfl⟩
theorem cM_lay_67 : Dc yM_lay 67 (.getfield 108) 3 70 := ⟨by decide +kernel, rfl⟩
theorem cM_lay_70 : Db yM_lay 70 (.if_icmp .ge 9) 3 73 (9) 79 := ⟨by decide +kernel, rfl, by decide⟩
theorem cM_lay_73 : Dc yM_lay 73 (.aload_n 1) 1 74 := ⟨by decide +kernel, rfl⟩
theorem cM_lay_74 : Dc yM_lay 74 (.iconst 1) 1 75 := ⟨by decide +kernel, rfl⟩
theorem cM_lay_75 : Dc yM_lay 75 (.iaload) 1 76 := ⟨by decide +kernel, rfl⟩
theorem cM_lay_76 : Db yM_lay 76 (.goto 6) 3 79 (6) 82 := ⟨by decide +kernel, rfl, by decide⟩
theorem cM_lay_79 : Dc yM_lay 79 (.aload_n 1) 1 80 := ⟨by decide +kernel, rfl⟩
theorem cM_lay_80 : Dc yM_lay 80 (.iconst 2) 1 81 := ⟨by decide +kernel, rfl⟩
theorem cM_lay_81 : Dc yM_lay 81 (.iaload) 1 82 := ⟨by decide +kernel, rfl⟩
theorem cM_lay_82 : Dc yM_lay 82 (.aload_n 1) 1 83 := ⟨by decide +kernel, rfl⟩
theorem cM_lay_83 : Dc yM_lay 83 (.bipush 8) 2 85 := ⟨by decide +kernel, rfl⟩
theorem cM_lay_85 : Dc yM_lay 85 (.iload 6) 2 87 := ⟨by decide +kernel, rfl⟩
theorem cM_lay_87 : Dc yM_lay 87 (.iadd) 1 88 := ⟨by decide +kernel, rfl⟩
theorem cM_lay_88 : Dc yM_lay 88 (.iaload) 1 89 := ⟨by decide +kernel, rfl⟩
theorem cM_lay_89 : Dc yM_lay 89 (.iadd) 1 90 := ⟨by decide +kernel, rfl⟩
theorem cM_lay_90 : Dc yM_lay 90 (.iastore) 1 91 := ⟨by decide +kernel, rfl⟩
theorem cM_lay_91 : Dc yM_lay 91 (.iload 5) 2 93 := ⟨by decide +kernel, rfl⟩
theorem cM_lay_93 : Dc yM_lay 93 (.aload_n 0) 1 94 := ⟨by decide +kernel, rfl⟩
theorem cM_lay_94 : Dc yM_lay 94 (.getfield 54) 3 97 := ⟨by decide +kernel, rfl⟩
theorem cM_lay_97 : Dc yM_lay 97 (.iload 6) 2 99 := ⟨by decide +kernel, rfl⟩
theorem cM_lay_99 : Dc yM_lay 99 (.iaload) 1 100 := ⟨by decide +kernel, rfl⟩
theorem cM_lay_100 : Dc yM_lay 100 (.iadd) 1 101 := ⟨by decide +kernel, rfl⟩
theorem cM_lay_101 : Dc yM_lay 101 (.istore 5) 2 103 := ⟨by decide +kernel, rfl⟩
theorem cM_lay_103 : Dc yM_lay 103 (.aload_n 0) 1 104 := ⟨by decide +kernel, rfl⟩
theorem cM_lay_104 : Dc yM_lay 104 (.getfield 57) 3 107 := ⟨by decide +kernel, rfl⟩
theorem cM_lay_107 : Dc yM_lay 107 (.iload 6) 2 109 := ⟨by decide +kernel, rfl⟩
theorem cM_lay_109 : Dc yM_lay 109 (.iload 5) 2 111 := ⟨by decide +kernel, rfl⟩
theorem cM_lay_111 : Dc yM_lay 111 (.iastore) 1 112 := ⟨by decide +kernel, rfl⟩
theorem cM_lay_112 : Dc yM_lay 112 (.aload_n 0) 1 113 := ⟨by decide +kernel, rfl⟩
theorem cM_lay_113 : Dc yM_lay 113 (.dup) 1 114 := ⟨by decide +kernel, rfl⟩
theorem cM_lay_114 : Dc yM_lay 114 (.getfield 114) 3 117 := ⟨by decide +kernel, rfl⟩
theorem cM_lay_117 : Dc yM_lay 117 (.aload_n 0) 1 118 := ⟨by decide +kernel, rfl⟩
theorem cM_lay_118 : Dc yM_lay 118 (.getfield 54) 3 121 := ⟨by decide +kernel, rfl⟩
theorem cM_lay_121 : Dc yM_lay 121 (.iload 6) 2 123 := ⟨by decide +kernel, rfl⟩
theorem cM_lay_123 : Dc yM_lay 123 (.iaload) 1 124 := ⟨by decide +kernel, rfl⟩
theorem cM_lay_124 : Dc yM_lay 124 (.iload 4) 2 126 := ⟨by decide +kernel, rfl⟩
theorem cM_lay_126 : Dc yM_lay 126 (.invokestatic 117) 3 129 := ⟨by decide +kernel, rfl⟩
theorem cM_lay_129 : Dc yM_lay 129 (.aload_n 0) 1 130 := ⟨by decide +kernel, rfl⟩
theorem cM_lay_130 : Dc yM_lay 130 (.getfield 13) 3 133 := ⟨by decide +kernel, rfl⟩
theorem cM_lay_133 : Db yM_lay 133 (.if_icmp .le 10) 3 136 (10) 143 := ⟨by decide +kernel, rfl, by decide⟩
theorem cM_lay_136 : Dc yM_lay 136 (.iconst 1) 1 137 := ⟨by decide +kernel, rfl⟩
theorem cM_lay_137 : Dc yM_lay 137 (.iload 6) 2 139 := ⟨by decide +kernel, rfl⟩
theorem cM_lay_139 : Dc yM_lay 139 (.ishl) 1 140 := ⟨by decide +kernel, rfl⟩
theorem cM_lay_140 : Db yM_lay 140 (.goto 4) 3 143 (4) 144 := ⟨by decide +kernel, rfl, by decide⟩
theorem cM_lay_143 : Dc yM_lay 143 (.iconst 0) 1 144 := ⟨by decide +kernel, rfl⟩
theorem cM_lay_144 : Dc yM_lay 144 (.ior) 1 145 := ⟨by decide +kernel, rfl⟩
theorem cM_lay_145 : Dc yM_lay 145 (.putfield 114) 3 148 := ⟨by decide +kernel, rfl⟩
theorem cM_lay_148 : Dc yM_lay 148 (.aload_n 0) 1 149 := ⟨by decide +kernel, rfl⟩
theorem cM_lay_149 : Dc yM_lay 149 (.getfield 54) 3 152 := ⟨by decide +kernel, rfl⟩
theorem cM_lay_152 : Dc yM_lay 152 (.iload 6) 2 154 := ⟨by decide +kernel, rfl⟩
theorem cM_lay_154 : Dc yM_lay 154 (.iaload) 1 155 := ⟨by decide +kernel, rfl⟩
theorem cM_lay_155 : Dc yM_lay 155 (.istore 4) 2 157 := ⟨by decide +kernel, rfl⟩
theorem cM_lay_157 : Dc yM_lay 157 (.iinc 6 1) 3 160 := ⟨by decide +kernel, rfl⟩
theorem cM_lay_160 : Db yM_lay 160 (.goto (-144)) 3 163 (-144) 16 := ⟨by decide +kernel, rfl, by decide⟩
theorem cM_lay_163 : Dc yM_lay 163 (.return_) 1 164 := ⟨by decide +kernel, rfl⟩
theorem cM_far_0 : Dc yM_far 0 (.iload_n 0) 1 1 := ⟨by decide +kernel, rfl⟩
theorem cM_far_1 : Dc yM_far 1 (.iload_n 1) 1 2 := ⟨by decide +kernel, rfl⟩
theorem cM_far_2 : Db yM_far 2 (.if_icmp .ge 9) 3 5 (9) 11 := ⟨by decide +kernel, rfl, by decide⟩
theorem cM_far_5 : Dc yM_far 5 (.iload_n 1) 1 6 := ⟨by decide +kernel, rfl⟩
theorem cM_far_6 : Dc yM_far 6 (.iload_n 0) 1 7 := ⟨by decide +kernel, rfl⟩
theorem cM_far_7 : Dc yM_far 7 (.isub) 1 8 := ⟨by decide +kernel, rfl⟩
theorem cM_far_8 : Db yM_far 8 (.goto 6) 3 11 (6) 14 := ⟨by decide +kernel, rfl, by decide⟩
theorem cM_far_11 : Dc yM_far 11 (.iload_n 0) 1 12 := ⟨by decide +kernel, rfl⟩
theorem cM_far_12 : Dc yM_far 12 (.iload_n 1) 1 13 := ⟨by decide +kernel, rfl⟩
theorem cM_far_13 : Dc yM_far 13 (.isub) 1 14 := ⟨by decide +kernel, rfl⟩
theorem cM_far_14 : Dc yM_far 14 (.ireturn) 1 15 := ⟨by decide +kernel, rfl⟩
theorem cM_yardsFrom_0 : Dc yM_yardsFrom 0 (.iconst 0) 1 1 := ⟨by decide +kernel, rfl⟩
theorem cM_yardsFrom_1 : Dc yM_yardsFrom 1 (.istore_n 2) 1 2 := ⟨by decide +kernel, rfl⟩
theorem cM_yardsFrom_2 : Dc yM_yardsFrom 2 (.iload_n 1) 1 3 := ⟨by decide +kernel, rfl⟩
theorem cM_yardsFrom_3 : Dc yM_yardsFrom 3 (.istore_n 3) 1 4 := ⟨by decide +kernel, rfl⟩
theorem cM_yardsFrom_4 : Dc yM_yardsFrom 4 (.iload_n 3) 1 5 := ⟨by decide +kernel, rfl⟩
theorem cM_yardsFrom_5 : Dc yM_yardsFrom 5 (.aload_n 0) 1 6 := ⟨by decide +kernel, rfl⟩
theorem cM_yardsFrom_6 : Dc yM_yardsFrom 6 (.getfield 29) 3 9 := ⟨by decide +kernel, rfl⟩
theorem cM_yardsFrom_9 : Dc yM_yardsFrom 9 (.iconst 0) 1 10 := ⟨by decide +kernel, rfl⟩
theorem cM_yardsFrom_10 : Dc yM_yardsFrom 10 (.iaload) 1 11 := ⟨by decide +kernel, rfl⟩
theorem cM_yardsFrom_11 : Db yM_yardsFrom 11 (.if_icmp .ge 20) 3 14 (20) 31 := ⟨by decide +kernel, rfl, by decide⟩
theorem cM_yardsFrom_14 : Dc yM_yardsFrom 14 (.iload_n 2) 1 15 := ⟨by decide +kernel, rfl⟩
theorem cM_yardsFrom_15 : Dc yM_yardsFrom 15 (.aload_n 0) 1 16 := ⟨by decide +kernel, rfl⟩
theorem cM_yardsFrom_16 : Dc yM_yardsFrom 16 (.getfield 29) 3 19 := ⟨by decide +kernel, rfl⟩
theorem cM_yardsFrom_19 : Dc yM_yardsFrom 19 (.iconst 3) 1 20 := ⟨by decide +kernel, rfl⟩
theorem cM_yardsFrom_20 : Dc yM_yardsFrom 20 (.iload_n 3) 1 21 := ⟨by decide +kernel, rfl⟩
theorem cM_yardsFrom_21 : Dc yM_yardsFrom 21 (.iadd) 1 22 := ⟨by decide +kernel, rfl⟩
theorem cM_yardsFrom_22 : Dc yM_yardsFrom 22 (.iaload) 1 23 := ⟨by decide +kernel, rfl⟩
theorem cM_yardsFrom_23 : Dc yM_yardsFrom 23 (.iadd) 1 24 := ⟨by decide +kernel, rfl⟩
theorem cM_yardsFrom_24 : Dc yM_yardsFrom 24 (.istore_n 2) 1 25 := ⟨by decide +kernel, rfl⟩
theorem cM_yardsFrom_25 : Dc yM_yardsFrom 25 (.iinc 3 1) 3 28 := ⟨by decide +kernel, rfl⟩
theorem cM_yardsFrom_28 : Db yM_yardsFrom 28 (.goto (-24)) 3 31 (-24) 4 := ⟨by decide +kernel, rfl, by decide⟩
theorem cM_yardsFrom_31 : Dc yM_yardsFrom 31 (.iload_n 2) 1 32 := ⟨by decide +kernel, rfl⟩
theorem cM_yardsFrom_32 : Dc yM_yardsFrom 32 (.ireturn) 1 33 := ⟨by decide +kernel, rfl⟩
theorem cM_kite_0 : Dc yM_kite 0 (.aload_n 0) 1 1 := ⟨by decide +kernel, rfl⟩
theorem cM_kite_1 : Dc yM_kite 1 (.iconst 0) 1 2 := ⟨by decide +kernel, rfl⟩
theorem cM_kite_2 : Dc yM_kite 2 (.putfield 66) 3 5 := ⟨by decide +kernel, rfl⟩
theorem cM_kite_5 : Dc yM_kite 5 (.aload_n 0) 1 6 := ⟨by decide +kernel, rfl⟩
theorem cM_kite_6 : Dc yM_kite 6 (.iload_n 1) 1 7 := ⟨by decide +kernel, rfl⟩
theorem cM_kite_7 : Dc yM_kite 7 (.invokevirtual 134) 3 10 := ⟨by decide +kernel, rfl⟩
theorem cM_kite_10 : Db yM_kite 10 (.ifCond .eq 5) 3 13 (5) 15 := ⟨by decide +kernel, rfl, by decide⟩
theorem cM_kite_13 : Dc yM_kite 13 (.iconst (-1)) 1 14 := ⟨by decide +kernel, rfl⟩
theorem cM_kite_14 : Dc yM_kite 14 (.ireturn) 1 15 := ⟨by decide +kernel, rfl⟩
theorem cM_kite_15 : Dc yM_kite 15 (.aload_n 0) 1 16 := ⟨by decide +kernel, rfl⟩
theorem cM_kite_16 : Dc yM_kite 16 (.invokevirtual 124) 3 19 := ⟨by decide +kernel, rfl⟩
theorem cM_kite_19 : Dc yM_kite 19 (.iload_n 2) 1 20 := ⟨by decide +kernel, rfl⟩
theorem cM_kite_20 : decode (yB yM_kite) 20 = .ok (.tableswitch 94 0 5 #[40, 49, 61, 68, 75, 85], 40) := by decide +kernel
theorem cM_kite_60 : Dc yM_kite 60 (.aload_n 0) 1 61 := ⟨by decide +kernel, rfl⟩
theorem cM_kite_61 : Dc yM_kite 61 (.getfield 29) 3 64 := ⟨by decide +kernel, rfl⟩
theorem cM_kite_64 : Dc yM_kite 64 (.iconst 3) 1 65 := ⟨by decide +kernel, rfl⟩
theorem cM_kite_65 : Dc yM_kite 65 (.iload_n 1) 1 66 := ⟨by decide +kernel, rfl⟩
theorem cM_kite_66 : Dc yM_kite 66 (.iadd) 1 67 := ⟨by decide +kernel, rfl⟩
theorem cM_kite_67 : Dc yM_kite 67 (.iaload) 1 68 := ⟨by decide +kernel, rfl⟩
theorem cM_kite_68 : Dc yM_kite 68 (.ireturn) 1 69 := ⟨by decide +kernel, rfl⟩
theorem cM_kite_69 : Dc yM_kite 69 (.aload_n 0) 1 70 := ⟨by decide +kernel, rfl⟩
theorem cM_kite_70 : Dc yM_kite 70 (.getfield 29) 3 73 := ⟨by decide +kernel, rfl⟩
theorem cM_kite_73 : Dc yM_kite 73 (.bipush 8) 2 75 := ⟨by decide +kernel, rfl⟩
theorem cM_kite_75 : Dc yM_kite 75 (.iload_n 1) 1 76 := ⟨by decide +kernel, rfl⟩
theorem cM_kite_76 : Dc yM_kite 76 (.iadd) 1 77 := ⟨by decide +kernel, rfl⟩
theorem cM_kite_77 : Dc yM_kite 77 (.iaload) 1 78 := ⟨by decide +kernel, rfl⟩
theorem cM_kite_78 : Dc yM_kite 78 (.iconst 2) 1 79 := ⟨by decide +kernel, rfl⟩
theorem cM_kite_79 : Dc yM_kite 79 (.iadd) 1 80 := ⟨by decide +kernel, rfl⟩
theorem cM_kite_80 : Dc yM_kite 80 (.ireturn) 1 81 := ⟨by decide +kernel, rfl⟩
theorem cM_kite_81 : Dc yM_kite 81 (.aload_n 0) 1 82 := ⟨by decide +kernel, rfl⟩
theorem cM_kite_82 : Dc yM_kite 82 (.getfield 17) 3 85 := ⟨by decide +kernel, rfl⟩
theorem cM_kite_85 : Dc yM_kite 85 (.iload_n 1) 1 86 := ⟨by decide +kernel, rfl⟩
theorem cM_kite_86 : Dc yM_kite 86 (.iaload) 1 87 := ⟨by decide +kernel, rfl⟩
theorem cM_kite_87 : Dc yM_kite 87 (.ireturn) 1 88 := ⟨by decide +kernel, rfl⟩
theorem cM_kite_88 : Dc yM_kite 88 (.aload_n 0) 1 89 := ⟨by decide +kernel, rfl⟩
theorem cM_kite_89 : Dc yM_kite 89 (.getfield 51) 3 92 := ⟨by decide +kernel, rfl⟩
theorem cM_kite_92 : Dc yM_kite 92 (.iload_n 1) 1 93 := ⟨by decide +kernel, rfl⟩
theorem cM_kite_93 : Dc yM_kite 93 (.iaload) 1 94 := ⟨by decide +kernel, rfl⟩
theorem cM_kite_94 : Dc yM_kite 94 (.ireturn) 1 95 := ⟨by decide +kernel, rfl⟩
theorem cM_kite_95 : Dc yM_kite 95 (.aload_n 0) 1 96 := ⟨by decide +kernel, rfl⟩
theorem cM_kite_96 : Dc yM_kite 96 (.getfield 57) 3 99 := ⟨by decide +kernel, rfl⟩
theorem cM_kite_99 : Dc yM_kite 99 (.iload_n 1) 1 100 := ⟨by decide +kernel, rfl⟩
theorem cM_kite_100 : Dc yM_kite 100 (.iaload) 1 101 := ⟨by decide +kernel, rfl⟩
theorem cM_kite_101 : Dc yM_kite 101 (.bipush 100) 2 103 := ⟨by decide +kernel, rfl⟩
theorem cM_kite_103 : Dc yM_kite 103 (.iadd) 1 104 := ⟨by decide +kernel, rfl⟩
theorem cM_kite_104 : Dc yM_kite 104 (.ireturn) 1 105 := ⟨by decide +kernel, rfl⟩
theorem cM_kite_105 : Dc yM_kite 105 (.aload_n 0) 1 106 := ⟨by decide +kernel, rfl⟩
theorem cM_kite_106 : Dc yM_kite 106 (.getfield 114) 3 109 := ⟨by decide +kernel, rfl⟩
theorem cM_kite_109 : Dc yM_kite 109 (.iload_n 1) 1 110 := ⟨by decide +kernel, rfl⟩
theorem cM_kite_110 : Dc yM_kite 110 (.ishr) 1 111 := ⟨by decide +kernel, rfl⟩
theorem cM_kite_111 : Dc yM_kite 111 (.iconst 1) 1 112 := ⟨by decide +kernel, rfl⟩
theorem cM_kite_112 : Dc yM_kite 112 (.iand) 1 113 := ⟨by decide +kernel, rfl⟩
theorem cM_kite_113 : Dc yM_kite 113 (.ireturn) 1 114 := ⟨by decide +kernel, rfl⟩
theorem cM_kite_114 : Dc yM_kite 114 (.bipush (-2)) 2 116 := ⟨by decide +kernel, rfl⟩
theorem cM_kite_116 : Dc yM_kite 116 (.ireturn) 1 117 := ⟨by decide +kernel, rfl⟩
theorem cM_noKite_0 : Dc yM_noKite 0 (.iload_n 1) 1 1 := ⟨by decide +kernel, rfl⟩
theorem cM_noKite_1 : Dc yM_noKite 1 (.i2l) 1 2 := ⟨by decide +kernel, rfl⟩
theorem cM_noKite_2 : Dc yM_noKite 2 (.lconst 0) 1 3 := ⟨by decide +kernel, rfl⟩
theorem cM_noKite_3 : Dc yM_noKite 3 (.aload_n 0) 1 4 := ⟨by decide +kernel, rfl⟩
theorem cM_noKite_4 : Dc yM_noKite 4 (.getfield 29) 3 7 := ⟨by decide +kernel, rfl⟩
theorem cM_noKite_7 : Dc yM_noKite 7 (.iconst 0) 1 8 := ⟨by decide +kernel, rfl⟩
theorem cM_noKite_8 : Dc yM_noKite 8 (.iaload) 1 9 := ⟨by decide +kernel, rfl⟩
theorem cM_noKite_9 : Dc yM_noKite 9 (.iconst 1) 1 10 := ⟨by decide +kernel, rfl⟩
theorem cM_noKite_10 : Dc yM_noKite 10 (.isub) 1 11 := ⟨by decide +kernel, rfl⟩
theorem cM_noKite_11 : Dc yM_noKite 11 (.i2l) 1 12 := ⟨by decide +kernel, rfl⟩
theorem cM_noKite_12 : Dc yM_noKite 12 (.invokestatic 69) 3 15 := ⟨by decide +kernel, rfl⟩
theorem cM_noKite_15 : Db yM_noKite 15 (.ifCond .ne 7) 3 18 (7) 22 := ⟨by decide +kernel, rfl, by decide⟩
theorem cM_noKite_18 : Dc yM_noKite 18 (.iconst 1) 1 19 := ⟨by decide +kernel, rfl⟩
theorem cM_noKite_19 : Db yM_noKite 19 (.goto 4) 3 22 (4) 23 := ⟨by decide +kernel, rfl, by decide⟩
theorem cM_noKite_22 : Dc yM_noKite 22 (.iconst 0) 1 23 := ⟨by decide +kernel, rfl⟩
theorem cM_noKite_23 : Dc yM_noKite 23 (.ireturn) 1 24 := ⟨by decide +kernel, rfl⟩
theorem cM_letOut_0 : Dc yM_letOut 0 (.aload_n 0) 1 1 := ⟨by decide +kernel, rfl⟩
theorem cM_letOut_1 : Dc yM_letOut 1 (.iconst 0) 1 2 := ⟨by decide +kernel, rfl⟩
theorem cM_letOut_2 : Dc yM_letOut 2 (.putfield 66) 3 5 := ⟨by decide +kernel, rfl⟩
theorem cM_letOut_5 : Dc yM_letOut 5 (.aload_n 0) 1 6 := ⟨by decide +kernel, rfl⟩
theorem cM_letOut_6 : Dc yM_letOut 6 (.iload_n 1) 1 7 := ⟨by decide +kernel, rfl⟩
theorem cM_letOut_7 : Dc yM_letOut 7 (.invokevirtual 134) 3 10 := ⟨by decide +kernel, rfl⟩
theorem cM_letOut_10 : Db yM_letOut 10 (.ifCond .eq 5) 3 13 (5) 15 := ⟨by decide +kernel, rfl, by decide⟩
theorem cM_letOut_13 : Dc yM_letOut 13 (.iconst (-1)) 1 14 := ⟨by decide +kernel, rfl⟩
theorem cM_letOut_14 : Dc yM_letOut 14 (.ireturn) 1 15 := ⟨by decide +kernel, rfl⟩
theorem cM_letOut_15 : Dc yM_letOut 15 (.iload_n 2) 1 16 := ⟨by decide +kernel, rfl⟩
theorem cM_letOut_16 : Dc yM_letOut 16 (.i2l) 1 17 := ⟨by decide +kernel, rfl⟩
theorem cM_letOut_17 : Dc yM_letOut 17 (.ldc2_w 138) 3 20 := ⟨by decide +kernel, rfl⟩
theorem cM_letOut_20 : Dc yM_letOut 20 (.ldc2_w 140) 3 23 := ⟨by decide +kernel, rfl⟩
theorem cM_letOut_23 : Dc yM_letOut 23 (.invokestatic 69) 3 26 := ⟨by decide +kernel, rfl⟩
theorem cM_letOut_26 : Db yM_letOut 26 (.ifCond .eq 7) 3 29 (7) 33 := ⟨by decide +kernel, rfl, by decide⟩
theorem cM_letOut_29 : Dc yM_letOut 29 (.iload_n 2) 1 30 := ⟨by decide +kernel, rfl⟩
theorem cM_letOut_30 : Db yM_letOut 30 (.ifCond .ne 6) 3 33 (6) 36 := ⟨by decide +kernel, rfl, by decide⟩
theorem cM_letOut_33 : Dc yM_letOut 33 (.bipush (-2)) 2 35 := ⟨by decide +kernel, rfl⟩
theorem cM_letOut_35 : Dc yM_letOut 35 (.ireturn) 1 36 := ⟨by decide +kernel, rfl⟩
theorem cM_letOut_36 : Dc yM_letOut 36 (.aload_n 0) 1 37 := ⟨by decide +kernel, rfl⟩
theorem cM_letOut_37 : Dc yM_letOut 37 (.getfield 29) 3 40 := ⟨by decide +kernel, rfl⟩
theorem cM_letOut_40 : Dc yM_letOut 40 (.iconst 3) 1 41 := ⟨by decide +kernel, rfl⟩
theorem cM_letOut_41 : Dc yM_letOut 41 (.iload_n 1) 1 42 := ⟨by decide +kernel, rfl⟩
theorem cM_letOut_42 : Dc yM_letOut 42 (.iadd) 1 43 := ⟨by decide +kernel, rfl⟩
theorem cM_letOut_43 : Dc yM_letOut 43 (.iaload) 1 44 := ⟨by decide +kernel, rfl⟩
theorem cM_letOut_44 : Dc yM_letOut 44 (.iload_n 2) 1 45 := ⟨by decide +kernel, rfl⟩
theorem cM_letOut_45 : Dc yM_letOut 45 (.iadd) 1 46 := ⟨by decide +kernel, rfl⟩
theorem cM_letOut_46 : Dc yM_letOut 46 (.i2l) 1 47 := ⟨by decide +kernel, rfl⟩
theorem cM_letOut_47 : Dc yM_letOut 47 (.lconst 1) 1 48 := ⟨by decide +kernel, rfl⟩
theorem cM_letOut_48 : Dc yM_letOut 48 (.ldc2_w 142) 3 51 := ⟨by decide +kernel, rfl⟩
theorem cM_letOut_51 : Dc yM_letOut 51 (.invokestatic 69) 3 54 := ⟨by decide +kernel, rfl⟩
theorem cM_letOut_54 : Db yM_letOut 54 (.ifCond .ne 6) 3 57 (6) 60 := ⟨by decide +kernel, rfl, by decide⟩
theorem cM_letOut_57 : Dc yM_letOut 57 (.bipush (-3)) 2 59 := ⟨by decide +kernel, rfl⟩
theorem cM_letOut_59 : Dc yM_letOut 59 (.ireturn) 1 60 := ⟨by decide +kernel, rfl⟩
theorem cM_letOut_60 : Dc yM_letOut 60 (.aload_n 0) 1 61 := ⟨by decide +kernel, rfl⟩
theorem cM_letOut_61 : Dc yM_letOut 61 (.invokevirtual 144) 3 64 := ⟨by decide +kernel, rfl⟩
theorem cM_letOut_64 : Dc yM_letOut 64 (.aload_n 0) 1 65 := ⟨by decide +kernel, rfl⟩
theorem cM_letOut_65 : Dc yM_letOut 65 (.getfield 29) 3 68 := ⟨by decide +kernel, rfl⟩
theorem cM_letOut_68 : Dc yM_letOut 68 (.iconst 3) 1 69 := ⟨by decide +kernel, rfl⟩
theorem cM_letOut_69 : Dc yM_letOut 69 (.iload_n 1) 1 70 := ⟨by decide +kernel, rfl⟩
theorem cM_letOut_70 : Dc yM_letOut 70 (.iadd) 1 71 := ⟨by decide +kernel, rfl⟩
theorem cM_letOut_71 : Dc yM_letOut 71 (.dup2) 1 72 := ⟨by decide +kernel, rfl⟩
theorem cM_letOut_72 : Dc yM_letOut 72 (.iaload) 1 73 := ⟨by decide +kernel, rfl⟩
theorem cM_letOut_73 : Dc yM_letOut 73 (.iload_n 2) 1 74 := ⟨by decide +kernel, rfl⟩
theorem cM_letOut_74 : Dc yM_letOut 74 (.iadd) 1 75 := ⟨by decide +kernel, rfl⟩
theorem cM_letOut_75 : Dc yM_letOut 75 (.iastore) 1 76 := ⟨by decide +kernel, rfl⟩
theorem cM_letOut_76 : Dc yM_letOut 76 (.aload_n 0) 1 77 := ⟨by decide +kernel, rfl⟩
theorem cM_letOut_77 : Dc yM_letOut 77 (.getfield 29) 3 80 := ⟨by decide +kernel, rfl⟩
theorem cM_letOut_80 : Dc yM_letOut 80 (.iconst 3) 1 81 := ⟨by decide +kernel, rfl⟩
theorem cM_letOut_81 : Dc yM_letOut 81 (.iload_n 1) 1 82 := ⟨by decide +kernel, rfl⟩
theorem cM_letOut_82 : Dc yM_letOut 82 (.iadd) 1 83 := ⟨by decide +kernel, rfl⟩
theorem cM_letOut_83 : Dc yM_letOut 83 (.iaload) 1 84 := ⟨by decide +kernel, rfl⟩
theorem cM_letOut_84 : Dc yM_letOut 84 (.ireturn) 1 85 := ⟨by decide +kernel, rfl⟩
theorem cM_note_0 : Dc yM_note 0 (.aload_n 0) 1 1 := ⟨by decide +kernel, rfl⟩
theorem cM_note_1 : Dc yM_note 1 (.getfield 111) 3 4 := ⟨by decide +kernel, rfl⟩
theorem cM_note_4 : Dc yM_note 4 (.bipush 14) 2 6 := ⟨by decide +kernel, rfl⟩
theorem cM_note_6 : Db yM_note 6 (.if_icmp .ne 43) 3 9 (43) 49 := ⟨by decide +kernel, rfl, by decide⟩
theorem cM_note_9 : Dc yM_note 9 (.iconst 0) 1 10 := ⟨by decide +kernel, rfl⟩
theorem cM_note_10 : Dc yM_note 10 (.istore_n 1) 1 11 := ⟨by decide +kernel, rfl⟩
theorem cM_note_11 : Dc yM_note 11 (.iload_n 1) 1 12 := ⟨by decide +kernel, rfl⟩
theorem cM_note_12 : Dc yM_note 12 (.sipush 169) 3 15 := ⟨by decide +kernel, rfl⟩
theorem cM_note_15 : Db yM_note 15 (.if_icmp .ge 24) 3 18 (24) 39 := ⟨by decide +kernel, rfl, by decide⟩
theorem cM_note_18 : Dc yM_note 18 (.aload_n 0) 1 19 := ⟨by decide +kernel, rfl⟩
theorem cM_note_19 : Dc yM_note 19 (.getfield 35) 3 22 := ⟨by decide +kernel, rfl⟩
theorem cM_note_22 : Dc yM_note 22 (.iload_n 1) 1 23 := ⟨by decide +kernel, rfl⟩
theorem cM_note_23 : Dc yM_note 23 (.aload_n 0) 1 24 := ⟨by decide +kernel, rfl⟩
theorem cM_note_24 : Dc yM_note 24 (.getfield 35) 3 27 := ⟨by decide +kernel, rfl⟩
theorem cM_note_27 : Dc yM_note 27 (.iload_n 1) 1 28 := ⟨by decide +kernel, rfl⟩
theorem cM_note_28 : Dc yM_note 28 (.bipush 13) 2 30 := ⟨by decide +kernel, rfl⟩
theorem cM_note_30 : Dc yM_note 30 (.iadd) 1 31 := ⟨by decide +kernel, rfl⟩
theorem cM_note_31 : Dc yM_note 31 (.iaload) 1 32 := ⟨by decide +kernel, rfl⟩
theorem cM_note_32 : Dc yM_note 32 (.iastore) 1 33 := ⟨by decide +kernel, rfl⟩
theorem cM_note_33 : Dc yM_note 33 (.iinc 1 1) 3 36 := ⟨by decide +kernel, rfl⟩
theorem cM_note_36 : Db yM_note 36 (.goto (-25)) 3 39 (-25) 11 := ⟨by decide +kernel, rfl, by decide⟩
theorem cM_note_39 : Dc yM_note 39 (.aload_n 0) 1 40 := ⟨by decide +kernel, rfl⟩
theorem cM_note_40 : Dc yM_note 40 (.dup) 1 41 := ⟨by decide +kernel, rfl⟩
theorem cM_note_41 : Dc yM_note 41 (.getfield 111) 3 44 := ⟨by decide +kernel, rfl⟩
theorem cM_note_44 : Dc yM_note 44 (.iconst 1) 1 45 := ⟨by decide +kernel, rfl⟩
theorem cM_note_45 : Dc yM_note 45 (.isub) 1 46 := ⟨by decide +kernel, rfl⟩
theorem cM_note_46 : Dc yM_note 46 (.putfield 111) 3 49 := ⟨by decide +kernel, rfl⟩
theorem cM_note_49 : Dc yM_note 49 (.iconst 0) 1 50 := ⟨by decide +kernel, rfl⟩
theorem cM_note_50 : Dc yM_note 50 (.istore_n 1) 1 51 := ⟨by decide +kernel, rfl⟩
theorem cM_note_51 : Dc yM_note 51 (.iload_n 1) 1 52 := ⟨by decide +kernel, rfl⟩
theorem cM_note_52 : Dc yM_note 52 (.bipush 13) 2 54 := ⟨by decide +kernel, rfl⟩
theorem cM_note_54 : Db yM_note 54 (.if_icmp .ge 29) 3 57 (29) 83 := ⟨by decide +kernel, rfl, by decide⟩
theorem cM_note_57 : Dc yM_note 57 (.aload_n 0) 1 58 := ⟨by decide +kernel, rfl⟩
theorem cM_note_58 : Dc yM_note 58 (.getfield 35) 3 61 := ⟨by decide +kernel, rfl⟩
theorem cM_note_61 : Dc yM_note 61 (.bipush 13) 2 63 := ⟨by decide +kernel, rfl⟩
theorem cM_note_63 : Dc yM_note 63 (.aload_n 0) 1 64 := ⟨by decide +kernel, rfl⟩
theorem cM_note_64 : Dc yM_note 64 (.getfield 111) 3 67 := ⟨by decide +kernel, rfl⟩
theorem cM_note_67 : Dc yM_note 67 (.imul) 1 68 := ⟨by decide +kernel, rfl⟩
theorem cM_note_68 : Dc yM_note 68 (.iload_n 1) 1 69 := ⟨by decide +kernel, rfl⟩
theorem cM_note_69 : Dc yM_note 69 (.iadd) 1 70 := ⟨by decide +kernel, rfl⟩
theorem cM_note_70 : Dc yM_note 70 (.aload_n 0) 1 71 := ⟨by decide +kernel, rfl⟩
theorem cM_note_71 : Dc yM_note 71 (.getfield 29) 3 74 := ⟨by decide +kernel, rfl⟩
theorem cM_note_74 : Dc yM_note 74 (.iload_n 1) 1 75 := ⟨by decide +kernel, rfl⟩
theorem cM_note_75 : Dc yM_note 75 (.iaload) 1 76 := ⟨by decide +kernel, rfl⟩
theorem cM_note_76 : Dc yM_note 76 (.iastore) 1 77 := ⟨by decide +kernel, rfl⟩
theorem cM_note_77 : Dc yM_note 77 (.iinc 1 1) 3 80 := ⟨by decide +kernel, rfl⟩
theorem cM_note_80 : Db yM_note 80 (.goto (-29)) 3 83 (-29) 51 := ⟨by decide +kernel, rfl, by decide⟩
theorem cM_note_83 : Dc yM_note 83 (.aload_n 0) 1 84 := ⟨by decide +kernel, rfl⟩
theorem cM_note_84 : Dc yM_note 84 (.dup) 1 85 := ⟨by decide +kernel, rfl⟩
theorem cM_note_85 : Dc yM_note 85 (.getfield 111) 3 88 := ⟨by decide +kernel, rfl⟩
theorem cM_note_88 : Dc yM_note 88 (.iconst 1) 1 89 := ⟨by decide +kernel, rfl⟩
theorem cM_note_89 : Dc yM_note 89 (.iadd) 1 90 := ⟨by decide +kernel, rfl⟩
theorem cM_note_90 : Dc yM_note 90 (.putfield 111) 3 93 := ⟨by decide +kernel, rfl⟩
theorem cM_note_93 : Dc yM_note 93 (.return_) 1 94 := ⟨by decide +kernel, rfl⟩
theorem cM_set_0 : Dc yM_set 0 (.aload_n 0) 1 1 := ⟨by decide +kernel, rfl⟩
theorem cM_set_1 : Dc yM_set 1 (.iconst 0) 1 2 := ⟨by decide +kernel, rfl⟩
theorem cM_set_2 : Dc yM_set 2 (.putfield 66) 3 5 := ⟨by decide +kernel, rfl⟩
theorem cM_set_5 : Dc yM_set 5 (.aload_n 0) 1 6 := ⟨by decide +kernel, rfl⟩
theorem cM_set_6 : Dc yM_set 6 (.iload_n 1) 1 7 := ⟨by decide +kernel, rfl⟩
theorem cM_set_7 : Dc yM_set 7 (.invokevirtual 134) 3 10 := ⟨by decide +kernel, rfl⟩
theorem cM_set_10 : Db yM_set 10 (.ifCond .eq 5) 3 13 (5) 15 := ⟨by decide +kernel, rfl, by decide⟩
theorem cM_set_13 : Dc yM_set 13 (.iconst (-1)) 1 14 := ⟨by decide +kernel, rfl⟩
theorem cM_set_14 : Dc yM_set 14 (.ireturn) 1 15 := ⟨by decide +kernel, rfl⟩
theorem cM_set_15 : Dc yM_set 15 (.iload_n 2) 1 16 := ⟨by decide +kernel, rfl⟩
theorem cM_set_16 : Dc yM_set 16 (.i2l) 1 17 := ⟨by decide +kernel, rfl⟩
theorem cM_set_17 : Dc yM_set 17 (.ldc2_w 147) 3 20 := ⟨by decide +kernel, rfl⟩
theorem cM_set_20 : Dc yM_set 20 (.ldc2_w 149) 3 23 := ⟨by decide +kernel, rfl⟩
theorem cM_set_23 : Dc yM_set 23 (.invokestatic 69) 3 26 := ⟨by decide +kernel, rfl⟩
theorem cM_set_26 : Db yM_set 26 (.ifCond .ne 6) 3 29 (6) 32 := ⟨by decide +kernel, rfl, by decide⟩
theorem cM_set_29 : Dc yM_set 29 (.bipush (-2)) 2 31 := ⟨by decide +kernel, rfl⟩
theorem cM_set_31 : Dc yM_set 31 (.ireturn) 1 32 := ⟨by decide +kernel, rfl⟩
theorem cM_set_32 : Dc yM_set 32 (.aload_n 0) 1 33 := ⟨by decide +kernel, rfl⟩
theorem cM_set_33 : Dc yM_set 33 (.getfield 29) 3 36 := ⟨by decide +kernel, rfl⟩
theorem cM_set_36 : Dc yM_set 36 (.bipush 8) 2 38 := ⟨by decide +kernel, rfl⟩
theorem cM_set_38 : Dc yM_set 38 (.iload_n 1) 1 39 := ⟨by decide +kernel, rfl⟩
theorem cM_set_39 : Dc yM_set 39 (.iadd) 1 40 := ⟨by decide +kernel, rfl⟩
theorem cM_set_40 : Dc yM_set 40 (.iaload) 1 41 := ⟨by decide +kernel, rfl⟩
theorem cM_set_41 : Dc yM_set 41 (.istore_n 3) 1 42 := ⟨by decide +kernel, rfl⟩
theorem cM_set_42 : Dc yM_set 42 (.iload_n 3) 1 43 := ⟨by decide +kernel, rfl⟩
theorem cM_set_43 : Dc yM_set 43 (.iload_n 2) 1 44 := ⟨by decide +kernel, rfl⟩
theorem cM_set_44 : Db yM_set 44 (.if_icmp .ne 6) 3 47 (6) 50 := ⟨by decide +kernel, rfl, by decide⟩
theorem cM_set_47 : Dc yM_set 47 (.bipush (-3)) 2 49 := ⟨by decide +kernel, rfl⟩
theorem cM_set_49 : Dc yM_set 49 (.ireturn) 1 50 := ⟨by decide +kernel, rfl⟩
theorem cM_set_50 : Dc yM_set 50 (.aload_n 0) 1 51 := ⟨by decide +kernel, rfl⟩
theorem cM_set_51 : Dc yM_set 51 (.invokevirtual 144) 3 54 := ⟨by decide +kernel, rfl⟩
theorem cM_set_54 : Dc yM_set 54 (.aload_n 0) 1 55 := ⟨by decide +kernel, rfl⟩
theorem cM_set_55 : Dc yM_set 55 (.getfield 29) 3 58 := ⟨by decide +kernel, rfl⟩
theorem cM_set_58 : Dc yM_set 58 (.bipush 8) 2 60 := ⟨by decide +kernel, rfl⟩
theorem cM_set_60 : Dc yM_set 60 (.iload_n 1) 1 61 := ⟨by decide +kernel, rfl⟩
theorem cM_set_61 : Dc yM_set 61 (.iadd) 1 62 := ⟨by decide +kernel, rfl⟩
theorem cM_set_62 : Dc yM_set 62 (.iload_n 2) 1 63 := ⟨by decide +kernel, rfl⟩
theorem cM_set_63 : Dc yM_set 63 (.iastore) 1 64 := ⟨by decide +kernel, rfl⟩
theorem cM_set_64 : Dc yM_set 64 (.iload_n 3) 1 65 := ⟨by decide +kernel, rfl⟩
theorem cM_set_65 : Dc yM_set 65 (.iconst 2) 1 66 := ⟨by decide +kernel, rfl⟩
theorem cM_set_66 : Dc yM_set 66 (.iadd) 1 67 := ⟨by decide +kernel, rfl⟩
theorem cM_set_67 : Dc yM_set 67 (.ireturn) 1 68 := ⟨by decide +kernel, rfl⟩
theorem cM_cut_0 : Dc yM_cut 0 (.aload_n 0) 1 1 := ⟨by decide +kernel, rfl⟩
theorem cM_cut_1 : Dc yM_cut 1 (.iconst 0) 1 2 := ⟨by decide +kernel, rfl⟩
theorem cM_cut_2 : Dc yM_cut 2 (.putfield 66) 3 5 := ⟨by decide +kernel, rfl⟩
theorem cM_cut_5 : Dc yM_cut 5 (.aload_n 0) 1 6 := ⟨by decide +kernel, rfl⟩
theorem cM_cut_6 : Dc yM_cut 6 (.iload_n 1) 1 7 := ⟨by decide +kernel, rfl⟩
theorem cM_cut_7 : Dc yM_cut 7 (.invokevirtual 134) 3 10 := ⟨by decide +kernel, rfl⟩
theorem cM_cut_10 : Db yM_cut 10 (.ifCond .eq 5) 3 13 (5) 15 := ⟨by decide +kernel, rfl, by decide⟩
theorem cM_cut_13 : Dc yM_cut 13 (.iconst (-1)) 1 14 := ⟨by decide +kernel, rfl⟩
theorem cM_cut_14 : Dc yM_cut 14 (.ireturn) 1 15 := ⟨by decide +kernel, rfl⟩
theorem cM_cut_15 : Dc yM_cut 15 (.aload_n 0) 1 16 := ⟨by decide +kernel, rfl⟩
theorem cM_cut_16 : Dc yM_cut 16 (.invokevirtual 144) 3 19 := ⟨by decide +kernel, rfl⟩
theorem cM_cut_19 : Dc yM_cut 19 (.aload_n 0) 1 20 := ⟨by decide +kernel, rfl⟩
theorem cM_cut_20 : Dc yM_cut 20 (.getfield 29) 3 23 := ⟨by decide +kernel, rfl⟩
theorem cM_cut_23 : Dc yM_cut 23 (.iconst 0) 1 24 := ⟨by decide +kernel, rfl⟩
theorem cM_cut_24 : Dc yM_cut 24 (.iload_n 1) 1 25 := ⟨by decide +kernel, rfl⟩
theorem cM_cut_25 : Dc yM_cut 25 (.iastore) 1 26 := ⟨by decide +kernel, rfl⟩
theorem cM_cut_26 : Dc yM_cut 26 (.iload_n 1) 1 27 := ⟨by decide +kernel, rfl⟩
theorem cM_cut_27 : Dc yM_cut 27 (.ireturn) 1 28 := ⟨by decide +kernel, rfl⟩
theorem cM_turn_0 : Dc yM_turn 0 (.aload_n 0) 1 1 := ⟨by decide +kernel, rfl⟩
theorem cM_turn_1 : Dc yM_turn 1 (.iconst 0) 1 2 := ⟨by decide +kernel, rfl⟩
theorem cM_turn_2 : Dc yM_turn 2 (.putfield 66) 3 5 := ⟨by decide +kernel, rfl⟩
theorem cM_turn_5 : Dc yM_turn 5 (.iload_n 1) 1 6 := ⟨by decide +kernel, rfl⟩
theorem cM_turn_6 : Dc yM_turn 6 (.i2l) 1 7 := ⟨by decide +kernel, rfl⟩
theorem cM_turn_7 : Dc yM_turn 7 (.ldc2_w 147) 3 10 := ⟨by decide +kernel, rfl⟩
theorem cM_turn_10 : Dc yM_turn 10 (.ldc2_w 149) 3 13 := ⟨by decide +kernel, rfl⟩
theorem cM_turn_13 : Dc yM_turn 13 (.invokestatic 69) 3 16 := ⟨by decide +kernel, rfl⟩
theorem cM_turn_16 : Db yM_turn 16 (.ifCond .eq 17) 3 19 (17) 33 := ⟨by decide +kernel, rfl, by decide⟩
theorem cM_turn_19 : Dc yM_turn 19 (.iload_n 2) 1 20 := ⟨by decide +kernel, rfl⟩
theorem cM_turn_20 : Dc yM_turn 20 (.i2l) 1 21 := ⟨by decide +kernel, rfl⟩
theorem cM_turn_21 : Dc yM_turn 21 (.ldc2_w 147) 3 24 := ⟨by decide +kernel, rfl⟩
theorem cM_turn_24 : Dc yM_turn 24 (.ldc2_w 149) 3 27 := ⟨by decide +kernel, rfl⟩
theorem cM_turn_27 : Dc yM_turn 27 (.invokestatic 69) 3 30 := ⟨by decide +kernel, rfl⟩
theorem cM_turn_30 : Db yM_turn 30 (.ifCond .ne 6) 3 33 (6) 36 := ⟨by decide +kernel, rfl, by decide⟩
theorem cM_turn_33 : Dc yM_turn 33 (.bipush (-2)) 2 35 := ⟨by decide +kernel, rfl⟩
theorem cM_turn_35 : Dc yM_turn 35 (.ireturn) 1 36 := ⟨by decide +kernel, rfl⟩
theorem cM_turn_36 : Dc yM_turn 36 (.aload_n 0) 1 37 := ⟨by decide +kernel, rfl⟩
theorem cM_turn_37 : Dc yM_turn 37 (.getfield 29) 3 40 := ⟨by decide +kernel, rfl⟩
theorem cM_turn_40 : Dc yM_turn 40 (.iconst 1) 1 41 := ⟨by decide +kernel, rfl⟩
theorem cM_turn_41 : Dc yM_turn 41 (.iaload) 1 42 := ⟨by decide +kernel, rfl⟩
theorem cM_turn_42 : Dc yM_turn 42 (.iload_n 1) 1 43 := ⟨by decide +kernel, rfl⟩
theorem cM_turn_43 : Db yM_turn 43 (.if_icmp .ne 16) 3 46 (16) 59 := ⟨by decide +kernel, rfl, by decide⟩
theorem cM_turn_46 : Dc yM_turn 46 (.aload_n 0) 1 47 := ⟨by decide +kernel, rfl⟩
theorem cM_turn_47 : Dc yM_turn 47 (.getfield 29) 3 50 := ⟨by decide +kernel, rfl⟩
theorem cM_turn_50 : Dc yM_turn 50 (.iconst 2) 1 51 := ⟨by decide +kernel, rfl⟩
theorem cM_turn_51 : Dc yM_turn 51 (.iaload) 1 52 := ⟨by decide +kernel, rfl⟩
theorem cM_turn_52 : Dc yM_turn 52 (.iload_n 2) 1 53 := ⟨by decide +kernel, rfl⟩
theorem cM_turn_53 : Db yM_turn 53 (.if_icmp .ne 6) 3 56 (6) 59 := ⟨by decide +kernel, rfl, by decide⟩
theorem cM_turn_56 : Dc yM_turn 56 (.bipush (-3)) 2 58 := ⟨by decide +kernel, rfl⟩
theorem cM_turn_58 : Dc yM_turn 58 (.ireturn) 1 59 := ⟨by decide +kernel, rfl⟩
theorem cM_turn_59 : Dc yM_turn 59 (.bipush 10) 2 61 := ⟨by decide +kernel, rfl⟩
theorem cM_turn_61 : Dc yM_turn 61 (.aload_n 0) 1 62 := ⟨by decide +kernel, rfl⟩
theorem cM_turn_62 : Dc yM_turn 62 (.getfield 29) 3 65 := ⟨by decide +kernel, rfl⟩
theorem cM_turn_65 : Dc yM_turn 65 (.iconst 1) 1 66 := ⟨by decide +kernel, rfl⟩
theorem cM_turn_66 : Dc yM_turn 66 (.iaload) 1 67 := ⟨by decide +kernel, rfl⟩
theorem cM_turn_67 : Dc yM_turn 67 (.iconst 2) 1 68 := ⟨by decide +kernel, rfl⟩
theorem cM_turn_68 : Dc yM_turn 68 (.iadd) 1 69 := ⟨by decide +kernel, rfl⟩
theorem cM_turn_69 : Dc yM_turn 69 (.imul) 1 70 := ⟨by decide +kernel, rfl⟩
theorem cM_turn_70 : Dc yM_turn 70 (.aload_n 0) 1 71 := ⟨by decide +kernel, rfl⟩
theorem cM_turn_71 : Dc yM_turn 71 (.getfield 29) 3 74 := ⟨by decide +kernel, rfl⟩
theorem cM_turn_74 : Dc yM_turn 74 (.iconst 2) 1 75 := ⟨by decide +kernel, rfl⟩
theorem cM_turn_75 : Dc yM_turn 75 (.iaload) 1 76 := ⟨by decide +kernel, rfl⟩
theorem cM_turn_76 : Dc yM_turn 76 (.iadd) 1 77 := ⟨by decide +kernel, rfl⟩
theorem cM_turn_77 : Dc yM_turn 77 (.iconst 2) 1 78 := ⟨by decide +kernel, rfl⟩
theorem cM_turn_78 : Dc yM_turn 78 (.iadd) 1 79 := ⟨by decide +kernel, rfl⟩
theorem cM_turn_79 : Dc yM_turn 79 (.istore_n 3) 1 80 := ⟨by decide +kernel, rfl⟩
theorem cM_turn_80 : Dc yM_turn 80 (.aload_n 0) 1 81 := ⟨by decide +kernel, rfl⟩
theorem cM_turn_81 : Dc yM_turn 81 (.invokevirtual 144) 3 84 := ⟨by decide +kernel, rfl⟩
theorem cM_turn_84 : Dc yM_turn 84 (.aload_n 0) 1 85 := ⟨by decide +kernel, rfl⟩
theorem cM_turn_85 : Dc yM_turn 85 (.getfield 29) 3 88 := ⟨by decide +kernel, rfl⟩
theorem cM_turn_88 : Dc yM_turn 88 (.iconst 1) 1 89 := ⟨by decide +kernel, rfl⟩
theorem cM_turn_89 : Dc yM_turn 89 (.iload_n 1) 1 90 := ⟨by decide +kernel, rfl⟩
theorem cM_turn_90 : Dc yM_turn 90 (.iastore) 1 91 := ⟨by decide +kernel, rfl⟩
theorem cM_turn_91 : Dc yM_turn 91 (.aload_n 0) 1 92 := ⟨by decide +kernel, rfl⟩
theorem cM_turn_92 : Dc yM_turn 92 (.getfield 29) 3 95 := ⟨by decide +kernel, rfl⟩
theorem cM_turn_95 : Dc yM_turn 95 (.iconst 2) 1 96 := ⟨by decide +kernel, rfl⟩
theorem cM_turn_96 : Dc yM_turn 96 (.iload_n 2) 1 97 := ⟨by decide +kernel, rfl⟩
theorem cM_turn_97 : Dc yM_turn 97 (.iastore) 1 98 := ⟨by decide +kernel, rfl⟩
theorem cM_turn_98 : Dc yM_turn 98 (.iload_n 3) 1 99 := ⟨by decide +kernel, rfl⟩
theorem cM_turn_99 : Dc yM_turn 99 (.ireturn) 1 100 := ⟨by decide +kernel, rfl⟩
theorem cM_undo_0 : Dc yM_undo 0 (.aload_n 0) 1 1 := ⟨by decide +kernel, rfl⟩
theorem cM_undo_1 : Dc yM_undo 1 (.iconst 0) 1 2 := ⟨by decide +kernel, rfl⟩
theorem cM_undo_2 : Dc yM_undo 2 (.putfield 66) 3 5 := ⟨by decide +kernel, rfl⟩
theorem cM_undo_5 : Dc yM_undo 5 (.aload_n 0) 1 6 := ⟨by decide +kernel, rfl⟩
theorem cM_undo_6 : Dc yM_undo 6 (.getfield 111) 3 9 := ⟨by decide +kernel, rfl⟩
theorem cM_undo_9 : Db yM_undo 9 (.ifCond .ne 6) 3 12 (6) 15 := ⟨by decide +kernel, rfl, by decide⟩
theorem cM_undo_12 : Dc yM_undo 12 (.bipush (-3)) 2 14 := ⟨by decide +kernel, rfl⟩
theorem cM_undo_14 : Dc yM_undo 14 (.ireturn) 1 15 := ⟨by decide +kernel, rfl⟩
theorem cM_undo_15 : Dc yM_undo 15 (.aload_n 0) 1 16 := ⟨by decide +kernel, rfl⟩
theorem cM_undo_16 : Dc yM_undo 16 (.dup) 1 17 := ⟨by decide +kernel, rfl⟩
theorem cM_undo_17 : Dc yM_undo 17 (.getfield 111) 3 20 := ⟨by decide +kernel, rfl⟩
theorem cM_undo_20 : Dc yM_undo 20 (.iconst 1) 1 21 := ⟨by decide +kernel, rfl⟩
theorem cM_undo_21 : Dc yM_undo 21 (.isub) 1 22 := ⟨by decide +kernel, rfl⟩
theorem cM_undo_22 : Dc yM_undo 22 (.putfield 111) 3 25 := ⟨by decide +kernel, rfl⟩
theorem cM_undo_25 : Dc yM_undo 25 (.iconst 0) 1 26 := ⟨by decide +kernel, rfl⟩
theorem cM_undo_26 : Dc yM_undo 26 (.istore_n 1) 1 27 := ⟨by decide +kernel, rfl⟩
theorem cM_undo_27 : Dc yM_undo 27 (.iload_n 1) 1 28 := ⟨by decide +kernel, rfl⟩
theorem cM_undo_28 : Dc yM_undo 28 (.bipush 13) 2 30 := ⟨by decide +kernel, rfl⟩
theorem cM_undo_30 : Db yM_undo 30 (.if_icmp .ge 29) 3 33 (29) 59 := ⟨by decide +kernel, rfl, by decide⟩
theorem cM_undo_33 : Dc yM_undo 33 (.aload_n 0) 1 34 := ⟨by decide +kernel, rfl⟩
theorem cM_undo_34 : Dc yM_undo 34 (.getfield 29) 3 37 := ⟨by decide +kernel, rfl⟩
theorem cM_undo_37 : Dc yM_undo 37 (.iload_n 1) 1 38 := ⟨by decide +kernel, rfl⟩
theorem cM_undo_38 : Dc yM_undo 38 (.aload_n 0) 1 39 := ⟨by decide +kernel, rfl⟩
theorem cM_undo_39 : Dc yM_undo 39 (.getfield 35) 3 42 := ⟨by decide +kernel, rfl⟩
theorem cM_undo_42 : Dc yM_undo 42 (.bipush 13) 2 44 := ⟨by decide +kernel, rfl⟩
theorem cM_undo_44 : Dc yM_undo 44 (.aload_n 0) 1 45 := ⟨by decide +kernel, rfl⟩
theorem cM_undo_45 : Dc yM_undo 45 (.getfield 111) 3 48 := ⟨by decide +kernel, rfl⟩
theorem cM_undo_48 : Dc yM_undo 48 (.imul) 1 49 := ⟨by decide +kernel, rfl⟩
theorem cM_undo_49 : Dc yM_undo 49 (.iload_n 1) 1 50 := ⟨by decide +kernel, rfl⟩
theorem cM_undo_50 : Dc yM_undo 50 (.iadd) 1 51 := ⟨by decide +kernel, rfl⟩
theorem cM_undo_51 : Dc yM_undo 51 (.iaload) 1 52 := ⟨by decide +kernel, rfl⟩
theorem cM_undo_52 : Dc yM_undo 52 (.iastore) 1 53 := ⟨by decide +kernel, rfl⟩
theorem cM_undo_53 : Dc yM_undo 53 (.iinc 1 1) 3 56 := ⟨by decide +kernel, rfl⟩
theorem cM_undo_56 : Db yM_undo 56 (.goto (-29)) 3 59 (-29) 27 := ⟨by decide +kernel, rfl, by decide⟩
theorem cM_undo_59 : Dc yM_undo 59 (.aload_n 0) 1 60 := ⟨by decide +kernel, rfl⟩
theorem cM_undo_60 : Dc yM_undo 60 (.getfield 111) 3 63 := ⟨by decide +kernel, rfl⟩
theorem cM_undo_63 : Dc yM_undo 63 (.ireturn) 1 64 := ⟨by decide +kernel, rfl⟩
theorem cM_sees_0 : Dc yM_sees 0 (.aload_n 0) 1 1 := ⟨by decide +kernel, rfl⟩
theorem cM_sees_1 : Dc yM_sees 1 (.iconst 0) 1 2 := ⟨by decide +kernel, rfl⟩
theorem cM_sees_2 : Dc yM_sees 2 (.putfield 66) 3 5 := ⟨by decide +kernel, rfl⟩
theorem cM_sees_5 : Dc yM_sees 5 (.iload_n 1) 1 6 := ⟨by decide +kernel, rfl⟩
theorem cM_sees_6 : Dc yM_sees 6 (.i2l) 1 7 := ⟨by decide +kernel, rfl⟩
theorem cM_sees_7 : Dc yM_sees 7 (.ldc2_w 151) 3 10 := ⟨by decide +kernel, rfl⟩
theorem cM_sees_10 : Dc yM_sees 10 (.ldc2_w 153) 3 13 := ⟨by decide +kernel, rfl⟩
theorem cM_sees_13 : Dc yM_sees 13 (.invokestatic 69) 3 16 := ⟨by decide +kernel, rfl⟩
theorem cM_sees_16 : Db yM_sees 16 (.ifCond .ne 6) 3 19 (6) 22 := ⟨by decide +kernel, rfl, by decide⟩
theorem cM_sees_19 : Dc yM_sees 19 (.bipush (-2)) 2 21 := ⟨by decide +kernel, rfl⟩
theorem cM_sees_21 : Dc yM_sees 21 (.ireturn) 1 22 := ⟨by decide +kernel, rfl⟩
theorem cM_sees_22 : Dc yM_sees 22 (.aload_n 0) 1 23 := ⟨by decide +kernel, rfl⟩
theorem cM_sees_23 : Dc yM_sees 23 (.invokevirtual 124) 3 26 := ⟨by decide +kernel, rfl⟩
theorem cM_sees_26 : Dc yM_sees 26 (.aload_n 0) 1 27 := ⟨by decide +kernel, rfl⟩
theorem cM_sees_27 : Dc yM_sees 27 (.aload_n 0) 1 28 := ⟨by decide +kernel, rfl⟩
theorem cM_sees_28 : Dc yM_sees 28 (.getfield 29) 3 31 := ⟨by decide +kernel, rfl⟩
theorem cM_sees_31 : Dc yM_sees 31 (.iload_n 1) 1 32 := ⟨by decide +kernel, rfl⟩
theorem cM_sees_32 : Dc yM_sees 32 (.invokevirtual 155) 3 35 := ⟨by decide +kernel, rfl⟩
theorem cM_sees_35 : Db yM_sees 35 (.ifCond .eq 7) 3 38 (7) 42 := ⟨by decide +kernel, rfl, by decide⟩
theorem cM_sees_38 : Dc yM_sees 38 (.iconst 1) 1 39 := ⟨by decide +kernel, rfl⟩
theorem cM_sees_39 : Db yM_sees 39 (.goto 4) 3 42 (4) 43 := ⟨by decide +kernel, rfl, by decide⟩
theorem cM_sees_42 : Dc yM_sees 42 (.iconst 0) 1 43 := ⟨by decide +kernel, rfl⟩
theorem cM_sees_43 : Dc yM_sees 43 (.ireturn) 1 44 := ⟨by decide +kernel, rfl⟩
theorem cM_doesSee_0 : Dc yM_doesSee 0 (.aload_n 1) 1 1 := ⟨by decide +kernel, rfl⟩
theorem cM_doesSee_1 : Dc yM_doesSee 1 (.iconst 0) 1 2 := ⟨by decide +kernel, rfl⟩
theorem cM_doesSee_2 : Dc yM_doesSee 2 (.iaload) 1 3 := ⟨by decide +kernel, rfl⟩
theorem cM_doesSee_3 : Dc yM_doesSee 3 (.iconst 1) 1 4 := ⟨by decide +kernel, rfl⟩
theorem cM_doesSee_4 : Dc yM_doesSee 4 (.isub) 1 5 := ⟨by decide +kernel, rfl⟩
theorem cM_doesSee_5 : Dc yM_doesSee 5 (.istore_n 3) 1 6 := ⟨by decide +kernel, rfl⟩
theorem cM_doesSee_6 : Dc yM_doesSee 6 (.iload_n 3) 1 7 := ⟨by decide +kernel, rfl⟩
theorem cM_doesSee_7 : Db yM_doesSee 7 (.ifCond .lt 35) 3 10 (35) 42 := ⟨by decide +kernel, rfl, by decide⟩
theorem cM_doesSee_10 : Dc yM_doesSee 10 (.aload_n 0) 1 11 := ⟨by decide +kernel, rfl⟩
theorem cM_doesSee_11 : Dc yM_doesSee 11 (.getfield 114) 3 14 := ⟨by decide +kernel, rfl⟩
theorem cM_doesSee_14 : Db yM_doesSee 14 (.ifCond .ne 28) 3 17 (28) 42 := ⟨by decide +kernel, rfl, by decide⟩
theorem cM_doesSee_17 : Dc yM_doesSee 17 (.aload_n 0) 1 18 := ⟨by decide +kernel, rfl⟩
theorem cM_doesSee_18 : Dc yM_doesSee 18 (.getfield 57) 3 21 := ⟨by decide +kernel, rfl⟩
theorem cM_doesSee_21 : Dc yM_doesSee 21 (.iload_n 3) 1 22 := ⟨by decide +kernel, rfl⟩
theorem cM_doesSee_22 : Dc yM_doesSee 22 (.iaload) 1 23 := ⟨by decide +kernel, rfl⟩
theorem cM_doesSee_23 : Dc yM_doesSee 23 (.iload_n 2) 1 24 := ⟨by decide +kernel, rfl⟩
theorem cM_doesSee_24 : Dc yM_doesSee 24 (.invokestatic 117) 3 27 := ⟨by decide +kernel, rfl⟩
theorem cM_doesSee_27 : Dc yM_doesSee 27 (.aload_n 0) 1 28 := ⟨by decide +kernel, rfl⟩
theorem cM_doesSee_28 : Dc yM_doesSee 28 (.getfield 51) 3 31 := ⟨by decide +kernel, rfl⟩
theorem cM_doesSee_31 : Dc yM_doesSee 31 (.iload_n 3) 1 32 := ⟨by decide +kernel, rfl⟩
theorem cM_doesSee_32 : Dc yM_doesSee 32 (.iaload) 1 33 := ⟨by decide +kernel, rfl⟩
theorem cM_doesSee_33 : Dc yM_doesSee 33 (.iconst 4) 1 34 := ⟨by decide +kernel, rfl⟩
theorem cM_doesSee_34 : Dc yM_doesSee 34 (.idiv) 1 35 := ⟨by decide +kernel, rfl⟩
theorem cM_doesSee_35 : Db yM_doesSee 35 (.if_icmp .gt 7) 3 38 (7) 42 := ⟨by decide +kernel, rfl, by decide⟩
theorem cM_doesSee_38 : Dc yM_doesSee 38 (.iconst 1) 1 39 := ⟨by decide +kernel, rfl⟩
theorem cM_doesSee_39 : Db yM_doesSee 39 (.goto 4) 3 42 (4) 43 := ⟨by decide +kernel, rfl, by decide⟩
theorem cM_doesSee_42 : Dc yM_doesSee 42 (.iconst 0) 1 43 := ⟨by decide +kernel, rfl⟩
theorem cM_doesSee_43 : Dc yM_doesSee 43 (.ireturn) 1 44 := ⟨by decide +kernel, rfl⟩
theorem cM_cheapest_0 : Dc yM_cheapest 0 (.aload_n 0) 1 1 := ⟨by decide +kernel, rfl⟩
theorem cM_cheapest_1 : Dc yM_cheapest 1 (.iconst 0) 1 2 := ⟨by decide +kernel, rfl⟩
theorem cM_cheapest_2 : Dc yM_cheapest 2 (.putfield 66) 3 5 := ⟨by decide +kernel, rfl⟩
theorem cM_cheapest_5 : Dc yM_cheapest 5 (.iload_n 1) 1 6 := ⟨by decide +kernel, rfl⟩
theorem cM_cheapest_6 : Dc yM_cheapest 6 (.iload_n 2) 1 7 := ⟨by decide +kernel, rfl⟩
theorem cM_cheapest_7 : Dc yM_cheapest 7 (.invokestatic 171) 3 10 := ⟨by decide +kernel, rfl⟩
theorem cM_cheapest_10 : Db yM_cheapest 10 (.ifCond .eq 6) 3 13 (6) 16 := ⟨by decide +kernel, rfl, by decide⟩
theorem cM_cheapest_13 : Dc yM_cheapest 13 (.bipush (-2)) 2 15 := ⟨by decide +kernel, rfl⟩
theorem cM_cheapest_15 : Dc yM_cheapest 15 (.ireturn) 1 16 := ⟨by decide +kernel, rfl⟩
theorem cM_cheapest_16 : Dc yM_cheapest 16 (.aload_n 0) 1 17 := ⟨by decide +kernel, rfl⟩
theorem cM_cheapest_17 : Dc yM_cheapest 17 (.iload_n 1) 1 18 := ⟨by decide +kernel, rfl⟩
theorem cM_cheapest_18 : Dc yM_cheapest 18 (.iconst 1) 1 19 := ⟨by decide +kernel, rfl⟩
theorem cM_cheapest_19 : Dc yM_cheapest 19 (.invokevirtual 175) 3 22 := ⟨by decide +kernel, rfl⟩
theorem cM_cheapest_22 : Dc yM_cheapest 22 (.aload_n 0) 1 23 := ⟨by decide +kernel, rfl⟩
theorem cM_cheapest_23 : Dc yM_cheapest 23 (.getfield 159) 3 26 := ⟨by decide +kernel, rfl⟩
theorem cM_cheapest_26 : Dc yM_cheapest 26 (.bipush (-9)) 2 28 := ⟨by decide +kernel, rfl⟩
theorem cM_cheapest_28 : Db yM_cheapest 28 (.if_icmp .ne 8) 3 31 (8) 36 := ⟨by decide +kernel, rfl, by decide⟩
theorem cM_cheapest_31 : Dc yM_cheapest 31 (.bipush (-9)) 2 33 := ⟨by decide +kernel, rfl⟩
theorem cM_cheapest_33 : Db yM_cheapest 33 (.goto 18) 3 36 (18) 51 := ⟨by decide +kernel, rfl, by decide⟩
theorem cM_cheapest_36 : Dc yM_cheapest 36 (.iload_n 2) 1 37 := ⟨by decide +kernel, rfl⟩
theorem cM_cheapest_37 : Db yM_cheapest 37 (.ifCond .ne 10) 3 40 (10) 47 := ⟨by decide +kernel, rfl, by decide⟩
theorem cM_cheapest_40 : Dc yM_cheapest 40 (.aload_n 0) 1 41 := ⟨by decide +kernel, rfl⟩
theorem cM_cheapest_41 : Dc yM_cheapest 41 (.getfield 162) 3 44 := ⟨by decide +kernel, rfl⟩
theorem cM_cheapest_44 : Db yM_cheapest 44 (.goto 7) 3 47 (7) 51 := ⟨by decide +kernel, rfl, by decide⟩
theorem cM_cheapest_47 : Dc yM_cheapest 47 (.aload_n 0) 1 48 := ⟨by decide +kernel, rfl⟩
theorem cM_cheapest_48 : Dc yM_cheapest 48 (.getfield 159) 3 51 := ⟨by decide +kernel, rfl⟩
theorem cM_cheapest_51 : Dc yM_cheapest 51 (.ireturn) 1 52 := ⟨by decide +kernel, rfl⟩
theorem cM_noSpot_0 : Dc yM_noSpot 0 (.iload_n 0) 1 1 := ⟨by decide +kernel, rfl⟩
theorem cM_noSpot_1 : Dc yM_noSpot 1 (.i2l) 1 2 := ⟨by decide +kernel, rfl⟩
theorem cM_noSpot_2 : Dc yM_noSpot 2 (.ldc2_w 151) 3 5 := ⟨by decide +kernel, rfl⟩
theorem cM_noSpot_5 : Dc yM_noSpot 5 (.ldc2_w 153) 3 8 := ⟨by decide +kernel, rfl⟩
theorem cM_noSpot_8 : Dc yM_noSpot 8 (.invokestatic 69) 3 11 := ⟨by decide +kernel, rfl⟩
theorem cM_noSpot_11 : Db yM_noSpot 11 (.ifCond .eq 13) 3 14 (13) 24 := ⟨by decide +kernel, rfl, by decide⟩
theorem cM_noSpot_14 : Dc yM_noSpot 14 (.iload_n 1) 1 15 := ⟨by decide +kernel, rfl⟩
theorem cM_noSpot_15 : Dc yM_noSpot 15 (.i2l) 1 16 := ⟨by decide +kernel, rfl⟩
theorem cM_noSpot_16 : Dc yM_noSpot 16 (.lconst 0) 1 17 := ⟨by decide +kernel, rfl⟩
theorem cM_noSpot_17 : Dc yM_noSpot 17 (.lconst 1) 1 18 := ⟨by decide +kernel, rfl⟩
theorem cM_noSpot_18 : Dc yM_noSpot 18 (.invokestatic 69) 3 21 := ⟨by decide +kernel, rfl⟩
theorem cM_noSpot_21 : Db yM_noSpot 21 (.ifCond .ne 7) 3 24 (7) 28 := ⟨by decide +kernel, rfl, by decide⟩
theorem cM_noSpot_24 : Dc yM_noSpot 24 (.iconst 1) 1 25 := ⟨by decide +kernel, rfl⟩
theorem cM_noSpot_25 : Db yM_noSpot 25 (.goto 4) 3 28 (4) 29 := ⟨by decide +kernel, rfl, by decide⟩
theorem cM_noSpot_28 : Dc yM_noSpot 28 (.iconst 0) 1 29 := ⟨by decide +kernel, rfl⟩
theorem cM_noSpot_29 : Dc yM_noSpot 29 (.ireturn) 1 30 := ⟨by decide +kernel, rfl⟩
theorem cM_findWay_0 : Dc yM_findWay 0 (.aload_n 0) 1 1 := ⟨by decide +kernel, rfl⟩
theorem cM_findWay_1 : Dc yM_findWay 1 (.getfield 29) 3 4 := ⟨by decide +kernel, rfl⟩
theorem cM_findWay_4 : Dc yM_findWay 4 (.iconst 0) 1 5 := ⟨by decide +kernel, rfl⟩
theorem cM_findWay_5 : Dc yM_findWay 5 (.iaload) 1 6 := ⟨by decide +kernel, rfl⟩
theorem cM_findWay_6 : Dc yM_findWay 6 (.istore_n 3) 1 7 := ⟨by decide +kernel, rfl⟩
theorem cM_findWay_7 : Dc yM_findWay 7 (.iload_n 2) 1 8 := ⟨by decide +kernel, rfl⟩
theorem cM_findWay_8 : Db yM_findWay 8 (.ifCond .eq 7) 3 11 (7) 15 := ⟨by decide +kernel, rfl, by decide⟩
theorem cM_findWay_11 : Dc yM_findWay 11 (.iconst 4) 1 12 := ⟨by decide +kernel, rfl⟩
theorem cM_findWay_12 : Db yM_findWay 12 (.goto 4) 3 15 (4) 16 := ⟨by decide +kernel, rfl, by decide⟩
theorem cM_findWay_15 : Dc yM_findWay 15 (.iconst 5) 1 16 := ⟨by decide +kernel, rfl⟩
theorem cM_findWay_16 : Dc yM_findWay 16 (.istore 4) 2 18 := ⟨by decide +kernel, rfl⟩
theorem cM_findWay_18 : Dc yM_findWay 18 (.aload_n 0) 1 19 := ⟨by decide +kernel, rfl⟩
theorem cM_findWay_19 : Dc yM_findWay 19 (.bipush (-9)) 2 21 := ⟨by decide +kernel, rfl⟩
theorem cM_findWay_21 : Dc yM_findWay 21 (.putfield 159) 3 24 := ⟨by decide +kernel, rfl⟩
theorem cM_findWay_24 : Dc yM_findWay 24 (.aload_n 0) 1 25 := ⟨by decide +kernel, rfl⟩
theorem cM_findWay_25 : Dc yM_findWay 25 (.sipush 9999) 3 28 := ⟨by decide +kernel, rfl⟩
theorem cM_findWay_28 : Dc yM_findWay 28 (.putfield 162) 3 31 := ⟨by decide +kernel, rfl⟩
theorem cM_findWay_31 : Dc yM_findWay 31 (.iconst 0) 1 32 := ⟨by decide +kernel, rfl⟩
theorem cM_findWay_32 : Dc yM_findWay 32 (.istore 5) 2 34 := ⟨by decide +kernel, rfl⟩
theorem cM_findWay_34 : Dc yM_findWay 34 (.iload 5) 2 36 := ⟨by decide +kernel, rfl⟩
theorem cM_findWay_36 : Dc yM_findWay 36 (.iload 4) 2 38 := ⟨by decide +kernel, rfl⟩
theorem cM_findWay_38 : Dc yM_findWay 38 (.iload_n 3) 1 39 := ⟨by decide +kernel, rfl⟩
theorem cM_findWay_39 : Dc yM_findWay 39 (.invokestatic 165) 3 42 := ⟨by decide +kernel, rfl⟩
theorem cM_findWay_42 : Db yM_findWay 42 (.if_icmp .ge 220) 3 45 (220) 262 := ⟨by decide +kernel, rfl, by decide⟩
theorem cM_findWay_45 : Dc yM_findWay 45 (.iload_n 3) 1 46 := ⟨by decide +kernel, rfl⟩
theorem cM_findWay_46 : Db yM_findWay 46 (.ifCond .le 216) 3 49 (216) 262 := ⟨by decide +kernel, rfl, by decide⟩
theorem cM_findWay_49 : Dc yM_findWay 49 (.aload_n 0) 1 50 := ⟨by decide +kernel, rfl⟩
theorem cM_findWay_50 : Dc yM_findWay 50 (.invokevirtual 168) 3 53 := ⟨by decide +kernel, rfl⟩
theorem cM_findWay_53 : Dc yM_findWay 53 (.iconst 0) 1 54 := ⟨by decide +kernel, rfl⟩
theorem cM_findWay_54 : Dc yM_findWay 54 (.istore 6) 2 56 := ⟨by decide +kernel, rfl⟩
theorem cM_findWay_56 : Dc yM_findWay 56 (.iconst 0) 1 57 := ⟨by decide +kernel, rfl⟩
theorem cM_findWay_57 : Dc yM_findWay 57 (.istore 7) 2 59 := ⟨by decide +kernel, rfl⟩
theorem cM_findWay_59 : Dc yM_findWay 59 (.iconst 1) 1 60 := ⟨by decide +kernel, rfl⟩
theorem cM_findWay_60 : Dc yM_findWay 60 (.istore 8) 2 62 := ⟨by decide +kernel, rfl⟩
theorem cM_findWay_62 : Dc yM_findWay 62 (.iconst 0) 1 63 := ⟨by decide +kernel, rfl⟩
theorem cM_findWay_63 : Dc yM_findWay 63 (.istore 9) 2 65 := ⟨by decide +kernel, rfl⟩
theorem cM_findWay_65 : Dc yM_findWay 65 (.iload 9) 2 67 := ⟨by decide +kernel, rfl⟩
theorem cM_findWay_67 : Dc yM_findWay 67 (.iload_n 3) 1 68 := ⟨by decide +kernel, rfl⟩
theorem cM_findWay_68 : Db yM_findWay 68 (.if_icmp .ge 138) 3 71 (138) 206 := ⟨by decide +kernel, rfl, by decide⟩
theorem cM_findWay_71 : Dc yM_findWay 71 (.iload 5) 2 73 := ⟨by decide +kernel, rfl⟩
theorem cM_findWay_73 : Dc yM_findWay 73 (.iload 4) 2 75 := ⟨by decide +kernel, rfl⟩
theorem cM_findWay_75 : Dc yM_findWay 75 (.iload_n 3) 1 76 := ⟨by decide +kernel, rfl⟩
theorem cM_findWay_76 : Dc yM_findWay 76 (.iconst 1) 1 77 := ⟨by decide +kernel, rfl⟩
theorem cM_findWay_77 : Dc yM_findWay 77 (.isub) 1 78 := ⟨by decide +kernel, rfl⟩
theorem cM_findWay_78 : Dc yM_findWay 78 (.iload 9) 2 80 := ⟨by decide +kernel, rfl⟩
theorem cM_findWay_80 : Dc yM_findWay 80 (.isub) 1 81 := ⟨by decide +kernel, rfl⟩
theorem cM_findWay_81 : Dc yM_findWay 81 (.invokestatic 165) 3 84 := ⟨by decide +kernel, rfl⟩
theorem cM_findWay_84 : Dc yM_findWay 84 (.idiv) 1 85 := ⟨by decide +kernel, rfl⟩
theorem cM_findWay_85 : Dc yM_findWay 85 (.iload 4) 2 87 := ⟨by decide +kernel, rfl⟩
theorem cM_findWay_87 : Dc yM_findWay 87 (.irem) 1 88 := ⟨by decide +kernel, rfl⟩
theorem cM_findWay_88 : Dc yM_findWay 88 (.istore 10) 2 90 := ⟨by decide +kernel, rfl⟩
theorem cM_findWay_90 : Dc yM_findWay 90 (.bipush 10) 2 92 := ⟨by decide +kernel, rfl⟩
theorem cM_findWay_92 : Dc yM_findWay 92 (.iload 7) 2 94 := ⟨by decide +kernel, rfl⟩
theorem cM_findWay_94 : Dc yM_findWay 94 (.imul) 1 95 := ⟨by decide +kernel, rfl⟩
theorem cM_findWay_95 : Dc yM_findWay 95 (.iload 10) 2 97 := ⟨by decide +kernel, rfl⟩
theorem cM_findWay_97 : Dc yM_findWay 97 (.iadd) 1 98 := ⟨by decide +kernel, rfl⟩
theorem cM_findWay_98 : Dc yM_findWay 98 (.istore 7) 2 100 := ⟨by decide +kernel, rfl⟩
theorem cM_findWay_100 : Dc yM_findWay 100 (.iload_n 2) 1 101 := ⟨by decide +kernel, rfl⟩
theorem cM_findWay_101 : Db yM_findWay 101 (.ifCond .eq 58) 3 104 (58) 159 := ⟨by decide +kernel, rfl, by decide⟩
theorem cM_findWay_104 : Dc yM_findWay 104 (.aload_n 0) 1 105 := ⟨by decide +kernel, rfl⟩
theorem cM_findWay_105 : Dc yM_findWay 105 (.getfield 32) 3 108 := ⟨by decide +kernel, rfl⟩
theorem cM_findWay_108 : Dc yM_findWay 108 (.iconst 3) 1 109 := ⟨by decide +kernel, rfl⟩
theorem cM_findWay_109 : Dc yM_findWay 109 (.iload 9) 2 111 := ⟨by decide +kernel, rfl⟩
theorem cM_findWay_111 : Dc yM_findWay 111 (.iadd) 1 112 := ⟨by decide +kernel, rfl⟩
theorem cM_findWay_112 : Dc yM_findWay 112 (.dup2) 1 113 := ⟨by decide +kernel, rfl⟩
theorem cM_findWay_113 : Dc yM_findWay 113 (.iaload) 1 114 := ⟨by decide +kernel, rfl⟩
theorem cM_findWay_114 : Dc yM_findWay 114 (.iload 10) 2 116 := ⟨by decide +kernel, rfl⟩
theorem cM_findWay_116 : Dc yM_findWay 116 (.iadd) 1 117 := ⟨by decide +kernel, rfl⟩
theorem cM_findWay_117 : Dc yM_findWay 117 (.iastore) 1 118 := ⟨by decide +kernel, rfl⟩
theorem cM_findWay_118 : Dc yM_findWay 118 (.iload 6) 2 120 := ⟨by decide +kernel, rfl⟩
theorem cM_findWay_120 : Dc yM_findWay 120 (.iload 10) 2 122 := ⟨by decide +kernel, rfl⟩
theorem cM_findWay_122 : Dc yM_findWay 122 (.iadd) 1 123 := ⟨by decide +kernel, rfl⟩
theorem cM_findWay_123 : Dc yM_findWay 123 (.istore 6) 2 125 := ⟨by decide +kernel, rfl⟩
theorem cM_findWay_125 : Dc yM_findWay 125 (.iload 8) 2 127 := ⟨by decide +kernel, rfl⟩
theorem cM_findWay_127 : Db yM_findWay 127 (.ifCond .eq 26) 3 130 (26) 153 := ⟨by decide +kernel, rfl, by decide⟩
theorem cM_findWay_130 : Dc yM_findWay 130 (.iload 10) 2 132 := ⟨by decide +kernel, rfl⟩
theorem cM_findWay_132 : Db yM_findWay 132 (.ifCond .eq 17) 3 135 (17) 149 := ⟨by decide +kernel, rfl, by decide⟩
theorem cM_findWay_135 : Dc yM_findWay 135 (.aload_n 0) 1 136 := ⟨by decide +kernel, rfl⟩
theorem cM_findWay_136 : Dc yM_findWay 136 (.getfield 32) 3 139 := ⟨by decide +kernel, rfl⟩
theorem cM_findWay_139 : Dc yM_findWay 139 (.iconst 3) 1 140 := ⟨by decide +kernel, rfl⟩
theorem cM_findWay_140 : Dc yM_findWay 140 (.iload 9) 2 142 := ⟨by decide +kernel, rfl⟩
theorem cM_findWay_142 : Dc yM_findWay 142 (.iadd) 1 143 := ⟨by decide +kernel, rfl⟩
theorem cM_findWay_143 : Dc yM_findWay 143 (.iaload) 1 144 := ⟨by decide +kernel, rfl⟩
theorem cM_findWay_144 : Dc yM_findWay 144 (.bipush 30) 2 146 := ⟨by decide +kernel, rfl⟩
theorem cM_findWay_146 : Db yM_findWay 146 (.if_icmp .gt 7) 3 149 (7) 153 := ⟨by decide +kernel, rfl, by decide⟩
theorem cM_findWay_149 : Dc yM_findWay 149 (.iconst 1) 1 150 := ⟨by decide +kernel, rfl⟩
theorem cM_findWay_150 : Db yM_findWay 150 (.goto 4) 3 153 (4) 154 := ⟨by decide +kernel, rfl, by decide⟩
theorem cM_findWay_153 : Dc yM_findWay 153 (.iconst 0) 1 154 := ⟨by decide +kernel, rfl⟩
theorem cM_findWay_154 : Dc yM_findWay 154 (.istore 8) 2 156 := ⟨by decide +kernel, rfl⟩
theorem cM_findWay_156 : Db yM_findWay 156 (.goto 44) 3 159 (44) 200 := ⟨by decide +kernel, rfl, by decide⟩
theorem cM_findWay_159 : Dc yM_findWay 159 (.iload 6) 2 161 := ⟨by decide +kernel, rfl⟩
theorem cM_findWay_161 : Dc yM_findWay 161 (.aload_n 0) 1 162 := ⟨by decide +kernel, rfl⟩
theorem cM_findWay_162 : Dc yM_findWay 162 (.getfield 32) 3 165 := ⟨by decide +kernel, rfl⟩
theorem cM_findWay_165 : Dc yM_findWay 165 (.bipush 8) 2 167 := ⟨by decide +kernel, rfl⟩
theorem cM_findWay_167 : Dc yM_findWay 167 (.iload 9) 2 169 := ⟨by decide +kernel, rfl⟩
theorem cM_findWay_169 : Dc yM_findWay 169 (.iadd) 1 170 := ⟨by decide +kernel, rfl⟩
theorem cM_findWay_170 : Dc yM_findWay 170 (.iaload) 1 171 := ⟨by decide +kernel, rfl⟩
theorem cM_findWay_171 : Dc yM_findWay 171 (.iload 10) 2 173 := ⟨by decide +kernel, rfl⟩
theorem cM_findWay_173 : Dc yM_findWay 173 (.iconst 2) 1 174 := ⟨by decide +kernel, rfl⟩
theorem cM_findWay_174 : Dc yM_findWay 174 (.isub) 1 175 := ⟨by decide +kernel, rfl⟩
theorem cM_findWay_175 : Db yM_findWay 175 (.if_icmp .ne 7) 3 178 (7) 182 := ⟨by decide +kernel, rfl, by decide⟩
theorem cM_findWay_178 : Dc yM_findWay 178 (.iconst 0) 1 179 := ⟨by decide +kernel, rfl⟩
theorem cM_findWay_179 : Db yM_findWay 179 (.goto 4) 3 182 (4) 183 := ⟨by decide +kernel, rfl, by decide⟩
theorem cM_findWay_182 : Dc yM_findWay 182 (.iconst 1) 1 183 := ⟨by decide +kernel, rfl⟩
theorem cM_findWay_183 : Dc yM_findWay 183 (.iadd) 1 184 := ⟨by decide +kernel, rfl⟩
theorem cM_findWay_184 : Dc yM_findWay 184 (.istore 6) 2 186 := ⟨by decide +kernel, rfl⟩
theorem cM_findWay_186 : Dc yM_findWay 186 (.aload_n 0) 1 187 := ⟨by decide +kernel, rfl⟩
theorem cM_findWay_187 : Dc yM_findWay 187 (.getfield 32) 3 190 := ⟨by decide +kernel, rfl⟩
theorem cM_findWay_190 : Dc yM_findWay 190 (.bipush 8) 2 192 := ⟨by decide +kernel, rfl⟩
theorem cM_findWay_192 : Dc yM_findWay 192 (.iload 9) 2 194 := ⟨by decide +kernel, rfl⟩
theorem cM_findWay_194 : Dc yM_findWay 194 (.iadd) 1 195 := ⟨by decide +kernel, rfl⟩
theorem cM_findWay_195 : Dc yM_findWay 195 (.iload 10) 2 197 := ⟨by decide +kernel, rfl⟩
theorem cM_findWay_197 : Dc yM_findWay 197 (.iconst 2) 1 198 := ⟨by decide +kernel, rfl⟩
theorem cM_findWay_198 : Dc yM_findWay 198 (.isub) 1 199 := ⟨by decide +kernel, rfl⟩
theorem cM_findWay_199 : Dc yM_findWay 199 (.iastore) 1 200 := ⟨by decide +kernel, rfl⟩
theorem cM_findWay_200 : Dc yM_findWay 200 (.iinc 9 1) 3 203 := ⟨by decide +kernel, rfl⟩
theorem cM_findWay_203 : Db yM_findWay 203 (.goto (-138)) 3 206 (-138) 65 := ⟨by decide +kernel, rfl, by decide⟩
theorem cM_findWay_206 : Dc yM_findWay 206 (.aload_n 0) 1 207 := ⟨by decide +kernel, rfl⟩
theorem cM_findWay_207 : Dc yM_findWay 207 (.aload_n 0) 1 208 := ⟨by decide +kernel, rfl⟩
theorem cM_findWay_208 : Dc yM_findWay 208 (.getfield 32) 3 211 := ⟨by decide +kernel, rfl⟩
theorem cM_findWay_211 : Dc yM_findWay 211 (.aload_n 0) 1 212 := ⟨by decide +kernel, rfl⟩
theorem cM_findWay_212 : Dc yM_findWay 212 (.getfield 17) 3 215 := ⟨by decide +kernel, rfl⟩
theorem cM_findWay_215 : Dc yM_findWay 215 (.invokevirtual 120) 3 218 := ⟨by decide +kernel, rfl⟩
theorem cM_findWay_218 : Dc yM_findWay 218 (.iload 8) 2 220 := ⟨by decide +kernel, rfl⟩
theorem cM_findWay_220 : Db yM_findWay 220 (.ifCond .eq 36) 3 223 (36) 256 := ⟨by decide +kernel, rfl, by decide⟩
theorem cM_findWay_223 : Dc yM_findWay 223 (.iload 6) 2 225 := ⟨by decide +kernel, rfl⟩
theorem cM_findWay_225 : Dc yM_findWay 225 (.aload_n 0) 1 226 := ⟨by decide +kernel, rfl⟩
theorem cM_findWay_226 : Dc yM_findWay 226 (.getfield 162) 3 229 := ⟨by decide +kernel, rfl⟩
theorem cM_findWay_229 : Db yM_findWay 229 (.if_icmp .ge 27) 3 232 (27) 256 := ⟨by decide +kernel, rfl, by decide⟩
theorem cM_findWay_232 : Dc yM_findWay 232 (.aload_n 0) 1 233 := ⟨by decide +kernel, rfl⟩
theorem cM_findWay_233 : Dc yM_findWay 233 (.aload_n 0) 1 234 := ⟨by decide +kernel, rfl⟩
theorem cM_findWay_234 : Dc yM_findWay 234 (.getfield 32) 3 237 := ⟨by decide +kernel, rfl⟩
theorem cM_findWay_237 : Dc yM_findWay 237 (.iload_n 1) 1 238 := ⟨by decide +kernel, rfl⟩
theorem cM_findWay_238 : Dc yM_findWay 238 (.invokevirtual 155) 3 241 := ⟨by decide +kernel, rfl⟩
theorem cM_findWay_241 : Db yM_findWay 241 (.ifCond .eq 15) 3 244 (15) 256 := ⟨by decide +kernel, rfl, by decide⟩
theorem cM_findWay_244 : Dc yM_findWay 244 (.aload_n 0) 1 245 := ⟨by decide +kernel, rfl⟩
theorem cM_findWay_245 : Dc yM_findWay 245 (.iload 6) 2 247 := ⟨by decide +kernel, rfl⟩
theorem cM_findWay_247 : Dc yM_findWay 247 (.putfield 162) 3 250 := ⟨by decide +kernel, rfl⟩
theorem cM_findWay_250 : Dc yM_findWay 250 (.aload_n 0) 1 251 := ⟨by decide +kernel, rfl⟩
theorem cM_findWay_251 : Dc yM_findWay 251 (.iload 7) 2 253 := ⟨by decide +kernel, rfl⟩
theorem cM_findWay_253 : Dc yM_findWay 253 (.putfield 159) 3 256 := ⟨by decide +kernel, rfl⟩
theorem cM_findWay_256 : Dc yM_findWay 256 (.iinc 5 1) 3 259 := ⟨by decide +kernel, rfl⟩
theorem cM_findWay_259 : Db yM_findWay 259 (.goto (-225)) 3 262 (-225) 34 := ⟨by decide +kernel, rfl, by decide⟩
theorem cM_findWay_262 : Dc yM_findWay 262 (.return_) 1 263 := ⟨by decide +kernel, rfl⟩
theorem cM_power_0 : Dc yM_power 0 (.iconst 1) 1 1 := ⟨by decide +kernel, rfl⟩
theorem cM_power_1 : Dc yM_power 1 (.istore_n 2) 1 2 := ⟨by decide +kernel, rfl⟩
theorem cM_power_2 : Dc yM_power 2 (.iconst 0) 1 3 := ⟨by decide +kernel, rfl⟩
theorem cM_power_3 : Dc yM_power 3 (.istore_n 3) 1 4 := ⟨by decide +kernel, rfl⟩
theorem cM_power_4 : Dc yM_power 4 (.iload_n 3) 1 5 := ⟨by decide +kernel, rfl⟩
theorem cM_power_5 : Dc yM_power 5 (.iload_n 1) 1 6 := ⟨by decide +kernel, rfl⟩
theorem cM_power_6 : Db yM_power 6 (.if_icmp .ge 13) 3 9 (13) 19 := ⟨by decide +kernel, rfl, by decide⟩
theorem cM_power_9 : Dc yM_power 9 (.iload_n 2) 1 10 := ⟨by decide +kernel, rfl⟩
theorem cM_power_10 : Dc yM_power 10 (.iload_n 0) 1 11 := ⟨by decide +kernel, rfl⟩
theorem cM_power_11 : Dc yM_power 11 (.imul) 1 12 := ⟨by decide +kernel, rfl⟩
theorem cM_power_12 : Dc yM_power 12 (.istore_n 2) 1 13 := ⟨by decide +kernel, rfl⟩
theorem cM_power_13 : Dc yM_power 13 (.iinc 3 1) 3 16 := ⟨by decide +kernel, rfl⟩
theorem cM_power_16 : Db yM_power 16 (.goto (-12)) 3 19 (-12) 4 := ⟨by decide +kernel, rfl, by decide⟩
theorem cM_power_19 : Dc yM_power 19 (.iload_n 2) 1 20 := ⟨by decide +kernel, rfl⟩
theorem cM_power_20 : Dc yM_power 20 (.ireturn) 1 21 := ⟨by decide +kernel, rfl⟩
theorem cM_begin_0 : Dc yM_begin 0 (.iconst 0) 1 1 := ⟨by decide +kernel, rfl⟩
theorem cM_begin_1 : Dc yM_begin 1 (.istore_n 1) 1 2 := ⟨by decide +kernel, rfl⟩
theorem cM_begin_2 : Dc yM_begin 2 (.iload_n 1) 1 3 := ⟨by decide +kernel, rfl⟩
theorem cM_begin_3 : Dc yM_begin 3 (.bipush 13) 2 5 := ⟨by decide +kernel, rfl⟩
theorem cM_begin_5 : Db yM_begin 5 (.if_icmp .ge 21) 3 8 (21) 26 := ⟨by decide +kernel, rfl, by decide⟩
theorem cM_begin_8 : Dc yM_begin 8 (.aload_n 0) 1 9 := ⟨by decide +kernel, rfl⟩
theorem cM_begin_9 : Dc yM_begin 9 (.getfield 32) 3 12 := ⟨by decide +kernel, rfl⟩
theorem cM_begin_12 : Dc yM_begin 12 (.iload_n 1) 1 13 := ⟨by decide +kernel, rfl⟩
theorem cM_begin_13 : Dc yM_begin 13 (.aload_n 0) 1 14 := ⟨by decide +kernel, rfl⟩
theorem cM_begin_14 : Dc yM_begin 14 (.getfield 29) 3 17 := ⟨by decide +kernel, rfl⟩
theorem cM_begin_17 : Dc yM_begin 17 (.iload_n 1) 1 18 := ⟨by decide +kernel, rfl⟩
theorem cM_begin_18 : Dc yM_begin 18 (.iaload) 1 19 := ⟨by decide +kernel, rfl⟩
theorem cM_begin_19 : Dc yM_begin 19 (.iastore) 1 20 := ⟨by decide +kernel, rfl⟩
theorem cM_begin_20 : Dc yM_begin 20 (.iinc 1 1) 3 23 := ⟨by decide +kernel, rfl⟩
theorem cM_begin_23 : Db yM_begin 23 (.goto (-21)) 3 26 (-21) 2 := ⟨by decide +kernel, rfl, by decide⟩
theorem cM_begin_26 : Dc yM_begin 26 (.return_) 1 27 := ⟨by decide +kernel, rfl⟩
theorem cM_fewest_0 : Dc yM_fewest 0 (.aload_n 0) 1 1 := ⟨by decide +kernel, rfl⟩
theorem cM_fewest_1 : Dc yM_fewest 1 (.iconst 0) 1 2 := ⟨by decide +kernel, rfl⟩
theorem cM_fewest_2 : Dc yM_fewest 2 (.putfield 66) 3 5 := ⟨by decide +kernel, rfl⟩
theorem cM_fewest_5 : Dc yM_fewest 5 (.iload_n 1) 1 6 := ⟨by decide +kernel, rfl⟩
theorem cM_fewest_6 : Dc yM_fewest 6 (.iload_n 2) 1 7 := ⟨by decide +kernel, rfl⟩
theorem cM_fewest_7 : Dc yM_fewest 7 (.invokestatic 171) 3 10 := ⟨by decide +kernel, rfl⟩
theorem cM_fewest_10 : Db yM_fewest 10 (.ifCond .eq 6) 3 13 (6) 16 := ⟨by decide +kernel, rfl, by decide⟩
theorem cM_fewest_13 : Dc yM_fewest 13 (.bipush (-2)) 2 15 := ⟨by decide +kernel, rfl⟩
theorem cM_fewest_15 : Dc yM_fewest 15 (.ireturn) 1 16 := ⟨by decide +kernel, rfl⟩
theorem cM_fewest_16 : Dc yM_fewest 16 (.aload_n 0) 1 17 := ⟨by decide +kernel, rfl⟩
theorem cM_fewest_17 : Dc yM_fewest 17 (.iload_n 1) 1 18 := ⟨by decide +kernel, rfl⟩
theorem cM_fewest_18 : Dc yM_fewest 18 (.iconst 0) 1 19 := ⟨by decide +kernel, rfl⟩
theorem cM_fewest_19 : Dc yM_fewest 19 (.invokevirtual 175) 3 22 := ⟨by decide +kernel, rfl⟩
theorem cM_fewest_22 : Dc yM_fewest 22 (.aload_n 0) 1 23 := ⟨by decide +kernel, rfl⟩
theorem cM_fewest_23 : Dc yM_fewest 23 (.getfield 159) 3 26 := ⟨by decide +kernel, rfl⟩
theorem cM_fewest_26 : Dc yM_fewest 26 (.bipush (-9)) 2 28 := ⟨by decide +kernel, rfl⟩
theorem cM_fewest_28 : Db yM_fewest 28 (.if_icmp .ne 8) 3 31 (8) 36 := ⟨by decide +kernel, rfl, by decide⟩
theorem cM_fewest_31 : Dc yM_fewest 31 (.bipush (-9)) 2 33 := ⟨by decide +kernel, rfl⟩
theorem cM_fewest_33 : Db yM_fewest 33 (.goto 18) 3 36 (18) 51 := ⟨by decide +kernel, rfl, by decide⟩
theorem cM_fewest_36 : Dc yM_fewest 36 (.iload_n 2) 1 37 := ⟨by decide +kernel, rfl⟩
theorem cM_fewest_37 : Db yM_fewest 37 (.ifCond .ne 10) 3 40 (10) 47 := ⟨by decide +kernel, rfl, by decide⟩
theorem cM_fewest_40 : Dc yM_fewest 40 (.aload_n 0) 1 41 := ⟨by decide +kernel, rfl⟩
theorem cM_fewest_41 : Dc yM_fewest 41 (.getfield 162) 3 44 := ⟨by decide +kernel, rfl⟩
theorem cM_fewest_44 : Db yM_fewest 44 (.goto 7) 3 47 (7) 51 := ⟨by decide +kernel, rfl, by decide⟩
theorem cM_fewest_47 : Dc yM_fewest 47 (.aload_n 0) 1 48 := ⟨by decide +kernel, rfl⟩
theorem cM_fewest_48 : Dc yM_fewest 48 (.getfield 159) 3 51 := ⟨by decide +kernel, rfl⟩
theorem cM_fewest_51 : Dc yM_fewest 51 (.ireturn) 1 52 := ⟨by decide +kernel, rfl⟩
theorem cM_whereToCut_0 : Dc yM_whereToCut 0 (.aload_n 0) 1 1 := ⟨by decide +kernel, rfl⟩
theorem cM_whereToCut_1 : Dc yM_whereToCut 1 (.iconst 0) 1 2 := ⟨by decide +kernel, rfl⟩
theorem cM_whereToCut_2 : Dc yM_whereToCut 2 (.putfield 66) 3 5 := ⟨by decide +kernel, rfl⟩
theorem cM_whereToCut_5 : Dc yM_whereToCut 5 (.aload_n 0) 1 6 := ⟨by decide +kernel, rfl⟩
theorem cM_whereToCut_6 : Dc yM_whereToCut 6 (.invokevirtual 124) 3 9 := ⟨by decide +kernel, rfl⟩
theorem cM_whereToCut_9 : Dc yM_whereToCut 9 (.bipush (-9)) 2 11 := ⟨by decide +kernel, rfl⟩
theorem cM_whereToCut_11 : Dc yM_whereToCut 11 (.istore_n 1) 1 12 := ⟨by decide +kernel, rfl⟩
theorem cM_whereToCut_12 : Dc yM_whereToCut 12 (.iconst 1) 1 13 := ⟨by decide +kernel, rfl⟩
theorem cM_whereToCut_13 : Dc yM_whereToCut 13 (.istore_n 2) 1 14 := ⟨by decide +kernel, rfl⟩
theorem cM_whereToCut_14 : Dc yM_whereToCut 14 (.iload_n 2) 1 15 := ⟨by decide +kernel, rfl⟩
theorem cM_whereToCut_15 : Dc yM_whereToCut 15 (.aload_n 0) 1 16 := ⟨by decide +kernel, rfl⟩
theorem cM_whereToCut_16 : Dc yM_whereToCut 16 (.getfield 29) 3 19 := ⟨by decide +kernel, rfl⟩
theorem cM_whereToCut_19 : Dc yM_whereToCut 19 (.iconst 0) 1 20 := ⟨by decide +kernel, rfl⟩
theorem cM_whereToCut_20 : Dc yM_whereToCut 20 (.iaload) 1 21 := ⟨by decide +kernel, rfl⟩
theorem cM_whereToCut_21 : Db yM_whereToCut 21 (.if_icmp .ge 28) 3 24 (28) 49 := ⟨by decide +kernel, rfl, by decide⟩
theorem cM_whereToCut_24 : Dc yM_whereToCut 24 (.aload_n 0) 1 25 := ⟨by decide +kernel, rfl⟩
theorem cM_whereToCut_25 : Dc yM_whereToCut 25 (.getfield 114) 3 28 := ⟨by decide +kernel, rfl⟩
theorem cM_whereToCut_28 : Dc yM_whereToCut 28 (.iconst 1) 1 29 := ⟨by decide +kernel, rfl⟩
theorem cM_whereToCut_29 : Dc yM_whereToCut 29 (.iload_n 2) 1 30 := ⟨by decide +kernel, rfl⟩
theorem cM_whereToCut_30 : Dc yM_whereToCut 30 (.ishl) 1 31 := ⟨by decide +kernel, rfl⟩
theorem cM_whereToCut_31 : Dc yM_whereToCut 31 (.iconst 1) 1 32 := ⟨by decide +kernel, rfl⟩
theorem cM_whereToCut_32 : Dc yM_whereToCut 32 (.isub) 1 33 := ⟨by decide +kernel, rfl⟩
theorem cM_whereToCut_33 : Dc yM_whereToCut 33 (.iand) 1 34 := ⟨by decide +kernel, rfl⟩
theorem cM_whereToCut_34 : Db yM_whereToCut 34 (.ifCond .ne 7) 3 37 (7) 41 := ⟨by decide +kernel, rfl, by decide⟩
theorem cM_whereToCut_37 : Dc yM_whereToCut 37 (.iload_n 2) 1 38 := ⟨by decide +kernel, rfl⟩
theorem cM_whereToCut_38 : Db yM_whereToCut 38 (.goto 4) 3 41 (4) 42 := ⟨by decide +kernel, rfl, by decide⟩
theorem cM_whereToCut_41 : Dc yM_whereToCut 41 (.iload_n 1) 1 42 := ⟨by decide +kernel, rfl⟩
theorem cM_whereToCut_42 : Dc yM_whereToCut 42 (.istore_n 1) 1 43 := ⟨by decide +kernel, rfl⟩
theorem cM_whereToCut_43 : Dc yM_whereToCut 43 (.iinc 2 1) 3 46 := ⟨by decide +kernel, rfl⟩
theorem cM_whereToCut_46 : Db yM_whereToCut 46 (.goto (-32)) 3 49 (-32) 14 := ⟨by decide +kernel, rfl, by decide⟩
theorem cM_whereToCut_49 : Dc yM_whereToCut 49 (.iload_n 1) 1 50 := ⟨by decide +kernel, rfl⟩
theorem cM_whereToCut_50 : Dc yM_whereToCut 50 (.ireturn) 1 51 := ⟨by decide +kernel, rfl⟩
theorem cM_drops_0 : Dc yM_drops 0 (.aload_n 0) 1 1 := ⟨by decide +kernel, rfl⟩
theorem cM_drops_1 : Dc yM_drops 1 (.iconst 0) 1 2 := ⟨by decide +kernel, rfl⟩
theorem cM_drops_2 : Dc yM_drops 2 (.putfield 66) 3 5 := ⟨by decide +kernel, rfl⟩
theorem cM_drops_5 : Dc yM_drops 5 (.aload_n 0) 1 6 := ⟨by decide +kernel, rfl⟩
theorem cM_drops_6 : Dc yM_drops 6 (.iload_n 1) 1 7 := ⟨by decide +kernel, rfl⟩
theorem cM_drops_7 : Dc yM_drops 7 (.invokevirtual 134) 3 10 := ⟨by decide +kernel, rfl⟩
theorem cM_drops_10 : Db yM_drops 10 (.ifCond .eq 7) 3 13 (7) 17 := ⟨by decide +kernel, rfl, by decide⟩
theorem cM_drops_13 : Dc yM_drops 13 (.iconst (-1)) 1 14 := ⟨by decide +kernel, rfl⟩
theorem cM_drops_14 : Db yM_drops 14 (.goto 8) 3 17 (8) 22 := ⟨by decide +kernel, rfl, by decide⟩
theorem cM_drops_17 : Dc yM_drops 17 (.aload_n 0) 1 18 := ⟨by decide +kernel, rfl⟩
theorem cM_drops_18 : Dc yM_drops 18 (.iload_n 1) 1 19 := ⟨by decide +kernel, rfl⟩
theorem cM_drops_19 : Dc yM_drops 19 (.invokevirtual 127) 3 22 := ⟨by decide +kernel, rfl⟩
theorem cM_drops_22 : Dc yM_drops 22 (.ireturn) 1 23 := ⟨by decide +kernel, rfl⟩
theorem cM_share_0 : Dc yM_share 0 (.aload_n 0) 1 1 := ⟨by decide +kernel, rfl⟩
theorem cM_share_1 : Dc yM_share 1 (.iconst 0) 1 2 := ⟨by decide +kernel, rfl⟩
theorem cM_share_2 : Dc yM_share 2 (.putfield 66) 3 5 := ⟨by decide +kernel, rfl⟩
theorem cM_share_5 : Dc yM_share 5 (.aload_n 0) 1 6 := ⟨by decide +kernel, rfl⟩
theorem cM_share_6 : Dc yM_share 6 (.iload_n 1) 1 7 := ⟨by decide +kernel, rfl⟩
theorem cM_share_7 : Dc yM_share 7 (.invokevirtual 134) 3 10 := ⟨by decide +kernel, rfl⟩
theorem cM_share_10 : Db yM_share 10 (.ifCond .eq 5) 3 13 (5) 15 := ⟨by decide +kernel, rfl, by decide⟩
theorem cM_share_13 : Dc yM_share 13 (.iconst (-1)) 1 14 := ⟨by decide +kernel, rfl⟩
theorem cM_share_14 : Dc yM_share 14 (.ireturn) 1 15 := ⟨by decide +kernel, rfl⟩
theorem cM_share_15 : Dc yM_share 15 (.aload_n 0) 1 16 := ⟨by decide +kernel, rfl⟩
theorem cM_share_16 : Dc yM_share 16 (.getfield 29) 3 19 := ⟨by decide +kernel, rfl⟩
theorem cM_share_19 : Dc yM_share 19 (.iconst 0) 1 20 := ⟨by decide +kernel, rfl⟩
theorem cM_share_20 : Dc yM_share 20 (.iaload) 1 21 := ⟨by decide +kernel, rfl⟩
theorem cM_share_21 : Dc yM_share 21 (.istore_n 3) 1 22 := ⟨by decide +kernel, rfl⟩
theorem cM_share_22 : Dc yM_share 22 (.iconst 0) 1 23 := ⟨by decide +kernel, rfl⟩
theorem cM_share_23 : Dc yM_share 23 (.istore 4) 2 25 := ⟨by decide +kernel, rfl⟩
theorem cM_share_25 : Dc yM_share 25 (.iload 4) 2 27 := ⟨by decide +kernel, rfl⟩
theorem cM_share_27 : Dc yM_share 27 (.iconst 1) 1 28 := ⟨by decide +kernel, rfl⟩
theorem cM_share_28 : Dc yM_share 28 (.iload_n 3) 1 29 := ⟨by decide +kernel, rfl⟩
theorem cM_share_29 : Dc yM_share 29 (.ishl) 1 30 := ⟨by decide +kernel, rfl⟩
theorem cM_share_30 : Db yM_share 30 (.if_icmp .ge 22) 3 33 (22) 52 := ⟨by decide +kernel, rfl, by decide⟩
theorem cM_share_33 : Dc yM_share 33 (.aload_n 0) 1 34 := ⟨by decide +kernel, rfl⟩
theorem cM_share_34 : Dc yM_share 34 (.getfield 63) 3 37 := ⟨by decide +kernel, rfl⟩
theorem cM_share_37 : Dc yM_share 37 (.iload 4) 2 39 := ⟨by decide +kernel, rfl⟩
theorem cM_share_39 : Dc yM_share 39 (.aload_n 0) 1 40 := ⟨by decide +kernel, rfl⟩
theorem cM_share_40 : Dc yM_share 40 (.iload 4) 2 42 := ⟨by decide +kernel, rfl⟩
theorem cM_share_42 : Dc yM_share 42 (.invokevirtual 185) 3 45 := ⟨by decide +kernel, rfl⟩
theorem cM_share_45 : Dc yM_share 45 (.iastore) 1 46 := ⟨by decide +kernel, rfl⟩
theorem cM_share_46 : Dc yM_share 46 (.iinc 4 1) 3 49 := ⟨by decide +kernel, rfl⟩
theorem cM_share_49 : Db yM_share 49 (.goto (-24)) 3 52 (-24) 25 := ⟨by decide +kernel, rfl, by decide⟩
theorem cM_share_52 : Dc yM_share 52 (.iconst 0) 1 53 := ⟨by decide +kernel, rfl⟩
theorem cM_share_53 : Dc yM_share 53 (.istore 4) 2 55 := ⟨by decide +kernel, rfl⟩
theorem cM_share_55 : Dc yM_share 55 (.iconst 0) 1 56 := ⟨by decide +kernel, rfl⟩
theorem cM_share_56 : Dc yM_share 56 (.istore 5) 2 58 := ⟨by decide +kernel, rfl⟩
theorem cM_share_58 : Dc yM_share 58 (.iload 5) 2 60 := ⟨by decide +kernel, rfl⟩
theorem cM_share_60 : Dc yM_share 60 (.iconst 1) 1 61 := ⟨by decide +kernel, rfl⟩
theorem cM_share_61 : Dc yM_share 61 (.iload_n 3) 1 62 := ⟨by decide +kernel, rfl⟩
theorem cM_share_62 : Dc yM_share 62 (.ishl) 1 63 := ⟨by decide +kernel, rfl⟩
theorem cM_share_63 : Db yM_share 63 (.if_icmp .ge 65) 3 66 (65) 128 := ⟨by decide +kernel, rfl, by decide⟩
theorem cM_share_66 : Dc yM_share 66 (.iload 5) 2 68 := ⟨by decide +kernel, rfl⟩
theorem cM_share_68 : Dc yM_share 68 (.iload_n 1) 1 69 := ⟨by decide +kernel, rfl⟩
theorem cM_share_69 : Dc yM_share 69 (.invokestatic 179) 3 72 := ⟨by decide +kernel, rfl⟩
theorem cM_share_72 : Db yM_share 72 (.ifCond .ne 50) 3 75 (50) 122 := ⟨by decide +kernel, rfl, by decide⟩
theorem cM_share_75 : Dc yM_share 75 (.iload 5) 2 77 := ⟨by decide +kernel, rfl⟩
theorem cM_share_77 : Dc yM_share 77 (.invokestatic 188) 3 80 := ⟨by decide +kernel, rfl⟩
theorem cM_share_80 : Dc yM_share 80 (.istore 6) 2 82 := ⟨by decide +kernel, rfl⟩
theorem cM_share_82 : Dc yM_share 82 (.iload 4) 2 84 := ⟨by decide +kernel, rfl⟩
theorem cM_share_84 : Dc yM_share 84 (.iload 6) 2 86 := ⟨by decide +kernel, rfl⟩
theorem cM_share_86 : Dc yM_share 86 (.invokestatic 191) 3 89 := ⟨by decide +kernel, rfl⟩
theorem cM_share_89 : Dc yM_share 89 (.iload_n 3) 1 90 := ⟨by decide +kernel, rfl⟩
theorem cM_share_90 : Dc yM_share 90 (.iconst 1) 1 91 := ⟨by decide +kernel, rfl⟩
theorem cM_share_91 : Dc yM_share 91 (.isub) 1 92 := ⟨by decide +kernel, rfl⟩
theorem cM_share_92 : Dc yM_share 92 (.iload 6) 2 94 := ⟨by decide +kernel, rfl⟩
theorem cM_share_94 : Dc yM_share 94 (.isub) 1 95 := ⟨by decide +kernel, rfl⟩
theorem cM_share_95 : Dc yM_share 95 (.invokestatic 191) 3 98 := ⟨by decide +kernel, rfl⟩
theorem cM_share_98 : Dc yM_share 98 (.imul) 1 99 := ⟨by decide +kernel, rfl⟩
theorem cM_share_99 : Dc yM_share 99 (.aload_n 0) 1 100 := ⟨by decide +kernel, rfl⟩
theorem cM_share_100 : Dc yM_share 100 (.getfield 63) 3 103 := ⟨by decide +kernel, rfl⟩
theorem cM_share_103 : Dc yM_share 103 (.iload 5) 2 105 := ⟨by decide +kernel, rfl⟩
theorem cM_share_105 : Dc yM_share 105 (.iconst 1) 1 106 := ⟨by decide +kernel, rfl⟩
theorem cM_share_106 : Dc yM_share 106 (.iload_n 1) 1 107 := ⟨by decide +kernel, rfl⟩
theorem cM_share_107 : Dc yM_share 107 (.ishl) 1 108 := ⟨by decide +kernel, rfl⟩
theorem cM_share_108 : Dc yM_share 108 (.ior) 1 109 := ⟨by decide +kernel, rfl⟩
theorem cM_share_109 : Dc yM_share 109 (.iaload) 1 110 := ⟨by decide +kernel, rfl⟩
theorem cM_share_110 : Dc yM_share 110 (.aload_n 0) 1 111 := ⟨by decide +kernel, rfl⟩
theorem cM_share_111 : Dc yM_share 111 (.getfield 63) 3 114 := ⟨by decide +kernel, rfl⟩
theorem cM_share_114 : Dc yM_share 114 (.iload 5) 2 116 := ⟨by decide +kernel, rfl⟩
theorem cM_share_116 : Dc yM_share 116 (.iaload) 1 117 := ⟨by decide +kernel, rfl⟩
theorem cM_share_117 : Dc yM_share 117 (.isub) 1 118 := ⟨by decide +kernel, rfl⟩
theorem cM_share_118 : Dc yM_share 118 (.imul) 1 119 := ⟨by decide +kernel, rfl⟩
theorem cM_share_119 : Dc yM_share 119 (.iadd) 1 120 := ⟨by decide +kernel, rfl⟩
theorem cM_share_120 : Dc yM_share 120 (.istore 4) 2 122 := ⟨by decide +kernel, rfl⟩
theorem cM_share_122 : Dc yM_share 122 (.iinc 5 1) 3 125 := ⟨by decide +kernel, rfl⟩
theorem cM_share_125 : Db yM_share 125 (.goto (-67)) 3 128 (-67) 58 := ⟨by decide +kernel, rfl, by decide⟩
theorem cM_share_128 : Dc yM_share 128 (.iload 4) 2 130 := ⟨by decide +kernel, rfl⟩
theorem cM_share_130 : Dc yM_share 130 (.iload_n 3) 1 131 := ⟨by decide +kernel, rfl⟩
theorem cM_share_131 : Dc yM_share 131 (.invokestatic 191) 3 134 := ⟨by decide +kernel, rfl⟩
theorem cM_share_134 : Dc yM_share 134 (.iload_n 2) 1 135 := ⟨by decide +kernel, rfl⟩
theorem cM_share_135 : Dc yM_share 135 (.invokestatic 194) 3 138 := ⟨by decide +kernel, rfl⟩
theorem cM_share_138 : Dc yM_share 138 (.ireturn) 1 139 := ⟨by decide +kernel, rfl⟩
theorem cM_worthOf_0 : Dc yM_worthOf 0 (.aload_n 0) 1 1 := ⟨by decide +kernel, rfl⟩
theorem cM_worthOf_1 : Dc yM_worthOf 1 (.invokevirtual 168) 3 4 := ⟨by decide +kernel, rfl⟩
theorem cM_worthOf_4 : Dc yM_worthOf 4 (.iconst 0) 1 5 := ⟨by decide +kernel, rfl⟩
theorem cM_worthOf_5 : Dc yM_worthOf 5 (.istore_n 2) 1 6 := ⟨by decide +kernel, rfl⟩
theorem cM_worthOf_6 : Dc yM_worthOf 6 (.iconst 0) 1 7 := ⟨by decide +kernel, rfl⟩
theorem cM_worthOf_7 : Dc yM_worthOf 7 (.istore_n 3) 1 8 := ⟨by decide +kernel, rfl⟩
theorem cM_worthOf_8 : Dc yM_worthOf 8 (.iload_n 3) 1 9 := ⟨by decide +kernel, rfl⟩
theorem cM_worthOf_9 : Dc yM_worthOf 9 (.aload_n 0) 1 10 := ⟨by decide +kernel, rfl⟩
theorem cM_worthOf_10 : Dc yM_worthOf 10 (.getfield 29) 3 13 := ⟨by decide +kernel, rfl⟩
theorem cM_worthOf_13 : Dc yM_worthOf 13 (.iconst 0) 1 14 := ⟨by decide +kernel, rfl⟩
theorem cM_worthOf_14 : Dc yM_worthOf 14 (.iaload) 1 15 := ⟨by decide +kernel, rfl⟩
theorem cM_worthOf_15 : Db yM_worthOf 15 (.if_icmp .ge 66) 3 18 (66) 81 := ⟨by decide +kernel, rfl, by decide⟩
theorem cM_worthOf_18 : Dc yM_worthOf 18 (.iload_n 1) 1 19 := ⟨by decide +kernel, rfl⟩
theorem cM_worthOf_19 : Dc yM_worthOf 19 (.iload_n 3) 1 20 := ⟨by decide +kernel, rfl⟩
theorem cM_worthOf_20 : Dc yM_worthOf 20 (.invokestatic 179) 3 23 := ⟨by decide +kernel, rfl⟩
theorem cM_worthOf_23 : Db yM_worthOf 23 (.ifCond .eq 52) 3 26 (52) 75 := ⟨by decide +kernel, rfl, by decide⟩
theorem cM_worthOf_26 : Dc yM_worthOf 26 (.aload_n 0) 1 27 := ⟨by decide +kernel, rfl⟩
theorem cM_worthOf_27 : Dc yM_worthOf 27 (.getfield 32) 3 30 := ⟨by decide +kernel, rfl⟩
theorem cM_worthOf_30 : Dc yM_worthOf 30 (.iconst 3) 1 31 := ⟨by decide +kernel, rfl⟩
theorem cM_worthOf_31 : Dc yM_worthOf 31 (.iload_n 2) 1 32 := ⟨by decide +kernel, rfl⟩
theorem cM_worthOf_32 : Dc yM_worthOf 32 (.iadd) 1 33 := ⟨by decide +kernel, rfl⟩
theorem cM_worthOf_33 : Dc yM_worthOf 33 (.aload_n 0) 1 34 := ⟨by decide +kernel, rfl⟩
theorem cM_worthOf_34 : Dc yM_worthOf 34 (.getfield 29) 3 37 := ⟨by decide +kernel, rfl⟩
theorem cM_worthOf_37 : Dc yM_worthOf 37 (.iconst 3) 1 38 := ⟨by decide +kernel, rfl⟩
theorem cM_worthOf_38 : Dc yM_worthOf 38 (.iload_n 3) 1 39 := ⟨by decide +kernel, rfl⟩
theorem cM_worthOf_39 : Dc yM_worthOf 39 (.iadd) 1 40 := ⟨by decide +kernel, rfl⟩
theorem cM_worthOf_40 : Dc yM_worthOf 40 (.iaload) 1 41 := ⟨by decide +kernel, rfl⟩
theorem cM_worthOf_41 : Dc yM_worthOf 41 (.iastore) 1 42 := ⟨by decide +kernel, rfl⟩
theorem cM_worthOf_42 : Dc yM_worthOf 42 (.aload_n 0) 1 43 := ⟨by decide +kernel, rfl⟩
theorem cM_worthOf_43 : Dc yM_worthOf 43 (.getfield 32) 3 46 := ⟨by decide +kernel, rfl⟩
theorem cM_worthOf_46 : Dc yM_worthOf 46 (.bipush 8) 2 48 := ⟨by decide +kernel, rfl⟩
theorem cM_worthOf_48 : Dc yM_worthOf 48 (.iload_n 2) 1 49 := ⟨by decide +kernel, rfl⟩
theorem cM_worthOf_49 : Dc yM_worthOf 49 (.iadd) 1 50 := ⟨by decide +kernel, rfl⟩
theorem cM_worthOf_50 : Dc yM_worthOf 50 (.aload_n 0) 1 51 := ⟨by decide +kernel, rfl⟩
theorem cM_worthOf_51 : Dc yM_worthOf 51 (.getfield 29) 3 54 := ⟨by decide +kernel, rfl⟩
theorem cM_worthOf_54 : Dc yM_worthOf 54 (.bipush 8) 2 56 := ⟨by decide +kernel, rfl⟩
theorem cM_worthOf_56 : Dc yM_worthOf 56 (.iload_n 3) 1 57 := ⟨by decide +kernel, rfl⟩
theorem cM_worthOf_57 : Dc yM_worthOf 57 (.iadd) 1 58 := ⟨by decide +kernel, rfl⟩
theorem cM_worthOf_58 : Dc yM_worthOf 58 (.iaload) 1 59 := ⟨by decide +kernel, rfl⟩
theorem cM_worthOf_59 : Dc yM_worthOf 59 (.iastore) 1 60 := ⟨by decide +kernel, rfl⟩
theorem cM_worthOf_60 : Dc yM_worthOf 60 (.aload_n 0) 1 61 := ⟨by decide +kernel, rfl⟩
theorem cM_worthOf_61 : Dc yM_worthOf 61 (.getfield 60) 3 64 := ⟨by decide +kernel, rfl⟩
theorem cM_worthOf_64 : Dc yM_worthOf 64 (.iload_n 2) 1 65 := ⟨by decide +kernel, rfl⟩
theorem cM_worthOf_65 : Dc yM_worthOf 65 (.aload_n 0) 1 66 := ⟨by decide +kernel, rfl⟩
theorem cM_worthOf_66 : Dc yM_worthOf 66 (.getfield 17) 3 69 := ⟨by decide +kernel, rfl⟩
theorem cM_worthOf_69 : Dc yM_worthOf 69 (.iload_n 3) 1 70 := ⟨by decide +kernel, rfl⟩
theorem cM_worthOf_70 : Dc yM_worthOf 70 (.iaload) 1 71 := ⟨by decide +kernel, rfl⟩
theorem cM_worthOf_71 : Dc yM_worthOf 71 (.iastore) 1 72 := ⟨by decide +kernel, rfl⟩
theorem cM_worthOf_72 : Dc yM_worthOf 72 (.iinc 2 1) 3 75 := ⟨by decide +kernel, rfl⟩
theorem cM_worthOf_75 : Dc yM_worthOf 75 (.iinc 3 1) 3 78 := ⟨by decide +kernel, rfl⟩
theorem cM_worthOf_78 : Db yM_worthOf 78 (.goto (-70)) 3 81 (-70) 8 := ⟨by decide +kernel, rfl, by decide⟩
theorem cM_worthOf_81 : Dc yM_worthOf 81 (.aload_n 0) 1 82 := ⟨by decide +kernel, rfl⟩
theorem cM_worthOf_82 : Dc yM_worthOf 82 (.getfield 32) 3 85 := ⟨by decide +kernel, rfl⟩
theorem cM_worthOf_85 : Dc yM_worthOf 85 (.iconst 0) 1 86 := ⟨by decide +kernel, rfl⟩
theorem cM_worthOf_86 : Dc yM_worthOf 86 (.iload_n 2) 1 87 := ⟨by decide +kernel, rfl⟩
theorem cM_worthOf_87 : Dc yM_worthOf 87 (.iastore) 1 88 := ⟨by decide +kernel, rfl⟩
theorem cM_worthOf_88 : Dc yM_worthOf 88 (.aload_n 0) 1 89 := ⟨by decide +kernel, rfl⟩
theorem cM_worthOf_89 : Dc yM_worthOf 89 (.aload_n 0) 1 90 := ⟨by decide +kernel, rfl⟩
theorem cM_worthOf_90 : Dc yM_worthOf 90 (.getfield 32) 3 93 := ⟨by decide +kernel, rfl⟩
theorem cM_worthOf_93 : Dc yM_worthOf 93 (.aload_n 0) 1 94 := ⟨by decide +kernel, rfl⟩
theorem cM_worthOf_94 : Dc yM_worthOf 94 (.getfield 60) 3 97 := ⟨by decide +kernel, rfl⟩
theorem cM_worthOf_97 : Dc yM_worthOf 97 (.invokevirtual 120) 3 100 := ⟨by decide +kernel, rfl⟩
theorem cM_worthOf_100 : Dc yM_worthOf 100 (.iconst 0) 1 101 := ⟨by decide +kernel, rfl⟩
theorem cM_worthOf_101 : Dc yM_worthOf 101 (.istore_n 3) 1 102 := ⟨by decide +kernel, rfl⟩
theorem cM_worthOf_102 : Dc yM_worthOf 102 (.bipush (-9)) 2 104 := ⟨by decide +kernel, rfl⟩
theorem cM_worthOf_104 : Dc yM_worthOf 104 (.istore 4) 2 106 := ⟨by decide +kernel, rfl⟩
theorem cM_worthOf_106 : Dc yM_worthOf 106 (.iload 4) 2 108 := ⟨by decide +kernel, rfl⟩
theorem cM_worthOf_108 : Dc yM_worthOf 108 (.bipush 9) 2 110 := ⟨by decide +kernel, rfl⟩
theorem cM_worthOf_110 : Db yM_worthOf 110 (.if_icmp .gt 30) 3 113 (30) 140 := ⟨by decide +kernel, rfl, by decide⟩
theorem cM_worthOf_113 : Dc yM_worthOf 113 (.iload_n 3) 1 114 := ⟨by decide +kernel, rfl⟩
theorem cM_worthOf_114 : Dc yM_worthOf 114 (.aload_n 0) 1 115 := ⟨by decide +kernel, rfl⟩
theorem cM_worthOf_115 : Dc yM_worthOf 115 (.aload_n 0) 1 116 := ⟨by decide +kernel, rfl⟩
theorem cM_worthOf_116 : Dc yM_worthOf 116 (.getfield 32) 3 119 := ⟨by decide +kernel, rfl⟩
theorem cM_worthOf_119 : Dc yM_worthOf 119 (.iload 4) 2 121 := ⟨by decide +kernel, rfl⟩
theorem cM_worthOf_121 : Dc yM_worthOf 121 (.invokevirtual 155) 3 124 := ⟨by decide +kernel, rfl⟩
theorem cM_worthOf_124 : Db yM_worthOf 124 (.ifCond .eq 7) 3 127 (7) 131 := ⟨by decide +kernel, rfl, by decide⟩
theorem cM_worthOf_127 : Dc yM_worthOf 127 (.iconst 1) 1 128 := ⟨by decide +kernel, rfl⟩
theorem cM_worthOf_128 : Db yM_worthOf 128 (.goto 4) 3 131 (4) 132 := ⟨by decide +kernel, rfl, by decide⟩
theorem cM_worthOf_131 : Dc yM_worthOf 131 (.iconst 0) 1 132 := ⟨by decide +kernel, rfl⟩
theorem cM_worthOf_132 : Dc yM_worthOf 132 (.iadd) 1 133 := ⟨by decide +kernel, rfl⟩
theorem cM_worthOf_133 : Dc yM_worthOf 133 (.istore_n 3) 1 134 := ⟨by decide +kernel, rfl⟩
theorem cM_worthOf_134 : Dc yM_worthOf 134 (.iinc 4 1) 3 137 := ⟨by decide +kernel, rfl⟩
theorem cM_worthOf_137 : Db yM_worthOf 137 (.goto (-31)) 3 140 (-31) 106 := ⟨by decide +kernel, rfl, by decide⟩
theorem cM_worthOf_140 : Dc yM_worthOf 140 (.iload_n 3) 1 141 := ⟨by decide +kernel, rfl⟩
theorem cM_worthOf_141 : Dc yM_worthOf 141 (.ireturn) 1 142 := ⟨by decide +kernel, rfl⟩
theorem cM_has_0 : Dc yM_has 0 (.iload_n 0) 1 1 := ⟨by decide +kernel, rfl⟩
theorem cM_has_1 : Dc yM_has 1 (.iload_n 1) 1 2 := ⟨by decide +kernel, rfl⟩
theorem cM_has_2 : Dc yM_has 2 (.ishr) 1 3 := ⟨by decide +kernel, rfl⟩
theorem cM_has_3 : Dc yM_has 3 (.iconst 1) 1 4 := ⟨by decide +kernel, rfl⟩
theorem cM_has_4 : Dc yM_has 4 (.iand) 1 5 := ⟨by decide +kernel, rfl⟩
theorem cM_has_5 : Dc yM_has 5 (.iconst 1) 1 6 := ⟨by decide +kernel, rfl⟩
theorem cM_has_6 : Db yM_has 6 (.if_icmp .ne 7) 3 9 (7) 13 := ⟨by decide +kernel, rfl, by decide⟩
theorem cM_has_9 : Dc yM_has 9 (.iconst 1) 1 10 := ⟨by decide +kernel, rfl⟩
theorem cM_has_10 : Db yM_has 10 (.goto 4) 3 13 (4) 14 := ⟨by decide +kernel, rfl, by decide⟩
theorem cM_has_13 : Dc yM_has 13 (.iconst 0) 1 14 := ⟨by decide +kernel, rfl⟩
theorem cM_has_14 : Dc yM_has 14 (.ireturn) 1 15 := ⟨by decide +kernel, rfl⟩
theorem cM_many_0 : Dc yM_many 0 (.iconst 0) 1 1 := ⟨by decide +kernel, rfl⟩
theorem cM_many_1 : Dc yM_many 1 (.istore_n 1) 1 2 := ⟨by decide +kernel, rfl⟩
theorem cM_many_2 : Dc yM_many 2 (.iconst 0) 1 3 := ⟨by decide +kernel, rfl⟩
theorem cM_many_3 : Dc yM_many 3 (.istore_n 2) 1 4 := ⟨by decide +kernel, rfl⟩
theorem cM_many_4 : Dc yM_many 4 (.iload_n 2) 1 5 := ⟨by decide +kernel, rfl⟩
theorem cM_many_5 : Dc yM_many 5 (.iconst 5) 1 6 := ⟨by decide +kernel, rfl⟩
theorem cM_many_6 : Db yM_many 6 (.if_icmp .ge 17) 3 9 (17) 23 := ⟨by decide +kernel, rfl, by decide⟩
theorem cM_many_9 : Dc yM_many 9 (.iload_n 1) 1 10 := ⟨by decide +kernel, rfl⟩
theorem cM_many_10 : Dc yM_many 10 (.iload_n 0) 1 11 := ⟨by decide +kernel, rfl⟩
theorem cM_many_11 : Dc yM_many 11 (.iload_n 2) 1 12 := ⟨by decide +kernel, rfl⟩
theorem cM_many_12 : Dc yM_many 12 (.ishr) 1 13 := ⟨by decide +kernel, rfl⟩
theorem cM_many_13 : Dc yM_many 13 (.iconst 1) 1 14 := ⟨by decide +kernel, rfl⟩
theorem cM_many_14 : Dc yM_many 14 (.iand) 1 15 := ⟨by decide +kernel, rfl⟩
theorem cM_many_15 : Dc yM_many 15 (.iadd) 1 16 := ⟨by decide +kernel, rfl⟩
theorem cM_many_16 : Dc yM_many 16 (.istore_n 1) 1 17 := ⟨by decide +kernel, rfl⟩
theorem cM_many_17 : Dc yM_many 17 (.iinc 2 1) 3 20 := ⟨by decide +kernel, rfl⟩
theorem cM_many_20 : Db yM_many 20 (.goto (-16)) 3 23 (-16) 4 := ⟨by decide +kernel, rfl, by decide⟩
theorem cM_many_23 : Dc yM_many 23 (.iload_n 1) 1 24 := ⟨by decide +kernel, rfl⟩
theorem cM_many_24 : Dc yM_many 24 (.ireturn) 1 25 := ⟨by decide +kernel, rfl⟩
theorem cM_orders_0 : Dc yM_orders 0 (.iconst 1) 1 1 := ⟨by decide +kernel, rfl⟩
theorem cM_orders_1 : Dc yM_orders 1 (.istore_n 1) 1 2 := ⟨by decide +kernel, rfl⟩
theorem cM_orders_2 : Dc yM_orders 2 (.iconst 2) 1 3 := ⟨by decide +kernel, rfl⟩
theorem cM_orders_3 : Dc yM_orders 3 (.istore_n 2) 1 4 := ⟨by decide +kernel, rfl⟩
theorem cM_orders_4 : Dc yM_orders 4 (.iload_n 2) 1 5 := ⟨by decide +kernel, rfl⟩
theorem cM_orders_5 : Dc yM_orders 5 (.iload_n 0) 1 6 := ⟨by decide +kernel, rfl⟩
theorem cM_orders_6 : Db yM_orders 6 (.if_icmp .gt 13) 3 9 (13) 19 := ⟨by decide +kernel, rfl, by decide⟩
theorem cM_orders_9 : Dc yM_orders 9 (.iload_n 1) 1 10 := ⟨by decide +kernel, rfl⟩
theorem cM_orders_10 : Dc yM_orders 10 (.iload_n 2) 1 11 := ⟨by decide +kernel, rfl⟩
theorem cM_orders_11 : Dc yM_orders 11 (.imul) 1 12 := ⟨by decide +kernel, rfl⟩
theorem cM_orders_12 : Dc yM_orders 12 (.istore_n 1) 1 13 := ⟨by decide +kernel, rfl⟩
theorem cM_orders_13 : Dc yM_orders 13 (.iinc 2 1) 3 16 := ⟨by decide +kernel, rfl⟩
theorem cM_orders_16 : Db yM_orders 16 (.goto (-12)) 3 19 (-12) 4 := ⟨by decide +kernel, rfl, by decide⟩
theorem cM_orders_19 : Dc yM_orders 19 (.iload_n 1) 1 20 := ⟨by decide +kernel, rfl⟩
theorem cM_orders_20 : Dc yM_orders 20 (.ireturn) 1 21 := ⟨by decide +kernel, rfl⟩
theorem cM_fraction_0 : Dc yM_fraction 0 (.iload_n 0) 1 1 := ⟨by decide +kernel, rfl⟩
theorem cM_fraction_1 : Dc yM_fraction 1 (.iload_n 1) 1 2 := ⟨by decide +kernel, rfl⟩
theorem cM_fraction_2 : Dc yM_fraction 2 (.invokestatic 182) 3 5 := ⟨by decide +kernel, rfl⟩
theorem cM_fraction_5 : Dc yM_fraction 5 (.istore_n 3) 1 6 := ⟨by decide +kernel, rfl⟩
theorem cM_fraction_6 : Dc yM_fraction 6 (.iload_n 2) 1 7 := ⟨by decide +kernel, rfl⟩
theorem cM_fraction_7 : Db yM_fraction 7 (.ifCond .eq 9) 3 10 (9) 16 := ⟨by decide +kernel, rfl, by decide⟩
theorem cM_fraction_10 : Dc yM_fraction 10 (.iload_n 0) 1 11 := ⟨by decide +kernel, rfl⟩
theorem cM_fraction_11 : Dc yM_fraction 11 (.iload_n 3) 1 12 := ⟨by decide +kernel, rfl⟩
theorem cM_fraction_12 : Dc yM_fraction 12 (.idiv) 1 13 := ⟨by decide +kernel, rfl⟩
theorem cM_fraction_13 : Db yM_fraction 13 (.goto 6) 3 16 (6) 19 := ⟨by decide +kernel, rfl, by decide⟩
theorem cM_fraction_16 : Dc yM_fraction 16 (.iload_n 1) 1 17 := ⟨by decide +kernel, rfl⟩
theorem cM_fraction_17 : Dc yM_fraction 17 (.iload_n 3) 1 18 := ⟨by decide +kernel, rfl⟩
theorem cM_fraction_18 : Dc yM_fraction 18 (.idiv) 1 19 := ⟨by decide +kernel, rfl⟩
theorem cM_fraction_19 : Dc yM_fraction 19 (.ireturn) 1 20 := ⟨by decide +kernel, rfl⟩
theorem cM_divisor_0 : Dc yM_divisor 0 (.iload_n 0) 1 1 := ⟨by decide +kernel, rfl⟩
theorem cM_divisor_1 : Db yM_divisor 1 (.ifCond .ge 8) 3 4 (8) 9 := ⟨by decide +kernel, rfl, by decide⟩
theorem cM_divisor_4 : Dc yM_divisor 4 (.iload_n 0) 1 5 := ⟨by decide +kernel, rfl⟩
theorem cM_divisor_5 : Dc yM_divisor 5 (.ineg) 1 6 := ⟨by decide +kernel, rfl⟩
theorem cM_divisor_6 : Db yM_divisor 6 (.goto 4) 3 9 (4) 10 := ⟨by decide +kernel, rfl, by decide⟩
theorem cM_divisor_9 : Dc yM_divisor 9 (.iload_n 0) 1 10 := ⟨by decide +kernel, rfl⟩
theorem cM_divisor_10 : Dc yM_divisor 10 (.istore_n 2) 1 11 := ⟨by decide +kernel, rfl⟩
theorem cM_divisor_11 : Dc yM_divisor 11 (.iload_n 1) 1 12 := ⟨by decide +kernel, rfl⟩
theorem cM_divisor_12 : Dc yM_divisor 12 (.istore_n 3) 1 13 := ⟨by decide +kernel, rfl⟩
theorem cM_divisor_13 : Dc yM_divisor 13 (.iload_n 3) 1 14 := ⟨by decide +kernel, rfl⟩
theorem cM_divisor_14 : Db yM_divisor 14 (.ifCond .eq 16) 3 17 (16) 30 := ⟨by decide +kernel, rfl, by decide⟩
theorem cM_divisor_17 : Dc yM_divisor 17 (.iload_n 2) 1 18 := ⟨by decide +kernel, rfl⟩
theorem cM_divisor_18 : Dc yM_divisor 18 (.iload_n 3) 1 19 := ⟨by decide +kernel, rfl⟩
theorem cM_divisor_19 : Dc yM_divisor 19 (.irem) 1 20 := ⟨by decide +kernel, rfl⟩
theorem cM_divisor_20 : Dc yM_divisor 20 (.istore 4) 2 22 := ⟨by decide +kernel, rfl⟩
theorem cM_divisor_22 : Dc yM_divisor 22 (.iload_n 3) 1 23 := ⟨by decide +kernel, rfl⟩
theorem cM_divisor_23 : Dc yM_divisor 23 (.istore_n 2) 1 24 := ⟨by decide +kernel, rfl⟩
theorem cM_divisor_24 : Dc yM_divisor 24 (.iload 4) 2 26 := ⟨by decide +kernel, rfl⟩
theorem cM_divisor_26 : Dc yM_divisor 26 (.istore_n 3) 1 27 := ⟨by decide +kernel, rfl⟩
theorem cM_divisor_27 : Db yM_divisor 27 (.goto (-14)) 3 30 (-14) 13 := ⟨by decide +kernel, rfl, by decide⟩
theorem cM_divisor_30 : Dc yM_divisor 30 (.iload_n 2) 1 31 := ⟨by decide +kernel, rfl⟩
theorem cM_divisor_31 : Dc yM_divisor 31 (.ireturn) 1 32 := ⟨by decide +kernel, rfl⟩
theorem cM_arrives_0 : Dc yM_arrives 0 (.aload_n 0) 1 1 := ⟨by decide +kernel, rfl⟩
theorem cM_arrives_1 : Dc yM_arrives 1 (.iconst 0) 1 2 := ⟨by decide +kernel, rfl⟩
theorem cM_arrives_2 : Dc yM_arrives 2 (.putfield 66) 3 5 := ⟨by decide +kernel, rfl⟩
theorem cM_arrives_5 : Dc yM_arrives 5 (.iload_n 1) 1 6 := ⟨by decide +kernel, rfl⟩
theorem cM_arrives_6 : Dc yM_arrives 6 (.iload_n 2) 1 7 := ⟨by decide +kernel, rfl⟩
theorem cM_arrives_7 : Dc yM_arrives 7 (.invokestatic 200) 3 10 := ⟨by decide +kernel, rfl⟩
theorem cM_arrives_10 : Db yM_arrives 10 (.ifCond .eq 8) 3 13 (8) 18 := ⟨by decide +kernel, rfl, by decide⟩
theorem cM_arrives_13 : Dc yM_arrives 13 (.bipush (-2)) 2 15 := ⟨by decide +kernel, rfl⟩
theorem cM_arrives_15 : Db yM_arrives 15 (.goto 12) 3 18 (12) 27 := ⟨by decide +kernel, rfl, by decide⟩
theorem cM_arrives_18 : Dc yM_arrives 18 (.iload_n 1) 1 19 := ⟨by decide +kernel, rfl⟩
theorem cM_arrives_19 : Dc yM_arrives 19 (.iload_n 2) 1 20 := ⟨by decide +kernel, rfl⟩
theorem cM_arrives_20 : Dc yM_arrives 20 (.aload_n 0) 1 21 := ⟨by decide +kernel, rfl⟩
theorem cM_arrives_21 : Dc yM_arrives 21 (.invokevirtual 203) 3 24 := ⟨by decide +kernel, rfl⟩
theorem cM_arrives_24 : Dc yM_arrives 24 (.invokestatic 206) 3 27 := ⟨by decide +kernel, rfl⟩
theorem cM_arrives_27 : Dc yM_arrives 27 (.ireturn) 1 28 := ⟨by decide +kernel, rfl⟩
theorem cM_noWord_0 : Dc yM_noWord 0 (.iload_n 0) 1 1 := ⟨by decide +kernel, rfl⟩
theorem cM_noWord_1 : Dc yM_noWord 1 (.i2l) 1 2 := ⟨by decide +kernel, rfl⟩
theorem cM_noWord_2 : Dc yM_noWord 2 (.lconst 1) 1 3 := ⟨by decide +kernel, rfl⟩
theorem cM_noWord_3 : Dc yM_noWord 3 (.ldc2_w 198) 3 6 := ⟨by decide +kernel, rfl⟩
theorem cM_noWord_6 : Dc yM_noWord 6 (.invokestatic 69) 3 9 := ⟨by decide +kernel, rfl⟩
theorem cM_noWord_9 : Db yM_noWord 9 (.ifCond .eq 21) 3 12 (21) 30 := ⟨by decide +kernel, rfl, by decide⟩
theorem cM_noWord_12 : Dc yM_noWord 12 (.iload_n 1) 1 13 := ⟨by decide +kernel, rfl⟩
theorem cM_noWord_13 : Dc yM_noWord 13 (.i2l) 1 14 := ⟨by decide +kernel, rfl⟩
theorem cM_noWord_14 : Dc yM_noWord 14 (.lconst 0) 1 15 := ⟨by decide +kernel, rfl⟩
theorem cM_noWord_15 : Dc yM_noWord 15 (.bipush 10) 2 17 := ⟨by decide +kernel, rfl⟩
theorem cM_noWord_17 : Dc yM_noWord 17 (.iload_n 0) 1 18 := ⟨by decide +kernel, rfl⟩
theorem cM_noWord_18 : Dc yM_noWord 18 (.invokestatic 165) 3 21 := ⟨by decide +kernel, rfl⟩
theorem cM_noWord_21 : Dc yM_noWord 21 (.iconst 1) 1 22 := ⟨by decide +kernel, rfl⟩
theorem cM_noWord_22 : Dc yM_noWord 22 (.isub) 1 23 := ⟨by decide +kernel, rfl⟩
theorem cM_noWord_23 : Dc yM_noWord 23 (.i2l) 1 24 := ⟨by decide +kernel, rfl⟩
theorem cM_noWord_24 : Dc yM_noWord 24 (.invokestatic 69) 3 27 := ⟨by decide +kernel, rfl⟩
theorem cM_noWord_27 : Db yM_noWord 27 (.ifCond .ne 5) 3 30 (5) 32 := ⟨by decide +kernel, rfl, by decide⟩
theorem cM_noWord_30 : Dc yM_noWord 30 (.iconst 1) 1 31 := ⟨by decide +kernel, rfl⟩
theorem cM_noWord_31 : Dc yM_noWord 31 (.ireturn) 1 32 := ⟨by decide +kernel, rfl⟩
theorem cM_noWord_32 : Dc yM_noWord 32 (.iconst 1) 1 33 := ⟨by decide +kernel, rfl⟩
theorem cM_noWord_33 : Dc yM_noWord 33 (.istore_n 2) 1 34 := ⟨by decide +kernel, rfl⟩
theorem cM_noWord_34 : Dc yM_noWord 34 (.iconst 0) 1 35 := ⟨by decide +kernel, rfl⟩
theorem cM_noWord_35 : Dc yM_noWord 35 (.istore_n 3) 1 36 := ⟨by decide +kernel, rfl⟩
theorem cM_noWord_36 : Dc yM_noWord 36 (.iload_n 3) 1 37 := ⟨by decide +kernel, rfl⟩
theorem cM_noWord_37 : Dc yM_noWord 37 (.iload_n 0) 1 38 := ⟨by decide +kernel, rfl⟩
theorem cM_noWord_38 : Db yM_noWord 38 (.if_icmp .ge 34) 3 41 (34) 72 := ⟨by decide +kernel, rfl, by decide⟩
theorem cM_noWord_41 : Dc yM_noWord 41 (.iload_n 2) 1 42 := ⟨by decide +kernel, rfl⟩
theorem cM_noWord_42 : Db yM_noWord 42 (.ifCond .eq 22) 3 45 (22) 64 := ⟨by decide +kernel, rfl, by decide⟩
theorem cM_noWord_45 : Dc yM_noWord 45 (.iload_n 1) 1 46 := ⟨by decide +kernel, rfl⟩
theorem cM_noWord_46 : Dc yM_noWord 46 (.bipush 10) 2 48 := ⟨by decide +kernel, rfl⟩
theorem cM_noWord_48 : Dc yM_noWord 48 (.iload_n 3) 1 49 := ⟨by decide +kernel, rfl⟩
theorem cM_noWord_49 : Dc yM_noWord 49 (.invokestatic 165) 3 52 := ⟨by decide +kernel, rfl⟩
theorem cM_noWord_52 : Dc yM_noWord 52 (.idiv) 1 53 := ⟨by decide +kernel, rfl⟩
theorem cM_noWord_53 : Dc yM_noWord 53 (.bipush 10) 2 55 := ⟨by decide +kernel, rfl⟩
theorem cM_noWord_55 : Dc yM_noWord 55 (.irem) 1 56 := ⟨by decide +kernel, rfl⟩
theorem cM_noWord_56 : Dc yM_noWord 56 (.iconst 4) 1 57 := ⟨by decide +kernel, rfl⟩
theorem cM_noWord_57 : Db yM_noWord 57 (.if_icmp .ge 7) 3 60 (7) 64 := ⟨by decide +kernel, rfl, by decide⟩
theorem cM_noWord_60 : Dc yM_noWord 60 (.iconst 1) 1 61 := ⟨by decide +kernel, rfl⟩
theorem cM_noWord_61 : Db yM_noWord 61 (.goto 4) 3 64 (4) 65 := ⟨by decide +kernel, rfl, by decide⟩
theorem cM_noWord_64 : Dc yM_noWord 64 (.iconst 0) 1 65 := ⟨by decide +kernel, rfl⟩
theorem cM_noWord_65 : Dc yM_noWord 65 (.istore_n 2) 1 66 := ⟨by decide +kernel, rfl⟩
theorem cM_noWord_66 : Dc yM_noWord 66 (.iinc 3 1) 3 69 := ⟨by decide +kernel, rfl⟩
theorem cM_noWord_69 : Db yM_noWord 69 (.goto (-33)) 3 72 (-33) 36 := ⟨by decide +kernel, rfl, by decide⟩
theorem cM_noWord_72 : Dc yM_noWord 72 (.iload_n 2) 1 73 := ⟨by decide +kernel, rfl⟩
theorem cM_noWord_73 : Db yM_noWord 73 (.ifCond .ne 7) 3 76 (7) 80 := ⟨by decide +kernel, rfl, by decide⟩
theorem cM_noWord_76 : Dc yM_noWord 76 (.iconst 1) 1 77 := ⟨by decide +kernel, rfl⟩
theorem cM_noWord_77 : Db yM_noWord 77 (.goto 4) 3 80 (4) 81 := ⟨by decide +kernel, rfl, by decide⟩
theorem cM_noWord_80 : Dc yM_noWord 80 (.iconst 0) 1 81 := ⟨by decide +kernel, rfl⟩
theorem cM_noWord_81 : Dc yM_noWord 81 (.ireturn) 1 82 := ⟨by decide +kernel, rfl⟩
theorem cM_bridles_0 : Dc yM_bridles 0 (.iconst 0) 1 1 := ⟨by decide +kernel, rfl⟩
theorem cM_bridles_1 : Dc yM_bridles 1 (.istore_n 1) 1 2 := ⟨by decide +kernel, rfl⟩
theorem cM_bridles_2 : Dc yM_bridles 2 (.iconst 0) 1 3 := ⟨by decide +kernel, rfl⟩
theorem cM_bridles_3 : Dc yM_bridles 3 (.istore_n 2) 1 4 := ⟨by decide +kernel, rfl⟩
theorem cM_bridles_4 : Dc yM_bridles 4 (.iload_n 2) 1 5 := ⟨by decide +kernel, rfl⟩
theorem cM_bridles_5 : Dc yM_bridles 5 (.aload_n 0) 1 6 := ⟨by decide +kernel, rfl⟩
theorem cM_bridles_6 : Dc yM_bridles 6 (.getfield 29) 3 9 := ⟨by decide +kernel, rfl⟩
theorem cM_bridles_9 : Dc yM_bridles 9 (.iconst 0) 1 10 := ⟨by decide +kernel, rfl⟩
theorem cM_bridles_10 : Dc yM_bridles 10 (.iaload) 1 11 := ⟨by decide +kernel, rfl⟩
theorem cM_bridles_11 : Db yM_bridles 11 (.if_icmp .ge 23) 3 14 (23) 34 := ⟨by decide +kernel, rfl, by decide⟩
theorem cM_bridles_14 : Dc yM_bridles 14 (.iload_n 1) 1 15 := ⟨by decide +kernel, rfl⟩
theorem cM_bridles_15 : Dc yM_bridles 15 (.aload_n 0) 1 16 := ⟨by decide +kernel, rfl⟩
theorem cM_bridles_16 : Dc yM_bridles 16 (.getfield 29) 3 19 := ⟨by decide +kernel, rfl⟩
theorem cM_bridles_19 : Dc yM_bridles 19 (.bipush 8) 2 21 := ⟨by decide +kernel, rfl⟩
theorem cM_bridles_21 : Dc yM_bridles 21 (.iload_n 2) 1 22 := ⟨by decide +kernel, rfl⟩
theorem cM_bridles_22 : Dc yM_bridles 22 (.iadd) 1 23 := ⟨by decide +kernel, rfl⟩
theorem cM_bridles_23 : Dc yM_bridles 23 (.iaload) 1 24 := ⟨by decide +kernel, rfl⟩
theorem cM_bridles_24 : Dc yM_bridles 24 (.iconst 2) 1 25 := ⟨by decide +kernel, rfl⟩
theorem cM_bridles_25 : Dc yM_bridles 25 (.iadd) 1 26 := ⟨by decide +kernel, rfl⟩
theorem cM_bridles_26 : Dc yM_bridles 26 (.iadd) 1 27 := ⟨by decide +kernel, rfl⟩
theorem cM_bridles_27 : Dc yM_bridles 27 (.istore_n 1) 1 28 := ⟨by decide +kernel, rfl⟩
theorem cM_bridles_28 : Dc yM_bridles 28 (.iinc 2 1) 3 31 := ⟨by decide +kernel, rfl⟩
theorem cM_bridles_31 : Db yM_bridles 31 (.goto (-27)) 3 34 (-27) 4 := ⟨by decide +kernel, rfl, by decide⟩
theorem cM_bridles_34 : Dc yM_bridles 34 (.iload_n 1) 1 35 := ⟨by decide +kernel, rfl⟩
theorem cM_bridles_35 : Dc yM_bridles 35 (.iconst 4) 1 36 := ⟨by decide +kernel, rfl⟩
theorem cM_bridles_36 : Dc yM_bridles 36 (.irem) 1 37 := ⟨by decide +kernel, rfl⟩
theorem cM_bridles_37 : Dc yM_bridles 37 (.ireturn) 1 38 := ⟨by decide +kernel, rfl⟩
theorem cM_moved_0 : Dc yM_moved 0 (.iconst 0) 1 1 := ⟨by decide +kernel, rfl⟩
theorem cM_moved_1 : Dc yM_moved 1 (.istore_n 3) 1 2 := ⟨by decide +kernel, rfl⟩
theorem cM_moved_2 : Dc yM_moved 2 (.iload_n 0) 1 3 := ⟨by decide +kernel, rfl⟩
theorem cM_moved_3 : Dc yM_moved 3 (.iconst 1) 1 4 := ⟨by decide +kernel, rfl⟩
theorem cM_moved_4 : Dc yM_moved 4 (.isub) 1 5 := ⟨by decide +kernel, rfl⟩
theorem cM_moved_5 : Dc yM_moved 5 (.istore 4) 2 7 := ⟨by decide +kernel, rfl⟩
theorem cM_moved_7 : Dc yM_moved 7 (.iload 4) 2 9 := ⟨by decide +kernel, rfl⟩
theorem cM_moved_9 : Db yM_moved 9 (.ifCond .lt 31) 3 12 (31) 40 := ⟨by decide +kernel, rfl, by decide⟩
theorem cM_moved_12 : Dc yM_moved 12 (.bipush 10) 2 14 := ⟨by decide +kernel, rfl⟩
theorem cM_moved_14 : Dc yM_moved 14 (.iload_n 3) 1 15 := ⟨by decide +kernel, rfl⟩
theorem cM_moved_15 : Dc yM_moved 15 (.imul) 1 16 := ⟨by decide +kernel, rfl⟩
theorem cM_moved_16 : Dc yM_moved 16 (.iload_n 1) 1 17 := ⟨by decide +kernel, rfl⟩
theorem cM_moved_17 : Dc yM_moved 17 (.bipush 10) 2 19 := ⟨by decide +kernel, rfl⟩
theorem cM_moved_19 : Dc yM_moved 19 (.iload 4) 2 21 := ⟨by decide +kernel, rfl⟩
theorem cM_moved_21 : Dc yM_moved 21 (.invokestatic 165) 3 24 := ⟨by decide +kernel, rfl⟩
theorem cM_moved_24 : Dc yM_moved 24 (.idiv) 1 25 := ⟨by decide +kernel, rfl⟩
theorem cM_moved_25 : Dc yM_moved 25 (.bipush 10) 2 27 := ⟨by decide +kernel, rfl⟩
theorem cM_moved_27 : Dc yM_moved 27 (.irem) 1 28 := ⟨by decide +kernel, rfl⟩
theorem cM_moved_28 : Dc yM_moved 28 (.iload_n 2) 1 29 := ⟨by decide +kernel, rfl⟩
theorem cM_moved_29 : Dc yM_moved 29 (.iadd) 1 30 := ⟨by decide +kernel, rfl⟩
theorem cM_moved_30 : Dc yM_moved 30 (.iconst 4) 1 31 := ⟨by decide +kernel, rfl⟩
theorem cM_moved_31 : Dc yM_moved 31 (.irem) 1 32 := ⟨by decide +kernel, rfl⟩
theorem cM_moved_32 : Dc yM_moved 32 (.iadd) 1 33 := ⟨by decide +kernel, rfl⟩
theorem cM_moved_33 : Dc yM_moved 33 (.istore_n 3) 1 34 := ⟨by decide +kernel, rfl⟩
theorem cM_moved_34 : Dc yM_moved 34 (.iinc 4 (-1)) 3 37 := ⟨by decide +kernel, rfl⟩
theorem cM_moved_37 : Db yM_moved 37 (.goto (-30)) 3 40 (-30) 7 := ⟨by decide +kernel, rfl, by decide⟩
theorem cM_moved_40 : Dc yM_moved 40 (.iload_n 3) 1 41 := ⟨by decide +kernel, rfl⟩
theorem cM_moved_41 : Dc yM_moved 41 (.ireturn) 1 42 := ⟨by decide +kernel, rfl⟩
theorem cM_sent_0 : Dc yM_sent 0 (.aload_n 0) 1 1 := ⟨by decide +kernel, rfl⟩
theorem cM_sent_1 : Dc yM_sent 1 (.iconst 0) 1 2 := ⟨by decide +kernel, rfl⟩
theorem cM_sent_2 : Dc yM_sent 2 (.putfield 66) 3 5 := ⟨by decide +kernel, rfl⟩
theorem cM_sent_5 : Dc yM_sent 5 (.iload_n 1) 1 6 := ⟨by decide +kernel, rfl⟩
theorem cM_sent_6 : Dc yM_sent 6 (.iload_n 2) 1 7 := ⟨by decide +kernel, rfl⟩
theorem cM_sent_7 : Dc yM_sent 7 (.invokestatic 200) 3 10 := ⟨by decide +kernel, rfl⟩
theorem cM_sent_10 : Db yM_sent 10 (.ifCond .eq 8) 3 13 (8) 18 := ⟨by decide +kernel, rfl, by decide⟩
theorem cM_sent_13 : Dc yM_sent 13 (.bipush (-2)) 2 15 := ⟨by decide +kernel, rfl⟩
theorem cM_sent_15 : Db yM_sent 15 (.goto 14) 3 18 (14) 29 := ⟨by decide +kernel, rfl, by decide⟩
theorem cM_sent_18 : Dc yM_sent 18 (.iload_n 1) 1 19 := ⟨by decide +kernel, rfl⟩
theorem cM_sent_19 : Dc yM_sent 19 (.iload_n 2) 1 20 := ⟨by decide +kernel, rfl⟩
theorem cM_sent_20 : Dc yM_sent 20 (.iconst 4) 1 21 := ⟨by decide +kernel, rfl⟩
theorem cM_sent_21 : Dc yM_sent 21 (.aload_n 0) 1 22 := ⟨by decide +kernel, rfl⟩
theorem cM_sent_22 : Dc yM_sent 22 (.invokevirtual 203) 3 25 := ⟨by decide +kernel, rfl⟩
theorem cM_sent_25 : Dc yM_sent 25 (.isub) 1 26 := ⟨by decide +kernel, rfl⟩
theorem cM_sent_26 : Dc yM_sent 26 (.invokestatic 206) 3 29 := ⟨by decide +kernel, rfl⟩
theorem cM_sent_29 : Dc yM_sent 29 (.ireturn) 1 30 := ⟨by decide +kernel, rfl⟩
theorem cM_taken_0 : Dc yM_taken 0 (.aload_n 0) 1 1 := ⟨by decide +kernel, rfl⟩
theorem cM_taken_1 : Dc yM_taken 1 (.iconst 0) 1 2 := ⟨by decide +kernel, rfl⟩
theorem cM_taken_2 : Dc yM_taken 2 (.putfield 66) 3 5 := ⟨by decide +kernel, rfl⟩
theorem cM_taken_5 : Dc yM_taken 5 (.iload_n 1) 1 6 := ⟨by decide +kernel, rfl⟩
theorem cM_taken_6 : Dc yM_taken 6 (.iload_n 2) 1 7 := ⟨by decide +kernel, rfl⟩
theorem cM_taken_7 : Dc yM_taken 7 (.invokestatic 200) 3 10 := ⟨by decide +kernel, rfl⟩
theorem cM_taken_10 : Db yM_taken 10 (.ifCond .ne 11) 3 13 (11) 21 := ⟨by decide +kernel, rfl, by decide⟩
theorem cM_taken_13 : Dc yM_taken 13 (.iload_n 1) 1 14 := ⟨by decide +kernel, rfl⟩
theorem cM_taken_14 : Dc yM_taken 14 (.iload_n 3) 1 15 := ⟨by decide +kernel, rfl⟩
theorem cM_taken_15 : Dc yM_taken 15 (.invokestatic 200) 3 18 := ⟨by decide +kernel, rfl⟩
theorem cM_taken_18 : Db yM_taken 18 (.ifCond .eq 6) 3 21 (6) 24 := ⟨by decide +kernel, rfl, by decide⟩
theorem cM_taken_21 : Dc yM_taken 21 (.bipush (-2)) 2 23 := ⟨by decide +kernel, rfl⟩
theorem cM_taken_23 : Dc yM_taken 23 (.ireturn) 1 24 := ⟨by decide +kernel, rfl⟩
theorem cM_taken_24 : Dc yM_taken 24 (.iconst 0) 1 25 := ⟨by decide +kernel, rfl⟩
theorem cM_taken_25 : Dc yM_taken 25 (.istore 4) 2 27 := ⟨by decide +kernel, rfl⟩
theorem cM_taken_27 : Dc yM_taken 27 (.iconst 0) 1 28 := ⟨by decide +kernel, rfl⟩
theorem cM_taken_28 : Dc yM_taken 28 (.istore 5) 2 30 := ⟨by decide +kernel, rfl⟩
theorem cM_taken_30 : Dc yM_taken 30 (.iconst 0) 1 31 := ⟨by decide +kernel, rfl⟩
theorem cM_taken_31 : Dc yM_taken 31 (.istore 6) 2 33 := ⟨by decide +kernel, rfl⟩
theorem cM_taken_33 : Dc yM_taken 33 (.iload 6) 2 35 := ⟨by decide +kernel, rfl⟩
theorem cM_taken_35 : Dc yM_taken 35 (.iload_n 1) 1 36 := ⟨by decide +kernel, rfl⟩
theorem cM_taken_36 : Db yM_taken 36 (.if_icmp .ge 65) 3 39 (65) 101 := ⟨by decide +kernel, rfl, by decide⟩
theorem cM_taken_39 : Dc yM_taken 39 (.iload_n 2) 1 40 := ⟨by decide +kernel, rfl⟩
theorem cM_taken_40 : Dc yM_taken 40 (.bipush 10) 2 42 := ⟨by decide +kernel, rfl⟩
theorem cM_taken_42 : Dc yM_taken 42 (.iload 6) 2 44 := ⟨by decide +kernel, rfl⟩
theorem cM_taken_44 : Dc yM_taken 44 (.invokestatic 165) 3 47 := ⟨by decide +kernel, rfl⟩
theorem cM_taken_47 : Dc yM_taken 47 (.idiv) 1 48 := ⟨by decide +kernel, rfl⟩
theorem cM_taken_48 : Dc yM_taken 48 (.bipush 10) 2 50 := ⟨by decide +kernel, rfl⟩
theorem cM_taken_50 : Dc yM_taken 50 (.irem) 1 51 := ⟨by decide +kernel, rfl⟩
theorem cM_taken_51 : Dc yM_taken 51 (.iconst 4) 1 52 := ⟨by decide +kernel, rfl⟩
theorem cM_taken_52 : Dc yM_taken 52 (.iadd) 1 53 := ⟨by decide +kernel, rfl⟩
theorem cM_taken_53 : Dc yM_taken 53 (.iload_n 3) 1 54 := ⟨by decide +kernel, rfl⟩
theorem cM_taken_54 : Dc yM_taken 54 (.bipush 10) 2 56 := ⟨by decide +kernel, rfl⟩
theorem cM_taken_56 : Dc yM_taken 56 (.iload 6) 2 58 := ⟨by decide +kernel, rfl⟩
theorem cM_taken_58 : Dc yM_taken 58 (.invokestatic 165) 3 61 := ⟨by decide +kernel, rfl⟩
theorem cM_taken_61 : Dc yM_taken 61 (.idiv) 1 62 := ⟨by decide +kernel, rfl⟩
theorem cM_taken_62 : Dc yM_taken 62 (.bipush 10) 2 64 := ⟨by decide +kernel, rfl⟩
theorem cM_taken_64 : Dc yM_taken 64 (.irem) 1 65 := ⟨by decide +kernel, rfl⟩
theorem cM_taken_65 : Dc yM_taken 65 (.isub) 1 66 := ⟨by decide +kernel, rfl⟩
theorem cM_taken_66 : Dc yM_taken 66 (.iconst 4) 1 67 := ⟨by decide +kernel, rfl⟩
theorem cM_taken_67 : Dc yM_taken 67 (.irem) 1 68 := ⟨by decide +kernel, rfl⟩
theorem cM_taken_68 : Dc yM_taken 68 (.istore 7) 2 70 := ⟨by decide +kernel, rfl⟩
theorem cM_taken_70 : Dc yM_taken 70 (.iload 4) 2 72 := ⟨by decide +kernel, rfl⟩
theorem cM_taken_72 : Dc yM_taken 72 (.iload 7) 2 74 := ⟨by decide +kernel, rfl⟩
theorem cM_taken_74 : Dc yM_taken 74 (.iconst 2) 1 75 := ⟨by decide +kernel, rfl⟩
theorem cM_taken_75 : Dc yM_taken 75 (.irem) 1 76 := ⟨by decide +kernel, rfl⟩
theorem cM_taken_76 : Dc yM_taken 76 (.iadd) 1 77 := ⟨by decide +kernel, rfl⟩
theorem cM_taken_77 : Dc yM_taken 77 (.istore 4) 2 79 := ⟨by decide +kernel, rfl⟩
theorem cM_taken_79 : Dc yM_taken 79 (.iload 5) 2 81 := ⟨by decide +kernel, rfl⟩
theorem cM_taken_81 : Dc yM_taken 81 (.iload 7) 2 83 := ⟨by decide +kernel, rfl⟩
theorem cM_taken_83 : Dc yM_taken 83 (.iconst 2) 1 84 := ⟨by decide +kernel, rfl⟩
theorem cM_taken_84 : Db yM_taken 84 (.if_icmp .ne 7) 3 87 (7) 91 := ⟨by decide +kernel, rfl, by decide⟩
theorem cM_taken_87 : Dc yM_taken 87 (.iconst 1) 1 88 := ⟨by decide +kernel, rfl⟩
theorem cM_taken_88 : Db yM_taken 88 (.goto 4) 3 91 (4) 92 := ⟨by decide +kernel, rfl, by decide⟩
theorem cM_taken_91 : Dc yM_taken 91 (.iconst 0) 1 92 := ⟨by decide +kernel, rfl⟩
theorem cM_taken_92 : Dc yM_taken 92 (.iadd) 1 93 := ⟨by decide +kernel, rfl⟩
theorem cM_taken_93 : Dc yM_taken 93 (.istore 5) 2 95 := ⟨by decide +kernel, rfl⟩
theorem cM_taken_95 : Dc yM_taken 95 (.iinc 6 1) 3 98 := ⟨by decide +kernel, rfl⟩
theorem cM_taken_98 : Db yM_taken 98 (.goto (-65)) 3 101 (-65) 33 := ⟨by decide +kernel, rfl, by decide⟩
theorem cM_taken_101 : Dc yM_taken 101 (.aload_n 0) 1 102 := ⟨by decide +kernel, rfl⟩
theorem cM_taken_102 : Dc yM_taken 102 (.getfield 29) 3 105 := ⟨by decide +kernel, rfl⟩
theorem cM_taken_105 : Dc yM_taken 105 (.iconst 0) 1 106 := ⟨by decide +kernel, rfl⟩
theorem cM_taken_106 : Dc yM_taken 106 (.iaload) 1 107 := ⟨by decide +kernel, rfl⟩
theorem cM_taken_107 : Db yM_taken 107 (.ifCond .ne 17) 3 110 (17) 124 := ⟨by decide +kernel, rfl, by decide⟩
theorem cM_taken_110 : Dc yM_taken 110 (.iload 4) 2 112 := ⟨by decide +kernel, rfl⟩
theorem cM_taken_112 : Dc yM_taken 112 (.iload 5) 2 114 := ⟨by decide +kernel, rfl⟩
theorem cM_taken_114 : Dc yM_taken 114 (.iadd) 1 115 := ⟨by decide +kernel, rfl⟩
theorem cM_taken_115 : Db yM_taken 115 (.ifCond .ne 7) 3 118 (7) 122 := ⟨by decide +kernel, rfl, by decide⟩
theorem cM_taken_118 : Dc yM_taken 118 (.iconst 1) 1 119 := ⟨by decide +kernel, rfl⟩
theorem cM_taken_119 : Db yM_taken 119 (.goto 4) 3 122 (4) 123 := ⟨by decide +kernel, rfl, by decide⟩
theorem cM_taken_122 : Dc yM_taken 122 (.iconst 0) 1 123 := ⟨by decide +kernel, rfl⟩
theorem cM_taken_123 : Dc yM_taken 123 (.ireturn) 1 124 := ⟨by decide +kernel, rfl⟩
theorem cM_taken_124 : Dc yM_taken 124 (.iload 4) 2 126 := ⟨by decide +kernel, rfl⟩
theorem cM_taken_126 : Dc yM_taken 126 (.iconst 2) 1 127 := ⟨by decide +kernel, rfl⟩
theorem cM_taken_127 : Dc yM_taken 127 (.iload 5) 2 129 := ⟨by decide +kernel, rfl⟩
theorem cM_taken_129 : Dc yM_taken 129 (.imul) 1 130 := ⟨by decide +kernel, rfl⟩
theorem cM_taken_130 : Dc yM_taken 130 (.iadd) 1 131 := ⟨by decide +kernel, rfl⟩
theorem cM_taken_131 : Dc yM_taken 131 (.iconst 2) 1 132 := ⟨by decide +kernel, rfl⟩
theorem cM_taken_132 : Db yM_taken 132 (.if_icmp .gt 7) 3 135 (7) 139 := ⟨by decide +kernel, rfl, by decide⟩
theorem cM_taken_135 : Dc yM_taken 135 (.iconst 1) 1 136 := ⟨by decide +kernel, rfl⟩
theorem cM_taken_136 : Db yM_taken 136 (.goto 4) 3 139 (4) 140 := ⟨by decide +kernel, rfl, by decide⟩
theorem cM_taken_139 : Dc yM_taken 139 (.iconst 0) 1 140 := ⟨by decide +kernel, rfl⟩
theorem cM_taken_140 : Dc yM_taken 140 (.ireturn) 1 141 := ⟨by decide +kernel, rfl⟩
theorem cM_seeAt_0 : Dc yM_seeAt 0 (.aload_n 0) 1 1 := ⟨by decide +kernel, rfl⟩
theorem cM_seeAt_1 : Dc yM_seeAt 1 (.iconst 0) 1 2 := ⟨by decide +kernel, rfl⟩
theorem cM_seeAt_2 : Dc yM_seeAt 2 (.putfield 66) 3 5 := ⟨by decide +kernel, rfl⟩
theorem cM_seeAt_5 : Dc yM_seeAt 5 (.aload_n 0) 1 6 := ⟨by decide +kernel, rfl⟩
theorem cM_seeAt_6 : Dc yM_seeAt 6 (.iload_n 1) 1 7 := ⟨by decide +kernel, rfl⟩
theorem cM_seeAt_7 : Dc yM_seeAt 7 (.invokevirtual 134) 3 10 := ⟨by decide +kernel, rfl⟩
theorem cM_seeAt_10 : Db yM_seeAt 10 (.ifCond .eq 5) 3 13 (5) 15 := ⟨by decide +kernel, rfl, by decide⟩
theorem cM_seeAt_13 : Dc yM_seeAt 13 (.iconst (-1)) 1 14 := ⟨by decide +kernel, rfl⟩
theorem cM_seeAt_14 : Dc yM_seeAt 14 (.ireturn) 1 15 := ⟨by decide +kernel, rfl⟩
theorem cM_seeAt_15 : Dc yM_seeAt 15 (.iload_n 2) 1 16 := ⟨by decide +kernel, rfl⟩
theorem cM_seeAt_16 : Dc yM_seeAt 16 (.i2l) 1 17 := ⟨by decide +kernel, rfl⟩
theorem cM_seeAt_17 : Dc yM_seeAt 17 (.ldc2_w 210) 3 20 := ⟨by decide +kernel, rfl⟩
theorem cM_seeAt_20 : Dc yM_seeAt 20 (.ldc2_w 142) 3 23 := ⟨by decide +kernel, rfl⟩
theorem cM_seeAt_23 : Dc yM_seeAt 23 (.invokestatic 69) 3 26 := ⟨by decide +kernel, rfl⟩
theorem cM_seeAt_26 : Db yM_seeAt 26 (.ifCond .ne 6) 3 29 (6) 32 := ⟨by decide +kernel, rfl, by decide⟩
theorem cM_seeAt_29 : Dc yM_seeAt 29 (.bipush (-2)) 2 31 := ⟨by decide +kernel, rfl⟩
theorem cM_seeAt_31 : Dc yM_seeAt 31 (.ireturn) 1 32 := ⟨by decide +kernel, rfl⟩
theorem cM_seeAt_32 : Dc yM_seeAt 32 (.aload_n 0) 1 33 := ⟨by decide +kernel, rfl⟩
theorem cM_seeAt_33 : Dc yM_seeAt 33 (.getfield 131) 3 36 := ⟨by decide +kernel, rfl⟩
theorem cM_seeAt_36 : Dc yM_seeAt 36 (.bipush 6) 2 38 := ⟨by decide +kernel, rfl⟩
theorem cM_seeAt_38 : Db yM_seeAt 38 (.if_icmp .ne 6) 3 41 (6) 44 := ⟨by decide +kernel, rfl, by decide⟩
theorem cM_seeAt_41 : Dc yM_seeAt 41 (.bipush (-4)) 2 43 := ⟨by decide +kernel, rfl⟩
theorem cM_seeAt_43 : Dc yM_seeAt 43 (.ireturn) 1 44 := ⟨by decide +kernel, rfl⟩
theorem cM_seeAt_44 : Dc yM_seeAt 44 (.aload_n 0) 1 45 := ⟨by decide +kernel, rfl⟩
theorem cM_seeAt_45 : Dc yM_seeAt 45 (.getfield 45) 3 48 := ⟨by decide +kernel, rfl⟩
theorem cM_seeAt_48 : Dc yM_seeAt 48 (.aload_n 0) 1 49 := ⟨by decide +kernel, rfl⟩
theorem cM_seeAt_49 : Dc yM_seeAt 49 (.getfield 131) 3 52 := ⟨by decide +kernel, rfl⟩
theorem cM_seeAt_52 : Dc yM_seeAt 52 (.iload_n 1) 1 53 := ⟨by decide +kernel, rfl⟩
theorem cM_seeAt_53 : Dc yM_seeAt 53 (.iastore) 1 54 := ⟨by decide +kernel, rfl⟩
theorem cM_seeAt_54 : Dc yM_seeAt 54 (.aload_n 0) 1 55 := ⟨by decide +kernel, rfl⟩
theorem cM_seeAt_55 : Dc yM_seeAt 55 (.getfield 48) 3 58 := ⟨by decide +kernel, rfl⟩
theorem cM_seeAt_58 : Dc yM_seeAt 58 (.aload_n 0) 1 59 := ⟨by decide +kernel, rfl⟩
theorem cM_seeAt_59 : Dc yM_seeAt 59 (.getfield 131) 3 62 := ⟨by decide +kernel, rfl⟩
theorem cM_seeAt_62 : Dc yM_seeAt 62 (.iload_n 2) 1 63 := ⟨by decide +kernel, rfl⟩
theorem cM_seeAt_63 : Dc yM_seeAt 63 (.iastore) 1 64 := ⟨by decide +kernel, rfl⟩
theorem cM_seeAt_64 : Dc yM_seeAt 64 (.aload_n 0) 1 65 := ⟨by decide +kernel, rfl⟩
theorem cM_seeAt_65 : Dc yM_seeAt 65 (.dup) 1 66 := ⟨by decide +kernel, rfl⟩
theorem cM_seeAt_66 : Dc yM_seeAt 66 (.getfield 131) 3 69 := ⟨by decide +kernel, rfl⟩
theorem cM_seeAt_69 : Dc yM_seeAt 69 (.iconst 1) 1 70 := ⟨by decide +kernel, rfl⟩
theorem cM_seeAt_70 : Dc yM_seeAt 70 (.iadd) 1 71 := ⟨by decide +kernel, rfl⟩
theorem cM_seeAt_71 : Dc yM_seeAt 71 (.putfield 131) 3 74 := ⟨by decide +kernel, rfl⟩
theorem cM_seeAt_74 : Dc yM_seeAt 74 (.aload_n 0) 1 75 := ⟨by decide +kernel, rfl⟩
theorem cM_seeAt_75 : Dc yM_seeAt 75 (.getfield 131) 3 78 := ⟨by decide +kernel, rfl⟩
theorem cM_seeAt_78 : Dc yM_seeAt 78 (.ireturn) 1 79 := ⟨by decide +kernel, rfl⟩
theorem cM_unsee_0 : Dc yM_unsee 0 (.aload_n 0) 1 1 := ⟨by decide +kernel, rfl⟩
theorem cM_unsee_1 : Dc yM_unsee 1 (.iconst 0) 1 2 := ⟨by decide +kernel, rfl⟩
theorem cM_unsee_2 : Dc yM_unsee 2 (.putfield 66) 3 5 := ⟨by decide +kernel, rfl⟩
theorem cM_unsee_5 : Dc yM_unsee 5 (.aload_n 0) 1 6 := ⟨by decide +kernel, rfl⟩
theorem cM_unsee_6 : Dc yM_unsee 6 (.getfield 131) 3 9 := ⟨by decide +kernel, rfl⟩
theorem cM_unsee_9 : Dc yM_unsee 9 (.istore_n 1) 1 10 := ⟨by decide +kernel, rfl⟩
theorem cM_unsee_10 : Dc yM_unsee 10 (.aload_n 0) 1 11 := ⟨by decide +kernel, rfl⟩
theorem cM_unsee_11 : Dc yM_unsee 11 (.iconst 0) 1 12 := ⟨by decide +kernel, rfl⟩
theorem cM_unsee_12 : Dc yM_unsee 12 (.putfield 131) 3 15 := ⟨by decide +kernel, rfl⟩
theorem cM_unsee_15 : Dc yM_unsee 15 (.iload_n 1) 1 16 := ⟨by decide +kernel, rfl⟩
theorem cM_unsee_16 : Dc yM_unsee 16 (.ireturn) 1 17 := ⟨by decide +kernel, rfl⟩
theorem cM_winds_0 : Dc yM_winds 0 (.aload_n 0) 1 1 := ⟨by decide +kernel, rfl⟩
theorem cM_winds_1 : Dc yM_winds 1 (.iconst 0) 1 2 := ⟨by decide +kernel, rfl⟩
theorem cM_winds_2 : Dc yM_winds 2 (.putfield 66) 3 5 := ⟨by decide +kernel, rfl⟩
theorem cM_winds_5 : Dc yM_winds 5 (.iload_n 1) 1 6 := ⟨by decide +kernel, rfl⟩
theorem cM_winds_6 : Dc yM_winds 6 (.i2l) 1 7 := ⟨by decide +kernel, rfl⟩
theorem cM_winds_7 : Dc yM_winds 7 (.lconst 0) 1 8 := ⟨by decide +kernel, rfl⟩
theorem cM_winds_8 : Dc yM_winds 8 (.ldc2_w 149) 3 11 := ⟨by decide +kernel, rfl⟩
theorem cM_winds_11 : Dc yM_winds 11 (.invokestatic 69) 3 14 := ⟨by decide +kernel, rfl⟩
theorem cM_winds_14 : Db yM_winds 14 (.ifCond .ne 6) 3 17 (6) 20 := ⟨by decide +kernel, rfl, by decide⟩
theorem cM_winds_17 : Dc yM_winds 17 (.bipush (-2)) 2 19 := ⟨by decide +kernel, rfl⟩
theorem cM_winds_19 : Dc yM_winds 19 (.ireturn) 1 20 := ⟨by decide +kernel, rfl⟩
theorem cM_winds_20 : Dc yM_winds 20 (.aload_n 0) 1 21 := ⟨by decide +kernel, rfl⟩
theorem cM_winds_21 : Dc yM_winds 21 (.invokevirtual 221) 3 24 := ⟨by decide +kernel, rfl⟩
theorem cM_winds_24 : Dc yM_winds 24 (.iload_n 1) 1 25 := ⟨by decide +kernel, rfl⟩
theorem cM_winds_25 : Db yM_winds 25 (.ifCond .ne 10) 3 28 (10) 35 := ⟨by decide +kernel, rfl, by decide⟩
theorem cM_winds_28 : Dc yM_winds 28 (.aload_n 0) 1 29 := ⟨by decide +kernel, rfl⟩
theorem cM_winds_29 : Dc yM_winds 29 (.getfield 212) 3 32 := ⟨by decide +kernel, rfl⟩
theorem cM_winds_32 : Db yM_winds 32 (.goto 19) 3 35 (19) 51 := ⟨by decide +kernel, rfl, by decide⟩
theorem cM_winds_35 : Dc yM_winds 35 (.iload_n 1) 1 36 := ⟨by decide +kernel, rfl⟩
theorem cM_winds_36 : Dc yM_winds 36 (.iconst 1) 1 37 := ⟨by decide +kernel, rfl⟩
theorem cM_winds_37 : Db yM_winds 37 (.if_icmp .ne 10) 3 40 (10) 47 := ⟨by decide +kernel, rfl, by decide⟩
theorem cM_winds_40 : Dc yM_winds 40 (.aload_n 0) 1 41 := ⟨by decide +kernel, rfl⟩
theorem cM_winds_41 : Dc yM_winds 41 (.getfield 215) 3 44 := ⟨by decide +kernel, rfl⟩
theorem cM_winds_44 : Db yM_winds 44 (.goto 7) 3 47 (7) 51 := ⟨by decide +kernel, rfl, by decide⟩
theorem cM_winds_47 : Dc yM_winds 47 (.aload_n 0) 1 48 := ⟨by decide +kernel, rfl⟩
theorem cM_winds_48 : Dc yM_winds 48 (.getfield 218) 3 51 := ⟨by decide +kernel, rfl⟩
theorem cM_winds_51 : Dc yM_winds 51 (.ireturn) 1 52 := ⟨by decide +kernel, rfl⟩
theorem cM_findWinds_0 : Dc yM_findWinds 0 (.aload_n 0) 1 1 := ⟨by decide +kernel, rfl⟩
theorem cM_findWinds_1 : Dc yM_findWinds 1 (.iconst 0) 1 2 := ⟨by decide +kernel, rfl⟩
theorem cM_findWinds_2 : Dc yM_findWinds 2 (.putfield 212) 3 5 := ⟨by decide +kernel, rfl⟩
theorem cM_findWinds_5 : Dc yM_findWinds 5 (.aload_n 0) 1 6 := ⟨by decide +kernel, rfl⟩
theorem cM_findWinds_6 : Dc yM_findWinds 6 (.bipush (-9)) 2 8 := ⟨by decide +kernel, rfl⟩
theorem cM_findWinds_8 : Dc yM_findWinds 8 (.putfield 215) 3 11 := ⟨by decide +kernel, rfl⟩
theorem cM_findWinds_11 : Dc yM_findWinds 11 (.aload_n 0) 1 12 := ⟨by decide +kernel, rfl⟩
theorem cM_findWinds_12 : Dc yM_findWinds 12 (.bipush (-9)) 2 14 := ⟨by decide +kernel, rfl⟩
theorem cM_findWinds_14 : Dc yM_findWinds 14 (.putfield 218) 3 17 := ⟨by decide +kernel, rfl⟩
theorem cM_findWinds_17 : Dc yM_findWinds 17 (.iconst 0) 1 18 := ⟨by decide +kernel, rfl⟩
theorem cM_findWinds_18 : Dc yM_findWinds 18 (.istore_n 1) 1 19 := ⟨by decide +kernel, rfl⟩
theorem cM_findWinds_19 : Dc yM_findWinds 19 (.iload_n 1) 1 20 := ⟨by decide +kernel, rfl⟩
theorem cM_findWinds_20 : Dc yM_findWinds 20 (.bipush 25) 2 22 := ⟨by decide +kernel, rfl⟩
theorem cM_findWinds_22 : Db yM_findWinds 22 (.if_icmp .ge 181) 3 25 (181) 203 := ⟨by decide +kernel, rfl, by decide⟩
theorem cM_findWinds_25 : Dc yM_findWinds 25 (.aload_n 0) 1 26 := ⟨by decide +kernel, rfl⟩
theorem cM_findWinds_26 : Dc yM_findWinds 26 (.invokevirtual 168) 3 29 := ⟨by decide +kernel, rfl⟩
theorem cM_findWinds_29 : Dc yM_findWinds 29 (.aload_n 0) 1 30 := ⟨by decide +kernel, rfl⟩
theorem cM_findWinds_30 : Dc yM_findWinds 30 (.getfield 32) 3 33 := ⟨by decide +kernel, rfl⟩
theorem cM_findWinds_33 : Dc yM_findWinds 33 (.iconst 1) 1 34 := ⟨by decide +kernel, rfl⟩
theorem cM_findWinds_34 : Dc yM_findWinds 34 (.iload_n 1) 1 35 := ⟨by decide +kernel, rfl⟩
theorem cM_findWinds_35 : Dc yM_findWinds 35 (.iconst 5) 1 36 := ⟨by decide +kernel, rfl⟩
theorem cM_findWinds_36 : Dc yM_findWinds 36 (.idiv) 1 37 := ⟨by decide +kernel, rfl⟩
theorem cM_findWinds_37 : Dc yM_findWinds 37 (.iconst 2) 1 38 := ⟨by decide +kernel, rfl⟩
theorem cM_findWinds_38 : Dc yM_findWinds 38 (.isub) 1 39 := ⟨by decide +kernel, rfl⟩
theorem cM_findWinds_39 : Dc yM_findWinds 39 (.iastore) 1 40 := ⟨by decide +kernel, rfl⟩
theorem cM_findWinds_40 : Dc yM_findWinds 40 (.aload_n 0) 1 41 := ⟨by decide +kernel, rfl⟩
theorem cM_findWinds_41 : Dc yM_findWinds 41 (.getfield 32) 3 44 := ⟨by decide +kernel, rfl⟩
theorem cM_findWinds_44 : Dc yM_findWinds 44 (.iconst 2) 1 45 := ⟨by decide +kernel, rfl⟩
theorem cM_findWinds_45 : Dc yM_findWinds 45 (.iload_n 1) 1 46 := ⟨by decide +kernel, rfl⟩
theorem cM_findWinds_46 : Dc yM_findWinds 46 (.iconst 5) 1 47 := ⟨by decide +kernel, rfl⟩
theorem cM_findWinds_47 : Dc yM_findWinds 47 (.irem) 1 48 := ⟨by decide +kernel, rfl⟩
theorem cM_findWinds_48 : Dc yM_findWinds 48 (.iconst 2) 1 49 := ⟨by decide +kernel, rfl⟩
theorem cM_findWinds_49 : Dc yM_findWinds 49 (.isub) 1 50 := ⟨by decide +kernel, rfl⟩
theorem cM_findWinds_50 : Dc yM_findWinds 50 (.iastore) 1 51 := ⟨by decide +kernel, rfl⟩
theorem cM_findWinds_51 : Dc yM_findWinds 51 (.aload_n 0) 1 52 := ⟨by decide +kernel, rfl⟩
theorem cM_findWinds_52 : Dc yM_findWinds 52 (.aload_n 0) 1 53 := ⟨by decide +kernel, rfl⟩
theorem cM_findWinds_53 : Dc yM_findWinds 53 (.getfield 32) 3 56 := ⟨by decide +kernel, rfl⟩
theorem cM_findWinds_56 : Dc yM_findWinds 56 (.aload_n 0) 1 57 := ⟨by decide +kernel, rfl⟩
theorem cM_findWinds_57 : Dc yM_findWinds 57 (.getfield 17) 3 60 := ⟨by decide +kernel, rfl⟩
theorem cM_findWinds_60 : Dc yM_findWinds 60 (.invokevirtual 120) 3 63 := ⟨by decide +kernel, rfl⟩
theorem cM_findWinds_63 : Dc yM_findWinds 63 (.iconst 1) 1 64 := ⟨by decide +kernel, rfl⟩
theorem cM_findWinds_64 : Dc yM_findWinds 64 (.istore_n 2) 1 65 := ⟨by decide +kernel, rfl⟩
theorem cM_findWinds_65 : Dc yM_findWinds 65 (.iconst 0) 1 66 := ⟨by decide +kernel, rfl⟩
theorem cM_findWinds_66 : Dc yM_findWinds 66 (.istore_n 3) 1 67 := ⟨by decide +kernel, rfl⟩
theorem cM_findWinds_67 : Dc yM_findWinds 67 (.iload_n 3) 1 68 := ⟨by decide +kernel, rfl⟩
theorem cM_findWinds_68 : Dc yM_findWinds 68 (.aload_n 0) 1 69 := ⟨by decide +kernel, rfl⟩
theorem cM_findWinds_69 : Dc yM_findWinds 69 (.getfield 131) 3 72 := ⟨by decide +kernel, rfl⟩
theorem cM_findWinds_72 : Db yM_findWinds 72 (.if_icmp .ge 54) 3 75 (54) 126 := ⟨by decide +kernel, rfl, by decide⟩
theorem cM_findWinds_75 : Dc yM_findWinds 75 (.iload_n 2) 1 76 := ⟨by decide +kernel, rfl⟩
theorem cM_findWinds_76 : Db yM_findWinds 76 (.ifCond .eq 50) 3 79 (50) 126 := ⟨by decide +kernel, rfl, by decide⟩
theorem cM_findWinds_79 : Dc yM_findWinds 79 (.aload_n 0) 1 80 := ⟨by decide +kernel, rfl⟩
theorem cM_findWinds_80 : Dc yM_findWinds 80 (.getfield 45) 3 83 := ⟨by decide +kernel, rfl⟩
theorem cM_findWinds_83 : Dc yM_findWinds 83 (.iload_n 3) 1 84 := ⟨by decide +kernel, rfl⟩
theorem cM_findWinds_84 : Dc yM_findWinds 84 (.iaload) 1 85 := ⟨by decide +kernel, rfl⟩
theorem cM_findWinds_85 : Dc yM_findWinds 85 (.aload_n 0) 1 86 := ⟨by decide +kernel, rfl⟩
theorem cM_findWinds_86 : Dc yM_findWinds 86 (.getfield 29) 3 89 := ⟨by decide +kernel, rfl⟩
theorem cM_findWinds_89 : Dc yM_findWinds 89 (.iconst 0) 1 90 := ⟨by decide +kernel, rfl⟩
theorem cM_findWinds_90 : Dc yM_findWinds 90 (.iaload) 1 91 := ⟨by decide +kernel, rfl⟩
theorem cM_findWinds_91 : Db yM_findWinds 91 (.if_icmp .ge 23) 3 94 (23) 114 := ⟨by decide +kernel, rfl, by decide⟩
theorem cM_findWinds_94 : Dc yM_findWinds 94 (.aload_n 0) 1 95 := ⟨by decide +kernel, rfl⟩
theorem cM_findWinds_95 : Dc yM_findWinds 95 (.getfield 57) 3 98 := ⟨by decide +kernel, rfl⟩
theorem cM_findWinds_98 : Dc yM_findWinds 98 (.aload_n 0) 1 99 := ⟨by decide +kernel, rfl⟩
theorem cM_findWinds_99 : Dc yM_findWinds 99 (.getfield 45) 3 102 := ⟨by decide +kernel, rfl⟩
theorem cM_findWinds_102 : Dc yM_findWinds 102 (.iload_n 3) 1 103 := ⟨by decide +kernel, rfl⟩
theorem cM_findWinds_103 : Dc yM_findWinds 103 (.iaload) 1 104 := ⟨by decide +kernel, rfl⟩
theorem cM_findWinds_104 : Dc yM_findWinds 104 (.iaload) 1 105 := ⟨by decide +kernel, rfl⟩
theorem cM_findWinds_105 : Dc yM_findWinds 105 (.aload_n 0) 1 106 := ⟨by decide +kernel, rfl⟩
theorem cM_findWinds_106 : Dc yM_findWinds 106 (.getfield 48) 3 109 := ⟨by decide +kernel, rfl⟩
theorem cM_findWinds_109 : Dc yM_findWinds 109 (.iload_n 3) 1 110 := ⟨by decide +kernel, rfl⟩
theorem cM_findWinds_110 : Dc yM_findWinds 110 (.iaload) 1 111 := ⟨by decide +kernel, rfl⟩
theorem cM_findWinds_111 : Db yM_findWinds 111 (.if_icmp .ne 7) 3 114 (7) 118 := ⟨by decide +kernel, rfl, by decide⟩
theorem cM_findWinds_114 : Dc yM_findWinds 114 (.iconst 1) 1 115 := ⟨by decide +kernel, rfl⟩
theorem cM_findWinds_115 : Db yM_findWinds 115 (.goto 4) 3 118 (4) 119 := ⟨by decide +kernel, rfl, by decide⟩
theorem cM_findWinds_118 : Dc yM_findWinds 118 (.iconst 0) 1 119 := ⟨by decide +kernel, rfl⟩
theorem cM_findWinds_119 : Dc yM_findWinds 119 (.istore_n 2) 1 120 := ⟨by decide +kernel, rfl⟩
theorem cM_findWinds_120 : Dc yM_findWinds 120 (.iinc 3 1) 3 123 := ⟨by decide +kernel, rfl⟩
theorem cM_findWinds_123 : Db yM_findWinds 123 (.goto (-56)) 3 126 (-56) 67 := ⟨by decide +kernel, rfl, by decide⟩
theorem cM_findWinds_126 : Dc yM_findWinds 126 (.iload_n 2) 1 127 := ⟨by decide +kernel, rfl⟩
theorem cM_findWinds_127 : Db yM_findWinds 127 (.ifCond .eq 70) 3 130 (70) 197 := ⟨by decide +kernel, rfl, by decide⟩
theorem cM_findWinds_130 : Dc yM_findWinds 130 (.aload_n 0) 1 131 := ⟨by decide +kernel, rfl⟩
theorem cM_findWinds_131 : Dc yM_findWinds 131 (.aload_n 0) 1 132 := ⟨by decide +kernel, rfl⟩
theorem cM_findWinds_132 : Dc yM_findWinds 132 (.getfield 212) 3 135 := ⟨by decide +kernel, rfl⟩
theorem cM_findWinds_135 : Db yM_findWinds 135 (.ifCond .ne 16) 3 138 (16) 151 := ⟨by decide +kernel, rfl, by decide⟩
theorem cM_findWinds_138 : Dc yM_findWinds 138 (.bipush 10) 2 140 := ⟨by decide +kernel, rfl⟩
theorem cM_findWinds_140 : Dc yM_findWinds 140 (.iload_n 1) 1 141 := ⟨by decide +kernel, rfl⟩
theorem cM_findWinds_141 : Dc yM_findWinds 141 (.iconst 5) 1 142 := ⟨by decide +kernel, rfl⟩
theorem cM_findWinds_142 : Dc yM_findWinds 142 (.idiv) 1 143 := ⟨by decide +kernel, rfl⟩
theorem cM_findWinds_143 : Dc yM_findWinds 143 (.imul) 1 144 := ⟨by decide +kernel, rfl⟩
theorem cM_findWinds_144 : Dc yM_findWinds 144 (.iload_n 1) 1 145 := ⟨by decide +kernel, rfl⟩
theorem cM_findWinds_145 : Dc yM_findWinds 145 (.iconst 5) 1 146 := ⟨by decide +kernel, rfl⟩
theorem cM_findWinds_146 : Dc yM_findWinds 146 (.irem) 1 147 := ⟨by decide +kernel, rfl⟩
theorem cM_findWinds_147 : Dc yM_findWinds 147 (.iadd) 1 148 := ⟨by decide +kernel, rfl⟩
theorem cM_findWinds_148 : Db yM_findWinds 148 (.goto 7) 3 151 (7) 155 := ⟨by decide +kernel, rfl, by decide⟩
theorem cM_findWinds_151 : Dc yM_findWinds 151 (.aload_n 0) 1 152 := ⟨by decide +kernel, rfl⟩
theorem cM_findWinds_152 : Dc yM_findWinds 152 (.getfield 215) 3 155 := ⟨by decide +kernel, rfl⟩
theorem cM_findWinds_155 : Dc yM_findWinds 155 (.putfield 215) 3 158 := ⟨by decide +kernel, rfl⟩
theorem cM_findWinds_158 : Dc yM_findWinds 158 (.aload_n 0) 1 159 := ⟨by decide +kernel, rfl⟩
theorem cM_findWinds_159 : Dc yM_findWinds 159 (.aload_n 0) 1 160 := ⟨by decide +kernel, rfl⟩
theorem cM_findWinds_160 : Dc yM_findWinds 160 (.getfield 212) 3 163 := ⟨by decide +kernel, rfl⟩
theorem cM_findWinds_163 : Db yM_findWinds 163 (.ifCond .eq 13) 3 166 (13) 176 := ⟨by decide +kernel, rfl, by decide⟩
theorem cM_findWinds_166 : Dc yM_findWinds 166 (.aload_n 0) 1 167 := ⟨by decide +kernel, rfl⟩
theorem cM_findWinds_167 : Dc yM_findWinds 167 (.getfield 218) 3 170 := ⟨by decide +kernel, rfl⟩
theorem cM_findWinds_170 : Dc yM_findWinds 170 (.iload_n 1) 1 171 := ⟨by decide +kernel, rfl⟩
theorem cM_findWinds_171 : Dc yM_findWinds 171 (.iconst 5) 1 172 := ⟨by decide +kernel, rfl⟩
theorem cM_findWinds_172 : Dc yM_findWinds 172 (.idiv) 1 173 := ⟨by decide +kernel, rfl⟩
theorem cM_findWinds_173 : Db yM_findWinds 173 (.if_icmp .ne 9) 3 176 (9) 182 := ⟨by decide +kernel, rfl, by decide⟩
theorem cM_findWinds_176 : Dc yM_findWinds 176 (.iload_n 1) 1 177 := ⟨by decide +kernel, rfl⟩
theorem cM_findWinds_177 : Dc yM_findWinds 177 (.iconst 5) 1 178 := ⟨by decide +kernel, rfl⟩
theorem cM_findWinds_178 : Dc yM_findWinds 178 (.idiv) 1 179 := ⟨by decide +kernel, rfl⟩
theorem cM_findWinds_179 : Db yM_findWinds 179 (.goto 5) 3 182 (5) 184 := ⟨by decide +kernel, rfl, by decide⟩
theorem cM_findWinds_182 : Dc yM_findWinds 182 (.bipush (-9)) 2 184 := ⟨by decide +kernel, rfl⟩
theorem cM_findWinds_184 : Dc yM_findWinds 184 (.putfield 218) 3 187 := ⟨by decide +kernel, rfl⟩
theorem cM_findWinds_187 : Dc yM_findWinds 187 (.aload_n 0) 1 188 := ⟨by decide +kernel, rfl⟩
theorem cM_findWinds_188 : Dc yM_findWinds 188 (.dup) 1 189 := ⟨by decide +kernel, rfl⟩
theorem cM_findWinds_189 : Dc yM_findWinds 189 (.getfield 212) 3 192 := ⟨by decide +kernel, rfl⟩
theorem cM_findWinds_192 : Dc yM_findWinds 192 (.iconst 1) 1 193 := ⟨by decide +kernel, rfl⟩
theorem cM_findWinds_193 : Dc yM_findWinds 193 (.iadd) 1 194 := ⟨by decide +kernel, rfl⟩
theorem cM_findWinds_194 : Dc yM_findWinds 194 (.putfield 212) 3 197 := ⟨by decide +kernel, rfl⟩
theorem cM_findWinds_197 : Dc yM_findWinds 197 (.iinc 1 1) 3 200 := ⟨by decide +kernel, rfl⟩
theorem cM_findWinds_200 : Db yM_findWinds 200 (.goto (-181)) 3 203 (-181) 19 := ⟨by decide +kernel, rfl, by decide⟩
theorem cM_findWinds_203 : Dc yM_findWinds 203 (.return_) 1 204 := ⟨by decide +kernel, rfl⟩
theorem cM_rests_0 : Dc yM_rests 0 (.aload_n 0) 1 1 := ⟨by decide +kernel, rfl⟩
theorem cM_rests_1 : Dc yM_rests 1 (.iconst 0) 1 2 := ⟨by decide +kernel, rfl⟩
theorem cM_rests_2 : Dc yM_rests 2 (.putfield 66) 3 5 := ⟨by decide +kernel, rfl⟩
theorem cM_rests_5 : Dc yM_rests 5 (.aload_n 0) 1 6 := ⟨by decide +kernel, rfl⟩
theorem cM_rests_6 : Dc yM_rests 6 (.iload_n 1) 1 7 := ⟨by decide +kernel, rfl⟩
theorem cM_rests_7 : Dc yM_rests 7 (.invokevirtual 134) 3 10 := ⟨by decide +kernel, rfl⟩
theorem cM_rests_10 : Db yM_rests 10 (.ifCond .ne 11) 3 13 (11) 21 := ⟨by decide +kernel, rfl, by decide⟩
theorem cM_rests_13 : Dc yM_rests 13 (.aload_n 0) 1 14 := ⟨by decide +kernel, rfl⟩
theorem cM_rests_14 : Dc yM_rests 14 (.iload_n 2) 1 15 := ⟨by decide +kernel, rfl⟩
theorem cM_rests_15 : Dc yM_rests 15 (.invokevirtual 134) 3 18 := ⟨by decide +kernel, rfl⟩
theorem cM_rests_18 : Db yM_rests 18 (.ifCond .eq 5) 3 21 (5) 23 := ⟨by decide +kernel, rfl, by decide⟩
theorem cM_rests_21 : Dc yM_rests 21 (.iconst (-1)) 1 22 := ⟨by decide +kernel, rfl⟩
theorem cM_rests_22 : Dc yM_rests 22 (.ireturn) 1 23 := ⟨by decide +kernel, rfl⟩
theorem cM_rests_23 : Dc yM_rests 23 (.iload_n 1) 1 24 := ⟨by decide +kernel, rfl⟩
theorem cM_rests_24 : Dc yM_rests 24 (.iload_n 2) 1 25 := ⟨by decide +kernel, rfl⟩
theorem cM_rests_25 : Db yM_rests 25 (.if_icmp .eq 43) 3 28 (43) 68 := ⟨by decide +kernel, rfl, by decide⟩
theorem cM_rests_28 : Dc yM_rests 28 (.iload_n 3) 1 29 := ⟨by decide +kernel, rfl⟩
theorem cM_rests_29 : Dc yM_rests 29 (.i2l) 1 30 := ⟨by decide +kernel, rfl⟩
theorem cM_rests_30 : Dc yM_rests 30 (.ldc2_w 234) 3 33 := ⟨by decide +kernel, rfl⟩
theorem cM_rests_33 : Dc yM_rests 33 (.ldc2_w 236) 3 36 := ⟨by decide +kernel, rfl⟩
theorem cM_rests_36 : Dc yM_rests 36 (.invokestatic 69) 3 39 := ⟨by decide +kernel, rfl⟩
theorem cM_rests_39 : Db yM_rests 39 (.ifCond .eq 29) 3 42 (29) 68 := ⟨by decide +kernel, rfl, by decide⟩
theorem cM_rests_42 : Dc yM_rests 42 (.iload 4) 2 44 := ⟨by decide +kernel, rfl⟩
theorem cM_rests_44 : Dc yM_rests 44 (.i2l) 1 45 := ⟨by decide +kernel, rfl⟩
theorem cM_rests_45 : Dc yM_rests 45 (.ldc2_w 234) 3 48 := ⟨by decide +kernel, rfl⟩
theorem cM_rests_48 : Dc yM_rests 48 (.ldc2_w 236) 3 51 := ⟨by decide +kernel, rfl⟩
theorem cM_rests_51 : Dc yM_rests 51 (.invokestatic 69) 3 54 := ⟨by decide +kernel, rfl⟩
theorem cM_rests_54 : Db yM_rests 54 (.ifCond .eq 14) 3 57 (14) 68 := ⟨by decide +kernel, rfl, by decide⟩
theorem cM_rests_57 : Dc yM_rests 57 (.iload 5) 2 59 := ⟨by decide +kernel, rfl⟩
theorem cM_rests_59 : Dc yM_rests 59 (.i2l) 1 60 := ⟨by decide +kernel, rfl⟩
theorem cM_rests_60 : Dc yM_rests 60 (.lconst 0) 1 61 := ⟨by decide +kernel, rfl⟩
theorem cM_rests_61 : Dc yM_rests 61 (.lconst 1) 1 62 := ⟨by decide +kernel, rfl⟩
theorem cM_rests_62 : Dc yM_rests 62 (.invokestatic 69) 3 65 := ⟨by decide +kernel, rfl⟩
theorem cM_rests_65 : Db yM_rests 65 (.ifCond .ne 6) 3 68 (6) 71 := ⟨by decide +kernel, rfl, by decide⟩
theorem cM_rests_68 : Dc yM_rests 68 (.bipush (-2)) 2 70 := ⟨by decide +kernel, rfl⟩
theorem cM_rests_70 : Dc yM_rests 70 (.ireturn) 1 71 := ⟨by decide +kernel, rfl⟩
theorem cM_rests_71 : Dc yM_rests 71 (.aload_n 0) 1 72 := ⟨by decide +kernel, rfl⟩
theorem cM_rests_72 : Dc yM_rests 72 (.iload_n 1) 1 73 := ⟨by decide +kernel, rfl⟩
theorem cM_rests_73 : Dc yM_rests 73 (.iload_n 2) 1 74 := ⟨by decide +kernel, rfl⟩
theorem cM_rests_74 : Dc yM_rests 74 (.iload_n 3) 1 75 := ⟨by decide +kernel, rfl⟩
theorem cM_rests_75 : Dc yM_rests 75 (.iload 4) 2 77 := ⟨by decide +kernel, rfl⟩
theorem cM_rests_77 : Dc yM_rests 77 (.invokevirtual 238) 3 80 := ⟨by decide +kernel, rfl⟩
theorem cM_rests_80 : Dc yM_rests 80 (.iload 5) 2 82 := ⟨by decide +kernel, rfl⟩
theorem cM_rests_82 : Db yM_rests 82 (.ifCond .ne 10) 3 85 (10) 92 := ⟨by decide +kernel, rfl, by decide⟩
theorem cM_rests_85 : Dc yM_rests 85 (.aload_n 0) 1 86 := ⟨by decide +kernel, rfl⟩
theorem cM_rests_86 : Dc yM_rests 86 (.getfield 224) 3 89 := ⟨by decide +kernel, rfl⟩
theorem cM_rests_89 : Db yM_rests 89 (.goto 7) 3 92 (7) 96 := ⟨by decide +kernel, rfl, by decide⟩
theorem cM_rests_92 : Dc yM_rests 92 (.aload_n 0) 1 93 := ⟨by decide +kernel, rfl⟩
theorem cM_rests_93 : Dc yM_rests 93 (.getfield 227) 3 96 := ⟨by decide +kernel, rfl⟩
theorem cM_rests_96 : Dc yM_rests 96 (.ireturn) 1 97 := ⟨by decide +kernel, rfl⟩
theorem cM_findRests_0 : Dc yM_findRests 0 (.aload_n 0) 1 1 := ⟨by decide +kernel, rfl⟩
theorem cM_findRests_1 : Dc yM_findRests 1 (.iconst 0) 1 2 := ⟨by decide +kernel, rfl⟩
theorem cM_findRests_2 : Dc yM_findRests 2 (.putfield 224) 3 5 := ⟨by decide +kernel, rfl⟩
theorem cM_findRests_5 : Dc yM_findRests 5 (.aload_n 0) 1 6 := ⟨by decide +kernel, rfl⟩
theorem cM_findRests_6 : Dc yM_findRests 6 (.bipush (-9)) 2 8 := ⟨by decide +kernel, rfl⟩
theorem cM_findRests_8 : Dc yM_findRests 8 (.putfield 227) 3 11 := ⟨by decide +kernel, rfl⟩
theorem cM_findRests_11 : Dc yM_findRests 11 (.bipush (-2)) 2 13 := ⟨by decide +kernel, rfl⟩
theorem cM_findRests_13 : Dc yM_findRests 13 (.istore 5) 2 15 := ⟨by decide +kernel, rfl⟩
theorem cM_findRests_15 : Dc yM_findRests 15 (.iload 5) 2 17 := ⟨by decide +kernel, rfl⟩
theorem cM_findRests_17 : Dc yM_findRests 17 (.iconst 2) 1 18 := ⟨by decide +kernel, rfl⟩
theorem cM_findRests_18 : Db yM_findRests 18 (.if_icmp .gt 174) 3 21 (174) 192 := ⟨by decide +kernel, rfl, by decide⟩
theorem cM_findRests_21 : Dc yM_findRests 21 (.bipush (-2)) 2 23 := ⟨by decide +kernel, rfl⟩
theorem cM_findRests_23 : Dc yM_findRests 23 (.istore 6) 2 25 := ⟨by decide +kernel, rfl⟩
theorem cM_findRests_25 : Dc yM_findRests 25 (.iload 6) 2 27 := ⟨by decide +kernel, rfl⟩
theorem cM_findRests_27 : Dc yM_findRests 27 (.iconst 2) 1 28 := ⟨by decide +kernel, rfl⟩
theorem cM_findRests_28 : Db yM_findRests 28 (.if_icmp .gt 158) 3 31 (158) 186 := ⟨by decide +kernel, rfl, by decide⟩
theorem cM_findRests_31 : Dc yM_findRests 31 (.aload_n 0) 1 32 := ⟨by decide +kernel, rfl⟩
theorem cM_findRests_32 : Dc yM_findRests 32 (.iload_n 1) 1 33 := ⟨by decide +kernel, rfl⟩
theorem cM_findRests_33 : Dc yM_findRests 33 (.iload 5) 2 35 := ⟨by decide +kernel, rfl⟩
theorem cM_findRests_35 : Dc yM_findRests 35 (.iload_n 2) 1 36 := ⟨by decide +kernel, rfl⟩
theorem cM_findRests_36 : Dc yM_findRests 36 (.iload 6) 2 38 := ⟨by decide +kernel, rfl⟩
theorem cM_findRests_38 : Dc yM_findRests 38 (.iconst 1) 1 39 := ⟨by decide +kernel, rfl⟩
theorem cM_findRests_39 : Dc yM_findRests 39 (.iload_n 3) 1 40 := ⟨by decide +kernel, rfl⟩
theorem cM_findRests_40 : Dc yM_findRests 40 (.invokevirtual 230) 3 43 := ⟨by decide +kernel, rfl⟩
theorem cM_findRests_43 : Dc yM_findRests 43 (.istore 7) 2 45 := ⟨by decide +kernel, rfl⟩
theorem cM_findRests_45 : Dc yM_findRests 45 (.aload_n 0) 1 46 := ⟨by decide +kernel, rfl⟩
theorem cM_findRests_46 : Dc yM_findRests 46 (.iload_n 1) 1 47 := ⟨by decide +kernel, rfl⟩
theorem cM_findRests_47 : Dc yM_findRests 47 (.iload 5) 2 49 := ⟨by decide +kernel, rfl⟩
theorem cM_findRests_49 : Dc yM_findRests 49 (.iload_n 2) 1 50 := ⟨by decide +kernel, rfl⟩
theorem cM_findRests_50 : Dc yM_findRests 50 (.iload 6) 2 52 := ⟨by decide +kernel, rfl⟩
theorem cM_findRests_52 : Dc yM_findRests 52 (.iconst 0) 1 53 := ⟨by decide +kernel, rfl⟩
theorem cM_findRests_53 : Dc yM_findRests 53 (.iload 4) 2 55 := ⟨by decide +kernel, rfl⟩
theorem cM_findRests_55 : Dc yM_findRests 55 (.invokevirtual 230) 3 58 := ⟨by decide +kernel, rfl⟩
theorem cM_findRests_58 : Dc yM_findRests 58 (.istore 8) 2 60 := ⟨by decide +kernel, rfl⟩
theorem cM_findRests_60 : Dc yM_findRests 60 (.iconst 1) 1 61 := ⟨by decide +kernel, rfl⟩
theorem cM_findRests_61 : Dc yM_findRests 61 (.istore 9) 2 63 := ⟨by decide +kernel, rfl⟩
theorem cM_findRests_63 : Dc yM_findRests 63 (.bipush (-2)) 2 65 := ⟨by decide +kernel, rfl⟩
theorem cM_findRests_65 : Dc yM_findRests 65 (.istore 10) 2 67 := ⟨by decide +kernel, rfl⟩
theorem cM_findRests_67 : Dc yM_findRests 67 (.iload 10) 2 69 := ⟨by decide +kernel, rfl⟩
theorem cM_findRests_69 : Dc yM_findRests 69 (.iconst 2) 1 70 := ⟨by decide +kernel, rfl⟩
theorem cM_findRests_70 : Db yM_findRests 70 (.if_icmp .gt 56) 3 73 (56) 126 := ⟨by decide +kernel, rfl, by decide⟩
theorem cM_findRests_73 : Dc yM_findRests 73 (.iload 9) 2 75 := ⟨by decide +kernel, rfl⟩
theorem cM_findRests_75 : Db yM_findRests 75 (.ifCond .eq 42) 3 78 (42) 117 := ⟨by decide +kernel, rfl, by decide⟩
theorem cM_findRests_78 : Dc yM_findRests 78 (.aload_n 0) 1 79 := ⟨by decide +kernel, rfl⟩
theorem cM_findRests_79 : Dc yM_findRests 79 (.iload_n 1) 1 80 := ⟨by decide +kernel, rfl⟩
theorem cM_findRests_80 : Dc yM_findRests 80 (.iload 10) 2 82 := ⟨by decide +kernel, rfl⟩
theorem cM_findRests_82 : Dc yM_findRests 82 (.iload_n 2) 1 83 := ⟨by decide +kernel, rfl⟩
theorem cM_findRests_83 : Dc yM_findRests 83 (.iload 6) 2 85 := ⟨by decide +kernel, rfl⟩
theorem cM_findRests_85 : Dc yM_findRests 85 (.iconst 1) 1 86 := ⟨by decide +kernel, rfl⟩
theorem cM_findRests_86 : Dc yM_findRests 86 (.iload_n 3) 1 87 := ⟨by decide +kernel, rfl⟩
theorem cM_findRests_87 : Dc yM_findRests 87 (.invokevirtual 230) 3 90 := ⟨by decide +kernel, rfl⟩
theorem cM_findRests_90 : Dc yM_findRests 90 (.iload 7) 2 92 := ⟨by decide +kernel, rfl⟩
theorem cM_findRests_92 : Db yM_findRests 92 (.if_icmp .lt 25) 3 95 (25) 117 := ⟨by decide +kernel, rfl, by decide⟩
theorem cM_findRests_95 : Dc yM_findRests 95 (.aload_n 0) 1 96 := ⟨by decide +kernel, rfl⟩
theorem cM_findRests_96 : Dc yM_findRests 96 (.iload_n 1) 1 97 := ⟨by decide +kernel, rfl⟩
theorem cM_findRests_97 : Dc yM_findRests 97 (.iload 5) 2 99 := ⟨by decide +kernel, rfl⟩
theorem cM_findRests_99 : Dc yM_findRests 99 (.iload_n 2) 1 100 := ⟨by decide +kernel, rfl⟩
theorem cM_findRests_100 : Dc yM_findRests 100 (.iload 10) 2 102 := ⟨by decide +kernel, rfl⟩
theorem cM_findRests_102 : Dc yM_findRests 102 (.iconst 0) 1 103 := ⟨by decide +kernel, rfl⟩
theorem cM_findRests_103 : Dc yM_findRests 103 (.iload 4) 2 105 := ⟨by decide +kernel, rfl⟩
theorem cM_findRests_105 : Dc yM_findRests 105 (.invokevirtual 230) 3 108 := ⟨by decide +kernel, rfl⟩
theorem cM_findRests_108 : Dc yM_findRests 108 (.iload 8) 2 110 := ⟨by decide +kernel, rfl⟩
theorem cM_findRests_110 : Db yM_findRests 110 (.if_icmp .lt 7) 3 113 (7) 117 := ⟨by decide +kernel, rfl, by decide⟩
theorem cM_findRests_113 : Dc yM_findRests 113 (.iconst 1) 1 114 := ⟨by decide +kernel, rfl⟩
theorem cM_findRests_114 : Db yM_findRests 114 (.goto 4) 3 117 (4) 118 := ⟨by decide +kernel, rfl, by decide⟩
theorem cM_findRests_117 : Dc yM_findRests 117 (.iconst 0) 1 118 := ⟨by decide +kernel, rfl⟩
theorem cM_findRests_118 : Dc yM_findRests 118 (.istore 9) 2 120 := ⟨by decide +kernel, rfl⟩
theorem cM_findRests_120 : Dc yM_findRests 120 (.iinc 10 1) 3 123 := ⟨by decide +kernel, rfl⟩
theorem cM_findRests_123 : Db yM_findRests 123 (.goto (-56)) 3 126 (-56) 67 := ⟨by decide +kernel, rfl, by decide⟩
theorem cM_findRests_126 : Dc yM_findRests 126 (.aload_n 0) 1 127 := ⟨by decide +kernel, rfl⟩
theorem cM_findRests_127 : Dc yM_findRests 127 (.iload 9) 2 129 := ⟨by decide +kernel, rfl⟩
theorem cM_findRests_129 : Db yM_findRests 129 (.ifCond .eq 25) 3 132 (25) 154 := ⟨by decide +kernel, rfl, by decide⟩
theorem cM_findRests_132 : Dc yM_findRests 132 (.aload_n 0) 1 133 := ⟨by decide +kernel, rfl⟩
theorem cM_findRests_133 : Dc yM_findRests 133 (.getfield 224) 3 136 := ⟨by decide +kernel, rfl⟩
theorem cM_findRests_136 : Db yM_findRests 136 (.ifCond .ne 18) 3 139 (18) 154 := ⟨by decide +kernel, rfl, by decide⟩
theorem cM_findRests_139 : Dc yM_findRests 139 (.bipush 10) 2 141 := ⟨by decide +kernel, rfl⟩
theorem cM_findRests_141 : Dc yM_findRests 141 (.iload 5) 2 143 := ⟨by decide +kernel, rfl⟩
theorem cM_findRests_143 : Dc yM_findRests 143 (.iconst 2) 1 144 := ⟨by decide +kernel, rfl⟩
theorem cM_findRests_144 : Dc yM_findRests 144 (.iadd) 1 145 := ⟨by decide +kernel, rfl⟩
theorem cM_findRests_145 : Dc yM_findRests 145 (.imul) 1 146 := ⟨by decide +kernel, rfl⟩
theorem cM_findRests_146 : Dc yM_findRests 146 (.iload 6) 2 148 := ⟨by decide +kernel, rfl⟩
theorem cM_findRests_148 : Dc yM_findRests 148 (.iadd) 1 149 := ⟨by decide +kernel, rfl⟩
theorem cM_findRests_149 : Dc yM_findRests 149 (.iconst 2) 1 150 := ⟨by decide +kernel, rfl⟩
theorem cM_findRests_150 : Dc yM_findRests 150 (.iadd) 1 151 := ⟨by decide +kernel, rfl⟩
theorem cM_findRests_151 : Db yM_findRests 151 (.goto 7) 3 154 (7) 158 := ⟨by decide +kernel, rfl, by decide⟩
theorem cM_findRests_154 : Dc yM_findRests 154 (.aload_n 0) 1 155 := ⟨by decide +kernel, rfl⟩
theorem cM_findRests_155 : Dc yM_findRests 155 (.getfield 227) 3 158 := ⟨by decide +kernel, rfl⟩
theorem cM_findRests_158 : Dc yM_findRests 158 (.putfield 227) 3 161 := ⟨by decide +kernel, rfl⟩
theorem cM_findRests_161 : Dc yM_findRests 161 (.aload_n 0) 1 162 := ⟨by decide +kernel, rfl⟩
theorem cM_findRests_162 : Dc yM_findRests 162 (.dup) 1 163 := ⟨by decide +kernel, rfl⟩
theorem cM_findRests_163 : Dc yM_findRests 163 (.getfield 224) 3 166 := ⟨by decide +kernel, rfl⟩
theorem cM_findRests_166 : Dc yM_findRests 166 (.iload 9) 2 168 := ⟨by decide +kernel, rfl⟩
theorem cM_findRests_168 : Db yM_findRests 168 (.ifCond .eq 7) 3 171 (7) 175 := ⟨by decide +kernel, rfl, by decide⟩
theorem cM_findRests_171 : Dc yM_findRests 171 (.iconst 1) 1 172 := ⟨by decide +kernel, rfl⟩
theorem cM_findRests_172 : Db yM_findRests 172 (.goto 4) 3 175 (4) 176 := ⟨by decide +kernel, rfl, by decide⟩
theorem cM_findRests_175 : Dc yM_findRests 175 (.iconst 0) 1 176 := ⟨by decide +kernel, rfl⟩
theorem cM_findRests_176 : Dc yM_findRests 176 (.iadd) 1 177 := ⟨by decide +kernel, rfl⟩
theorem cM_findRests_177 : Dc yM_findRests 177 (.putfield 224) 3 180 := ⟨by decide +kernel, rfl⟩
theorem cM_findRests_180 : Dc yM_findRests 180 (.iinc 6 1) 3 183 := ⟨by decide +kernel, rfl⟩
theorem cM_findRests_183 : Db yM_findRests 183 (.goto (-158)) 3 186 (-158) 25 := ⟨by decide +kernel, rfl, by decide⟩
theorem cM_findRests_186 : Dc yM_findRests 186 (.iinc 5 1) 3 189 := ⟨by decide +kernel, rfl⟩
theorem cM_findRests_189 : Db yM_findRests 189 (.goto (-174)) 3 192 (-174) 15 := ⟨by decide +kernel, rfl, by decide⟩
theorem cM_findRests_192 : Dc yM_findRests 192 (.return_) 1 193 := ⟨by decide +kernel, rfl⟩
theorem cM_farBy_0 : Dc yM_farBy 0 (.aload_n 0) 1 1 := ⟨by decide +kernel, rfl⟩
theorem cM_farBy_1 : Dc yM_farBy 1 (.invokevirtual 168) 3 4 := ⟨by decide +kernel, rfl⟩
theorem cM_farBy_4 : Dc yM_farBy 4 (.aload_n 0) 1 5 := ⟨by decide +kernel, rfl⟩
theorem cM_farBy_5 : Dc yM_farBy 5 (.getfield 32) 3 8 := ⟨by decide +kernel, rfl⟩
theorem cM_farBy_8 : Dc yM_farBy 8 (.bipush 8) 2 10 := ⟨by decide +kernel, rfl⟩
theorem cM_farBy_10 : Dc yM_farBy 10 (.iload_n 1) 1 11 := ⟨by decide +kernel, rfl⟩
theorem cM_farBy_11 : Dc yM_farBy 11 (.iadd) 1 12 := ⟨by decide +kernel, rfl⟩
theorem cM_farBy_12 : Dc yM_farBy 12 (.iload_n 2) 1 13 := ⟨by decide +kernel, rfl⟩
theorem cM_farBy_13 : Dc yM_farBy 13 (.iastore) 1 14 := ⟨by decide +kernel, rfl⟩
theorem cM_farBy_14 : Dc yM_farBy 14 (.aload_n 0) 1 15 := ⟨by decide +kernel, rfl⟩
theorem cM_farBy_15 : Dc yM_farBy 15 (.getfield 32) 3 18 := ⟨by decide +kernel, rfl⟩
theorem cM_farBy_18 : Dc yM_farBy 18 (.bipush 8) 2 20 := ⟨by decide +kernel, rfl⟩
theorem cM_farBy_20 : Dc yM_farBy 20 (.iload_n 3) 1 21 := ⟨by decide +kernel, rfl⟩
theorem cM_farBy_21 : Dc yM_farBy 21 (.iadd) 1 22 := ⟨by decide +kernel, rfl⟩
theorem cM_farBy_22 : Dc yM_farBy 22 (.iload 4) 2 24 := ⟨by decide +kernel, rfl⟩
theorem cM_farBy_24 : Dc yM_farBy 24 (.iastore) 1 25 := ⟨by decide +kernel, rfl⟩
theorem cM_farBy_25 : Dc yM_farBy 25 (.aload_n 0) 1 26 := ⟨by decide +kernel, rfl⟩
theorem cM_farBy_26 : Dc yM_farBy 26 (.aload_n 0) 1 27 := ⟨by decide +kernel, rfl⟩
theorem cM_farBy_27 : Dc yM_farBy 27 (.getfield 32) 3 30 := ⟨by decide +kernel, rfl⟩
theorem cM_farBy_30 : Dc yM_farBy 30 (.aload_n 0) 1 31 := ⟨by decide +kernel, rfl⟩
theorem cM_farBy_31 : Dc yM_farBy 31 (.getfield 17) 3 34 := ⟨by decide +kernel, rfl⟩
theorem cM_farBy_34 : Dc yM_farBy 34 (.invokevirtual 120) 3 37 := ⟨by decide +kernel, rfl⟩
theorem cM_farBy_37 : Dc yM_farBy 37 (.aload_n 0) 1 38 := ⟨by decide +kernel, rfl⟩
theorem cM_farBy_38 : Dc yM_farBy 38 (.getfield 57) 3 41 := ⟨by decide +kernel, rfl⟩
theorem cM_farBy_41 : Dc yM_farBy 41 (.iload 5) 2 43 := ⟨by decide +kernel, rfl⟩
theorem cM_farBy_43 : Db yM_farBy 43 (.ifCond .eq 7) 3 46 (7) 50 := ⟨by decide +kernel, rfl, by decide⟩
theorem cM_farBy_46 : Dc yM_farBy 46 (.iload_n 1) 1 47 := ⟨by decide +kernel, rfl⟩
theorem cM_farBy_47 : Db yM_farBy 47 (.goto 4) 3 50 (4) 51 := ⟨by decide +kernel, rfl, by decide⟩
theorem cM_farBy_50 : Dc yM_farBy 50 (.iload_n 3) 1 51 := ⟨by decide +kernel, rfl⟩
theorem cM_farBy_51 : Dc yM_farBy 51 (.iaload) 1 52 := ⟨by decide +kernel, rfl⟩
theorem cM_farBy_52 : Dc yM_farBy 52 (.iload 6) 2 54 := ⟨by decide +kernel, rfl⟩
theorem cM_farBy_54 : Dc yM_farBy 54 (.invokestatic 117) 3 57 := ⟨by decide +kernel, rfl⟩
theorem cM_farBy_57 : Dc yM_farBy 57 (.ireturn) 1 58 := ⟨by decide +kernel, rfl⟩
theorem cM_gusts_0 : Dc yM_gusts 0 (.aload_n 0) 1 1 := ⟨by decide +kernel, rfl⟩
theorem cM_gusts_1 : Dc yM_gusts 1 (.iconst 0) 1 2 := ⟨by decide +kernel, rfl⟩
theorem cM_gusts_2 : Dc yM_gusts 2 (.putfield 66) 3 5 := ⟨by decide +kernel, rfl⟩
theorem cM_gusts_5 : Dc yM_gusts 5 (.iload_n 1) 1 6 := ⟨by decide +kernel, rfl⟩
theorem cM_gusts_6 : Dc yM_gusts 6 (.i2l) 1 7 := ⟨by decide +kernel, rfl⟩
theorem cM_gusts_7 : Dc yM_gusts 7 (.lconst 0) 1 8 := ⟨by decide +kernel, rfl⟩
theorem cM_gusts_8 : Dc yM_gusts 8 (.ldc2_w 242) 3 11 := ⟨by decide +kernel, rfl⟩
theorem cM_gusts_11 : Dc yM_gusts 11 (.invokestatic 69) 3 14 := ⟨by decide +kernel, rfl⟩
theorem cM_gusts_14 : Db yM_gusts 14 (.ifCond .eq 15) 3 17 (15) 29 := ⟨by decide +kernel, rfl, by decide⟩
theorem cM_gusts_17 : Dc yM_gusts 17 (.iload_n 2) 1 18 := ⟨by decide +kernel, rfl⟩
theorem cM_gusts_18 : Dc yM_gusts 18 (.i2l) 1 19 := ⟨by decide +kernel, rfl⟩
theorem cM_gusts_19 : Dc yM_gusts 19 (.lconst 0) 1 20 := ⟨by decide +kernel, rfl⟩
theorem cM_gusts_20 : Dc yM_gusts 20 (.ldc2_w 242) 3 23 := ⟨by decide +kernel, rfl⟩
theorem cM_gusts_23 : Dc yM_gusts 23 (.invokestatic 69) 3 26 := ⟨by decide +kernel, rfl⟩
theorem cM_gusts_26 : Db yM_gusts 26 (.ifCond .ne 6) 3 29 (6) 32 := ⟨by decide +kernel, rfl, by decide⟩
theorem cM_gusts_29 : Dc yM_gusts 29 (.bipush (-2)) 2 31 := ⟨by decide +kernel, rfl⟩
theorem cM_gusts_31 : Dc yM_gusts 31 (.ireturn) 1 32 := ⟨by decide +kernel, rfl⟩
theorem cM_gusts_32 : Dc yM_gusts 32 (.iconst 0) 1 33 := ⟨by decide +kernel, rfl⟩
theorem cM_gusts_33 : Dc yM_gusts 33 (.istore 4) 2 35 := ⟨by decide +kernel, rfl⟩
theorem cM_gusts_35 : Dc yM_gusts 35 (.iconst 0) 1 36 := ⟨by decide +kernel, rfl⟩
theorem cM_gusts_36 : Dc yM_gusts 36 (.istore 5) 2 38 := ⟨by decide +kernel, rfl⟩
theorem cM_gusts_38 : Dc yM_gusts 38 (.iload 5) 2 40 := ⟨by decide +kernel, rfl⟩
theorem cM_gusts_40 : Dc yM_gusts 40 (.iconst 4) 1 41 := ⟨by decide +kernel, rfl⟩
theorem cM_gusts_41 : Db yM_gusts 41 (.if_icmp .ge 104) 3 44 (104) 145 := ⟨by decide +kernel, rfl, by decide⟩
theorem cM_gusts_44 : Dc yM_gusts 44 (.aload_n 0) 1 45 := ⟨by decide +kernel, rfl⟩
theorem cM_gusts_45 : Dc yM_gusts 45 (.invokevirtual 168) 3 48 := ⟨by decide +kernel, rfl⟩
theorem cM_gusts_48 : Dc yM_gusts 48 (.aload_n 0) 1 49 := ⟨by decide +kernel, rfl⟩
theorem cM_gusts_49 : Dc yM_gusts 49 (.getfield 32) 3 52 := ⟨by decide +kernel, rfl⟩
theorem cM_gusts_52 : Dc yM_gusts 52 (.iconst 1) 1 53 := ⟨by decide +kernel, rfl⟩
theorem cM_gusts_53 : Dc yM_gusts 53 (.dup2) 1 54 := ⟨by decide +kernel, rfl⟩
theorem cM_gusts_54 : Dc yM_gusts 54 (.iaload) 1 55 := ⟨by decide +kernel, rfl⟩
theorem cM_gusts_55 : Dc yM_gusts 55 (.iload 5) 2 57 := ⟨by decide +kernel, rfl⟩
theorem cM_gusts_57 : Dc yM_gusts 57 (.iconst 2) 1 58 := ⟨by decide +kernel, rfl⟩
theorem cM_gusts_58 : Dc yM_gusts 58 (.idiv) 1 59 := ⟨by decide +kernel, rfl⟩
theorem cM_gusts_59 : Dc yM_gusts 59 (.iadd) 1 60 := ⟨by decide +kernel, rfl⟩
theorem cM_gusts_60 : Dc yM_gusts 60 (.iastore) 1 61 := ⟨by decide +kernel, rfl⟩
theorem cM_gusts_61 : Dc yM_gusts 61 (.aload_n 0) 1 62 := ⟨by decide +kernel, rfl⟩
theorem cM_gusts_62 : Dc yM_gusts 62 (.getfield 32) 3 65 := ⟨by decide +kernel, rfl⟩
theorem cM_gusts_65 : Dc yM_gusts 65 (.iconst 2) 1 66 := ⟨by decide +kernel, rfl⟩
theorem cM_gusts_66 : Dc yM_gusts 66 (.dup2) 1 67 := ⟨by decide +kernel, rfl⟩
theorem cM_gusts_67 : Dc yM_gusts 67 (.iaload) 1 68 := ⟨by decide +kernel, rfl⟩
theorem cM_gusts_68 : Dc yM_gusts 68 (.iload 5) 2 70 := ⟨by decide +kernel, rfl⟩
theorem cM_gusts_70 : Dc yM_gusts 70 (.iconst 2) 1 71 := ⟨by decide +kernel, rfl⟩
theorem cM_gusts_71 : Dc yM_gusts 71 (.irem) 1 72 := ⟨by decide +kernel, rfl⟩
theorem cM_gusts_72 : Dc yM_gusts 72 (.iadd) 1 73 := ⟨by decide +kernel, rfl⟩
theorem cM_gusts_73 : Dc yM_gusts 73 (.iastore) 1 74 := ⟨by decide +kernel, rfl⟩
theorem cM_gusts_74 : Dc yM_gusts 74 (.aload_n 0) 1 75 := ⟨by decide +kernel, rfl⟩
theorem cM_gusts_75 : Dc yM_gusts 75 (.aload_n 0) 1 76 := ⟨by decide +kernel, rfl⟩
theorem cM_gusts_76 : Dc yM_gusts 76 (.getfield 32) 3 79 := ⟨by decide +kernel, rfl⟩
theorem cM_gusts_79 : Dc yM_gusts 79 (.aload_n 0) 1 80 := ⟨by decide +kernel, rfl⟩
theorem cM_gusts_80 : Dc yM_gusts 80 (.getfield 17) 3 83 := ⟨by decide +kernel, rfl⟩
theorem cM_gusts_83 : Dc yM_gusts 83 (.invokevirtual 120) 3 86 := ⟨by decide +kernel, rfl⟩
theorem cM_gusts_86 : Dc yM_gusts 86 (.iload 5) 2 88 := ⟨by decide +kernel, rfl⟩
theorem cM_gusts_88 : Dc yM_gusts 88 (.iconst 2) 1 89 := ⟨by decide +kernel, rfl⟩
theorem cM_gusts_89 : Dc yM_gusts 89 (.idiv) 1 90 := ⟨by decide +kernel, rfl⟩
theorem cM_gusts_90 : Dc yM_gusts 90 (.iconst 1) 1 91 := ⟨by decide +kernel, rfl⟩
theorem cM_gusts_91 : Db yM_gusts 91 (.if_icmp .ne 7) 3 94 (7) 98 := ⟨by decide +kernel, rfl, by decide⟩
theorem cM_gusts_94 : Dc yM_gusts 94 (.iload_n 1) 1 95 := ⟨by decide +kernel, rfl⟩
theorem cM_gusts_95 : Db yM_gusts 95 (.goto 7) 3 98 (7) 102 := ⟨by decide +kernel, rfl, by decide⟩
theorem cM_gusts_98 : Dc yM_gusts 98 (.bipush 10) 2 100 := ⟨by decide +kernel, rfl⟩
theorem cM_gusts_100 : Dc yM_gusts 100 (.iload_n 1) 1 101 := ⟨by decide +kernel, rfl⟩
theorem cM_gusts_101 : Dc yM_gusts 101 (.isub) 1 102 := ⟨by decide +kernel, rfl⟩
theorem cM_gusts_102 : Dc yM_gusts 102 (.iload 5) 2 104 := ⟨by decide +kernel, rfl⟩
theorem cM_gusts_104 : Dc yM_gusts 104 (.iconst 2) 1 105 := ⟨by decide +kernel, rfl⟩
theorem cM_gusts_105 : Dc yM_gusts 105 (.irem) 1 106 := ⟨by decide +kernel, rfl⟩
theorem cM_gusts_106 : Dc yM_gusts 106 (.iconst 1) 1 107 := ⟨by decide +kernel, rfl⟩
theorem cM_gusts_107 : Db yM_gusts 107 (.if_icmp .ne 7) 3 110 (7) 114 := ⟨by decide +kernel, rfl, by decide⟩
theorem cM_gusts_110 : Dc yM_gusts 110 (.iload_n 2) 1 111 := ⟨by decide +kernel, rfl⟩
theorem cM_gusts_111 : Db yM_gusts 111 (.goto 7) 3 114 (7) 118 := ⟨by decide +kernel, rfl, by decide⟩
theorem cM_gusts_114 : Dc yM_gusts 114 (.bipush 10) 2 116 := ⟨by decide +kernel, rfl⟩
theorem cM_gusts_116 : Dc yM_gusts 116 (.iload_n 2) 1 117 := ⟨by decide +kernel, rfl⟩
theorem cM_gusts_117 : Dc yM_gusts 117 (.isub) 1 118 := ⟨by decide +kernel, rfl⟩
theorem cM_gusts_118 : Dc yM_gusts 118 (.imul) 1 119 := ⟨by decide +kernel, rfl⟩
theorem cM_gusts_119 : Dc yM_gusts 119 (.istore 6) 2 121 := ⟨by decide +kernel, rfl⟩
theorem cM_gusts_121 : Dc yM_gusts 121 (.iload 4) 2 123 := ⟨by decide +kernel, rfl⟩
theorem cM_gusts_123 : Dc yM_gusts 123 (.aload_n 0) 1 124 := ⟨by decide +kernel, rfl⟩
theorem cM_gusts_124 : Dc yM_gusts 124 (.getfield 114) 3 127 := ⟨by decide +kernel, rfl⟩
theorem cM_gusts_127 : Db yM_gusts 127 (.ifCond .ne 8) 3 130 (8) 135 := ⟨by decide +kernel, rfl, by decide⟩
theorem cM_gusts_130 : Dc yM_gusts 130 (.iload 6) 2 132 := ⟨by decide +kernel, rfl⟩
theorem cM_gusts_132 : Db yM_gusts 132 (.goto 4) 3 135 (4) 136 := ⟨by decide +kernel, rfl, by decide⟩
theorem cM_gusts_135 : Dc yM_gusts 135 (.iconst 0) 1 136 := ⟨by decide +kernel, rfl⟩
theorem cM_gusts_136 : Dc yM_gusts 136 (.iadd) 1 137 := ⟨by decide +kernel, rfl⟩
theorem cM_gusts_137 : Dc yM_gusts 137 (.istore 4) 2 139 := ⟨by decide +kernel, rfl⟩
theorem cM_gusts_139 : Dc yM_gusts 139 (.iinc 5 1) 3 142 := ⟨by decide +kernel, rfl⟩
theorem cM_gusts_142 : Db yM_gusts 142 (.goto (-104)) 3 145 (-104) 38 := ⟨by decide +kernel, rfl, by decide⟩
theorem cM_gusts_145 : Dc yM_gusts 145 (.iload 4) 2 147 := ⟨by decide +kernel, rfl⟩
theorem cM_gusts_147 : Dc yM_gusts 147 (.bipush 100) 2 149 := ⟨by decide +kernel, rfl⟩
theorem cM_gusts_149 : Dc yM_gusts 149 (.iload_n 3) 1 150 := ⟨by decide +kernel, rfl⟩
theorem cM_gusts_150 : Dc yM_gusts 150 (.invokestatic 194) 3 153 := ⟨by decide +kernel, rfl⟩
theorem cM_gusts_153 : Dc yM_gusts 153 (.ireturn) 1 154 := ⟨by decide +kernel, rfl⟩
theorem cM_seed_0 : Dc yM_seed 0 (.aload_n 0) 1 1 := ⟨by decide +kernel, rfl⟩
theorem cM_seed_1 : Dc yM_seed 1 (.iconst 0) 1 2 := ⟨by decide +kernel, rfl⟩
theorem cM_seed_2 : Dc yM_seed 2 (.putfield 66) 3 5 := ⟨by decide +kernel, rfl⟩
theorem cM_seed_5 : Dc yM_seed 5 (.aload_n 0) 1 6 := ⟨by decide +kernel, rfl⟩
theorem cM_seed_6 : Dc yM_seed 6 (.getfield 244) 3 9 := ⟨by decide +kernel, rfl⟩
theorem cM_seed_9 : Dc yM_seed 9 (.lstore_n 3) 1 10 := ⟨by decide +kernel, rfl⟩
theorem cM_seed_10 : Dc yM_seed 10 (.aload_n 0) 1 11 := ⟨by decide +kernel, rfl⟩
theorem cM_seed_11 : Dc yM_seed 11 (.lload_n 1) 1 12 := ⟨by decide +kernel, rfl⟩
theorem cM_seed_12 : Dc yM_seed 12 (.putfield 244) 3 15 := ⟨by decide +kernel, rfl⟩
theorem cM_seed_15 : Dc yM_seed 15 (.lload_n 3) 1 16 := ⟨by decide +kernel, rfl⟩
theorem cM_seed_16 : Dc yM_seed 16 (.lreturn) 1 17 := ⟨by decide +kernel, rfl⟩
theorem cM_afternoons_0 : Dc yM_afternoons 0 (.aload_n 0) 1 1 := ⟨by decide +kernel, rfl⟩
theorem cM_afternoons_1 : Dc yM_afternoons 1 (.iconst 0) 1 2 := ⟨by decide +kernel, rfl⟩
theorem cM_afternoons_2 : Dc yM_afternoons 2 (.putfield 66) 3 5 := ⟨by decide +kernel, rfl⟩
theorem cM_afternoons_5 : Dc yM_afternoons 5 (.iload_n 1) 1 6 := ⟨by decide +kernel, rfl⟩
theorem cM_afternoons_6 : Dc yM_afternoons 6 (.i2l) 1 7 := ⟨by decide +kernel, rfl⟩
theorem cM_afternoons_7 : Dc yM_afternoons 7 (.lconst 1) 1 8 := ⟨by decide +kernel, rfl⟩
theorem cM_afternoons_8 : Dc yM_afternoons 8 (.ldc2_w 142) 3 11 := ⟨by decide +kernel, rfl⟩
theorem cM_afternoons_11 : Dc yM_afternoons 11 (.invokestatic 69) 3 14 := ⟨by decide +kernel, rfl⟩
theorem cM_afternoons_14 : Db yM_afternoons 14 (.ifCond .ne 6) 3 17 (6) 20 := ⟨by decide +kernel, rfl, by decide⟩
theorem cM_afternoons_17 : Dc yM_afternoons 17 (.bipush (-2)) 2 19 := ⟨by decide +kernel, rfl⟩
theorem cM_afternoons_19 : Dc yM_afternoons 19 (.ireturn) 1 20 := ⟨by decide +kernel, rfl⟩
theorem cM_afternoons_20 : Dc yM_afternoons 20 (.iconst 0) 1 21 := ⟨by decide +kernel, rfl⟩
theorem cM_afternoons_21 : Dc yM_afternoons 21 (.istore_n 2) 1 22 := ⟨by decide +kernel, rfl⟩
theorem cM_afternoons_22 : Dc yM_afternoons 22 (.iconst 0) 1 23 := ⟨by decide +kernel, rfl⟩
theorem cM_afternoons_23 : Dc yM_afternoons 23 (.istore_n 3) 1 24 := ⟨by decide +kernel, rfl⟩
theorem cM_afternoons_24 : Dc yM_afternoons 24 (.iload_n 3) 1 25 := ⟨by decide +kernel, rfl⟩
theorem cM_afternoons_25 : Dc yM_afternoons 25 (.iload_n 1) 1 26 := ⟨by decide +kernel, rfl⟩
theorem cM_afternoons_26 : Db yM_afternoons 26 (.if_icmp .ge 89) 3 29 (89) 115 := ⟨by decide +kernel, rfl, by decide⟩
theorem cM_afternoons_29 : Dc yM_afternoons 29 (.aload_n 0) 1 30 := ⟨by decide +kernel, rfl⟩
theorem cM_afternoons_30 : Dc yM_afternoons 30 (.aload_n 0) 1 31 := ⟨by decide +kernel, rfl⟩
theorem cM_afternoons_31 : Dc yM_afternoons 31 (.getfield 244) 3 34 := ⟨by decide +kernel, rfl⟩
theorem cM_afternoons_34 : Dc yM_afternoons 34 (.ldc2_w 248) 3 37 := ⟨by decide +kernel, rfl⟩
theorem cM_afternoons_37 : Dc yM_afternoons 37 (.lmul) 1 38 := ⟨by decide +kernel, rfl⟩
theorem cM_afternoons_38 : Dc yM_afternoons 38 (.ldc2_w 250) 3 41 := ⟨by decide +kernel, rfl⟩
theorem cM_afternoons_41 : Dc yM_afternoons 41 (.ladd) 1 42 := ⟨by decide +kernel, rfl⟩
theorem cM_afternoons_42 : Dc yM_afternoons 42 (.putfield 244) 3 45 := ⟨by decide +kernel, rfl⟩
theorem cM_afternoons_45 : Dc yM_afternoons 45 (.aload_n 0) 1 46 := ⟨by decide +kernel, rfl⟩
theorem cM_afternoons_46 : Dc yM_afternoons 46 (.getfield 244) 3 49 := ⟨by decide +kernel, rfl⟩
theorem cM_afternoons_49 : Dc yM_afternoons 49 (.bipush 33) 2 51 := ⟨by decide +kernel, rfl⟩
theorem cM_afternoons_51 : Dc yM_afternoons 51 (.lushr) 1 52 := ⟨by decide +kernel, rfl⟩
theorem cM_afternoons_52 : Dc yM_afternoons 52 (.ldc2_w 252) 3 55 := ⟨by decide +kernel, rfl⟩
theorem cM_afternoons_55 : Dc yM_afternoons 55 (.lrem) 1 56 := ⟨by decide +kernel, rfl⟩
theorem cM_afternoons_56 : Dc yM_afternoons 56 (.l2i) 1 57 := ⟨by decide +kernel, rfl⟩
theorem cM_afternoons_57 : Dc yM_afternoons 57 (.istore 4) 2 59 := ⟨by decide +kernel, rfl⟩
theorem cM_afternoons_59 : Dc yM_afternoons 59 (.aload_n 0) 1 60 := ⟨by decide +kernel, rfl⟩
theorem cM_afternoons_60 : Dc yM_afternoons 60 (.invokevirtual 168) 3 63 := ⟨by decide +kernel, rfl⟩
theorem cM_afternoons_63 : Dc yM_afternoons 63 (.aload_n 0) 1 64 := ⟨by decide +kernel, rfl⟩
theorem cM_afternoons_64 : Dc yM_afternoons 64 (.getfield 32) 3 67 := ⟨by decide +kernel, rfl⟩
theorem cM_afternoons_67 : Dc yM_afternoons 67 (.iconst 1) 1 68 := ⟨by decide +kernel, rfl⟩
theorem cM_afternoons_68 : Dc yM_afternoons 68 (.iload 4) 2 70 := ⟨by decide +kernel, rfl⟩
theorem cM_afternoons_70 : Dc yM_afternoons 70 (.iconst 5) 1 71 := ⟨by decide +kernel, rfl⟩
theorem cM_afternoons_71 : Dc yM_afternoons 71 (.idiv) 1 72 := ⟨by decide +kernel, rfl⟩
theorem cM_afternoons_72 : Dc yM_afternoons 72 (.iconst 2) 1 73 := ⟨by decide +kernel, rfl⟩
theorem cM_afternoons_73 : Dc yM_afternoons 73 (.isub) 1 74 := ⟨by decide +kernel, rfl⟩
theorem cM_afternoons_74 : Dc yM_afternoons 74 (.iastore) 1 75 := ⟨by decide +kernel, rfl⟩
theorem cM_afternoons_75 : Dc yM_afternoons 75 (.aload_n 0) 1 76 := ⟨by decide +kernel, rfl⟩
theorem cM_afternoons_76 : Dc yM_afternoons 76 (.getfield 32) 3 79 := ⟨by decide +kernel, rfl⟩
theorem cM_afternoons_79 : Dc yM_afternoons 79 (.iconst 2) 1 80 := ⟨by decide +kernel, rfl⟩
theorem cM_afternoons_80 : Dc yM_afternoons 80 (.iload 4) 2 82 := ⟨by decide +kernel, rfl⟩
theorem cM_afternoons_82 : Dc yM_afternoons 82 (.iconst 5) 1 83 := ⟨by decide +kernel, rfl⟩
theorem cM_afternoons_83 : Dc yM_afternoons 83 (.irem) 1 84 := ⟨by decide +kernel, rfl⟩
theorem cM_afternoons_84 : Dc yM_afternoons 84 (.iconst 2) 1 85 := ⟨by decide +kernel, rfl⟩
theorem cM_afternoons_85 : Dc yM_afternoons 85 (.isub) 1 86 := ⟨by decide +kernel, rfl⟩
theorem cM_afternoons_86 : Dc yM_afternoons 86 (.iastore) 1 87 := ⟨by decide +kernel, rfl⟩
theorem cM_afternoons_87 : Dc yM_afternoons 87 (.aload_n 0) 1 88 := ⟨by decide +kernel, rfl⟩
theorem cM_afternoons_88 : Dc yM_afternoons 88 (.aload_n 0) 1 89 := ⟨by decide +kernel, rfl⟩
theorem cM_afternoons_89 : Dc yM_afternoons 89 (.getfield 32) 3 92 := ⟨by decide +kernel, rfl⟩
theorem cM_afternoons_92 : Dc yM_afternoons 92 (.aload_n 0) 1 93 := ⟨by decide +kernel, rfl⟩
theorem cM_afternoons_93 : Dc yM_afternoons 93 (.getfield 17) 3 96 := ⟨by decide +kernel, rfl⟩
theorem cM_afternoons_96 : Dc yM_afternoons 96 (.invokevirtual 120) 3 99 := ⟨by decide +kernel, rfl⟩
theorem cM_afternoons_99 : Dc yM_afternoons 99 (.iload_n 2) 1 100 := ⟨by decide +kernel, rfl⟩
theorem cM_afternoons_100 : Dc yM_afternoons 100 (.aload_n 0) 1 101 := ⟨by decide +kernel, rfl⟩
theorem cM_afternoons_101 : Dc yM_afternoons 101 (.getfield 114) 3 104 := ⟨by decide +kernel, rfl⟩
theorem cM_afternoons_104 : Dc yM_afternoons 104 (.invokestatic 188) 3 107 := ⟨by decide +kernel, rfl⟩
theorem cM_afternoons_107 : Dc yM_afternoons 107 (.iadd) 1 108 := ⟨by decide +kernel, rfl⟩
theorem cM_afternoons_108 : Dc yM_afternoons 108 (.istore_n 2) 1 109 := ⟨by decide +kernel, rfl⟩
theorem cM_afternoons_109 : Dc yM_afternoons 109 (.iinc 3 1) 3 112 := ⟨by decide +kernel, rfl⟩
theorem cM_afternoons_112 : Db yM_afternoons 112 (.goto (-88)) 3 115 (-88) 24 := ⟨by decide +kernel, rfl, by decide⟩
theorem cM_afternoons_115 : Dc yM_afternoons 115 (.iload_n 2) 1 116 := ⟨by decide +kernel, rfl⟩
theorem cM_afternoons_116 : Dc yM_afternoons 116 (.ireturn) 1 117 := ⟨by decide +kernel, rfl⟩
theorem cM_keep_0 : Dc yM_keep 0 (.aload_n 0) 1 1 := ⟨by decide +kernel, rfl⟩
theorem cM_keep_1 : Dc yM_keep 1 (.iconst 0) 1 2 := ⟨by decide +kernel, rfl⟩
theorem cM_keep_2 : Dc yM_keep 2 (.putfield 66) 3 5 := ⟨by decide +kernel, rfl⟩
theorem cM_keep_5 : Dc yM_keep 5 (.iload_n 1) 1 6 := ⟨by decide +kernel, rfl⟩
theorem cM_keep_6 : Dc yM_keep 6 (.i2l) 1 7 := ⟨by decide +kernel, rfl⟩
theorem cM_keep_7 : Dc yM_keep 7 (.lconst 0) 1 8 := ⟨by decide +kernel, rfl⟩
theorem cM_keep_8 : Dc yM_keep 8 (.lconst 1) 1 9 := ⟨by decide +kernel, rfl⟩
theorem cM_keep_9 : Dc yM_keep 9 (.invokestatic 69) 3 12 := ⟨by decide +kernel, rfl⟩
theorem cM_keep_12 : Db yM_keep 12 (.ifCond .ne 5) 3 15 (5) 17 := ⟨by decide +kernel, rfl, by decide⟩
theorem cM_keep_15 : Dc yM_keep 15 (.iconst (-1)) 1 16 := ⟨by decide +kernel, rfl⟩
theorem cM_keep_16 : Dc yM_keep 16 (.ireturn) 1 17 := ⟨by decide +kernel, rfl⟩
theorem cM_keep_17 : Dc yM_keep 17 (.aload_n 0) 1 18 := ⟨by decide +kernel, rfl⟩
theorem cM_keep_18 : Dc yM_keep 18 (.getfield 41) 3 21 := ⟨by decide +kernel, rfl⟩
theorem cM_keep_21 : Dc yM_keep 21 (.iload_n 1) 1 22 := ⟨by decide +kernel, rfl⟩
theorem cM_keep_22 : Dc yM_keep 22 (.iconst 1) 1 23 := ⟨by decide +kernel, rfl⟩
theorem cM_keep_23 : Dc yM_keep 23 (.bastore) 1 24 := ⟨by decide +kernel, rfl⟩
theorem cM_keep_24 : Dc yM_keep 24 (.iconst 0) 1 25 := ⟨by decide +kernel, rfl⟩
theorem cM_keep_25 : Dc yM_keep 25 (.istore_n 2) 1 26 := ⟨by decide +kernel, rfl⟩
theorem cM_keep_26 : Dc yM_keep 26 (.iload_n 2) 1 27 := ⟨by decide +kernel, rfl⟩
theorem cM_keep_27 : Dc yM_keep 27 (.bipush 13) 2 29 := ⟨by decide +kernel, rfl⟩
theorem cM_keep_29 : Db yM_keep 29 (.if_icmp .ge 26) 3 32 (26) 55 := ⟨by decide +kernel, rfl, by decide⟩
theorem cM_keep_32 : Dc yM_keep 32 (.aload_n 0) 1 33 := ⟨by decide +kernel, rfl⟩
theorem cM_keep_33 : Dc yM_keep 33 (.getfield 38) 3 36 := ⟨by decide +kernel, rfl⟩
theorem cM_keep_36 : Dc yM_keep 36 (.bipush 13) 2 38 := ⟨by decide +kernel, rfl⟩
theorem cM_keep_38 : Dc yM_keep 38 (.iload_n 1) 1 39 := ⟨by decide +kernel, rfl⟩
theorem cM_keep_39 : Dc yM_keep 39 (.imul) 1 40 := ⟨by decide +kernel, rfl⟩
theorem cM_keep_40 : Dc yM_keep 40 (.iload_n 2) 1 41 := ⟨by decide +kernel, rfl⟩
theorem cM_keep_41 : Dc yM_keep 41 (.iadd) 1 42 := ⟨by decide +kernel, rfl⟩
theorem cM_keep_42 : Dc yM_keep 42 (.aload_n 0) 1 43 := ⟨by decide +kernel, rfl⟩
theorem cM_keep_43 : Dc yM_keep 43 (.getfield 29) 3 46 := ⟨by decide +kernel, rfl⟩
theorem cM_keep_46 : Dc yM_keep 46 (.iload_n 2) 1 47 := ⟨by decide +kernel, rfl⟩
theorem cM_keep_47 : Dc yM_keep 47 (.iaload) 1 48 := ⟨by decide +kernel, rfl⟩
theorem cM_keep_48 : Dc yM_keep 48 (.iastore) 1 49 := ⟨by decide +kernel, rfl⟩
theorem cM_keep_49 : Dc yM_keep 49 (.iinc 2 1) 3 52 := ⟨by decide +kernel, rfl⟩
theorem cM_keep_52 : Db yM_keep 52 (.goto (-26)) 3 55 (-26) 26 := ⟨by decide +kernel, rfl, by decide⟩
theorem cM_keep_55 : Dc yM_keep 55 (.aload_n 0) 1 56 := ⟨by decide +kernel, rfl⟩
theorem cM_keep_56 : Dc yM_keep 56 (.getfield 29) 3 59 := ⟨by decide +kernel, rfl⟩
theorem cM_keep_59 : Dc yM_keep 59 (.iconst 0) 1 60 := ⟨by decide +kernel, rfl⟩
theorem cM_keep_60 : Dc yM_keep 60 (.iaload) 1 61 := ⟨by decide +kernel, rfl⟩
theorem cM_keep_61 : Dc yM_keep 61 (.ireturn) 1 62 := ⟨by decide +kernel, rfl⟩
theorem cM_again_0 : Dc yM_again 0 (.aload_n 0) 1 1 := ⟨by decide +kernel, rfl⟩
theorem cM_again_1 : Dc yM_again 1 (.iconst 0) 1 2 := ⟨by decide +kernel, rfl⟩
theorem cM_again_2 : Dc yM_again 2 (.putfield 66) 3 5 := ⟨by decide +kernel, rfl⟩
theorem cM_again_5 : Dc yM_again 5 (.iload_n 1) 1 6 := ⟨by decide +kernel, rfl⟩
theorem cM_again_6 : Dc yM_again 6 (.i2l) 1 7 := ⟨by decide +kernel, rfl⟩
theorem cM_again_7 : Dc yM_again 7 (.lconst 0) 1 8 := ⟨by decide +kernel, rfl⟩
theorem cM_again_8 : Dc yM_again 8 (.lconst 1) 1 9 := ⟨by decide +kernel, rfl⟩
theorem cM_again_9 : Dc yM_again 9 (.invokestatic 69) 3 12 := ⟨by decide +kernel, rfl⟩
theorem cM_again_12 : Db yM_again 12 (.ifCond .ne 5) 3 15 (5) 17 := ⟨by decide +kernel, rfl, by decide⟩
theorem cM_again_15 : Dc yM_again 15 (.iconst (-1)) 1 16 := ⟨by decide +kernel, rfl⟩
theorem cM_again_16 : Dc yM_again 16 (.ireturn) 1 17 := ⟨by decide +kernel, rfl⟩
theorem cM_again_17 : Dc yM_again 17 (.aload_n 0) 1 18 := ⟨by decide +kernel, rfl⟩
theorem cM_again_18 : Dc yM_again 18 (.getfield 41) 3 21 := ⟨by decide +kernel, rfl⟩
theorem cM_again_21 : Dc yM_again 21 (.iload_n 1) 1 22 := ⟨by decide +kernel, rfl⟩
theorem cM_again_22 : Dc yM_again 22 (.baload) 1 23 := ⟨by decide +kernel, rfl⟩
theorem cM_again_23 : Db yM_again 23 (.ifCond .ne 6) 3 26 (6) 29 := ⟨by decide +kernel, rfl, by decide⟩
theorem cM_again_26 : Dc yM_again 26 (.bipush (-3)) 2 28 := ⟨by decide +kernel, rfl⟩
theorem cM_again_28 : Dc yM_again 28 (.ireturn) 1 29 := ⟨by decide +kernel, rfl⟩
theorem cM_again_29 : Dc yM_again 29 (.iconst 0) 1 30 := ⟨by decide +kernel, rfl⟩
theorem cM_again_30 : Dc yM_again 30 (.istore_n 2) 1 31 := ⟨by decide +kernel, rfl⟩
theorem cM_again_31 : Dc yM_again 31 (.iload_n 2) 1 32 := ⟨by decide +kernel, rfl⟩
theorem cM_again_32 : Dc yM_again 32 (.bipush 13) 2 34 := ⟨by decide +kernel, rfl⟩
theorem cM_again_34 : Db yM_again 34 (.if_icmp .ge 26) 3 37 (26) 60 := ⟨by decide +kernel, rfl, by decide⟩
theorem cM_again_37 : Dc yM_again 37 (.aload_n 0) 1 38 := ⟨by decide +kernel, rfl⟩
theorem cM_again_38 : Dc yM_again 38 (.getfield 29) 3 41 := ⟨by decide +kernel, rfl⟩
theorem cM_again_41 : Dc yM_again 41 (.iload_n 2) 1 42 := ⟨by decide +kernel, rfl⟩
theorem cM_again_42 : Dc yM_again 42 (.aload_n 0) 1 43 := ⟨by decide +kernel, rfl⟩
theorem cM_again_43 : Dc yM_again 43 (.getfield 38) 3 46 := ⟨by decide +kernel, rfl⟩
theorem cM_again_46 : Dc yM_again 46 (.bipush 13) 2 48 := ⟨by decide +kernel, rfl⟩
theorem cM_again_48 : Dc yM_again 48 (.iload_n 1) 1 49 := ⟨by decide +kernel, rfl⟩
theorem cM_again_49 : Dc yM_again 49 (.imul) 1 50 := ⟨by decide +kernel, rfl⟩
theorem cM_again_50 : Dc yM_again 50 (.iload_n 2) 1 51 := ⟨by decide +kernel, rfl⟩
theorem cM_again_51 : Dc yM_again 51 (.iadd) 1 52 := ⟨by decide +kernel, rfl⟩
theorem cM_again_52 : Dc yM_again 52 (.iaload) 1 53 := ⟨by decide +kernel, rfl⟩
theorem cM_again_53 : Dc yM_again 53 (.iastore) 1 54 := ⟨by decide +kernel, rfl⟩
theorem cM_again_54 : Dc yM_again 54 (.iinc 2 1) 3 57 := ⟨by decide +kernel, rfl⟩
theorem cM_again_57 : Db yM_again 57 (.goto (-26)) 3 60 (-26) 31 := ⟨by decide +kernel, rfl, by decide⟩
theorem cM_again_60 : Dc yM_again 60 (.aload_n 0) 1 61 := ⟨by decide +kernel, rfl⟩
theorem cM_again_61 : Dc yM_again 61 (.iconst 0) 1 62 := ⟨by decide +kernel, rfl⟩
theorem cM_again_62 : Dc yM_again 62 (.putfield 111) 3 65 := ⟨by decide +kernel, rfl⟩
theorem cM_again_65 : Dc yM_again 65 (.aload_n 0) 1 66 := ⟨by decide +kernel, rfl⟩
theorem cM_again_66 : Dc yM_again 66 (.getfield 29) 3 69 := ⟨by decide +kernel, rfl⟩
theorem cM_again_69 : Dc yM_again 69 (.iconst 0) 1 70 := ⟨by decide +kernel, rfl⟩
theorem cM_again_70 : Dc yM_again 70 (.iaload) 1 71 := ⟨by decide +kernel, rfl⟩
theorem cM_again_71 : Dc yM_again 71 (.ireturn) 1 72 := ⟨by decide +kernel, rfl⟩
end
section
theorem cLaw_0 : Dc yLaw 0 (.new 7) 3 3 := ⟨by decide +kernel, rfl⟩
theorem cLaw_3 : Dc yLaw 3 (.dup) 1 4 := ⟨by decide +kernel, rfl⟩
theorem cLaw_4 : Dc yLaw 4 (.invokespecial 9) 3 7 := ⟨by decide +kernel, rfl⟩
theorem cLaw_7 : Dc yLaw 7 (.astore_n 1) 1 8 := ⟨by decide +kernel, rfl⟩
theorem cLaw_8 : Dc yLaw 8 (.new 10) 3 11 := ⟨by decide +kernel, rfl⟩
theorem cLaw_11 : Dc yLaw 11 (.dup) 1 12 := ⟨by decide +kernel, rfl⟩
theorem cLaw_12 : Dc yLaw 12 (.invokespecial 12) 3 15 := ⟨by decide +kernel, rfl⟩
theorem cLaw_15 : Dc yLaw 15 (.astore_n 2) 1 16 := ⟨by decide +kernel, rfl⟩
theorem cLaw_16 : Dc yLaw 16 (.iconst 0) 1 17 := ⟨by decide +kernel, rfl⟩
theorem cLaw_17 : Dc yLaw 17 (.istore_n 3) 1 18 := ⟨by decide +kernel, rfl⟩
theorem cLaw_18 : Dc yLaw 18 (.iload_n 3) 1 19 := ⟨by decide +kernel, rfl⟩
theorem cLaw_19 : Dc yLaw 19 (.aload_n 0) 1 20 := ⟨by decide +kernel, rfl⟩
theorem cLaw_20 : Dc yLaw 20 (.arraylength) 1 21 := ⟨by decide +kernel, rfl⟩
theorem cLaw_21 : Dc yLaw 21 (.bipush 6) 2 23 := ⟨by decide +kernel, rfl⟩
theorem cLaw_23 : Dc yLaw 23 (.isub) 1 24 := ⟨by decide +kernel, rfl⟩
theorem cLaw_24 : Db yLaw 24 (.if_icmp .gt 996) 3 27 (996) 1020 := ⟨by decide +kernel, rfl, by decide⟩
theorem cLaw_27 : Dc yLaw 27 (.aload_n 0) 1 28 := ⟨by decide +kernel, rfl⟩
theorem cLaw_28 : Dc yLaw 28 (.iload_n 3) 1 29 := ⟨by decide +kernel, rfl⟩
theorem cLaw_29 : Dc yLaw 29 (.iaload) 1 30 := ⟨by decide +kernel, rfl⟩
theorem cLaw_30 : Dc yLaw 30 (.bipush 31) 2 32 := ⟨by decide +kernel, rfl⟩
theorem cLaw_32 : Dc yLaw 32 (.iand) 1 33 := ⟨by decide +kernel, rfl⟩
theorem cLaw_33 : decode (yB yLaw) 33 = .ok (.tableswitch 981 0 28 #[131, 154, 167, 180, 193, 216, 249, 282, 315, 338, 371, 384, 407, 440, 473, 486, 509, 558, 591, 624, 667, 700, 713, 736, 799, 858, 912, 935, 958], 131) := by decide +kernel
theorem cLaw_164 : Dc yLaw 164 (.aload_n 1) 1 165 := ⟨by decide +kernel, rfl⟩
theorem cLaw_165 : Dc yLaw 165 (.aload_n 0) 1 166 := ⟨by decide +kernel, rfl⟩
theorem cLaw_166 : Dc yLaw 166 (.iload_n 3) 1 167 := ⟨by decide +kernel, rfl⟩
theorem cLaw_167 : Dc yLaw 167 (.iconst 1) 1 168 := ⟨by decide +kernel, rfl⟩
theorem cLaw_168 : Dc yLaw 168 (.iadd) 1 169 := ⟨by decide +kernel, rfl⟩
theorem cLaw_169 : Dc yLaw 169 (.iaload) 1 170 := ⟨by decide +kernel, rfl⟩
theorem cLaw_170 : Dc yLaw 170 (.invokevirtual 13) 3 173 := ⟨by decide +kernel, rfl⟩
theorem cLaw_173 : Dc yLaw 173 (.aload_n 2) 1 174 := ⟨by decide +kernel, rfl⟩
theorem cLaw_174 : Dc yLaw 174 (.aload_n 0) 1 175 := ⟨by decide +kernel, rfl⟩
theorem cLaw_175 : Dc yLaw 175 (.iload_n 3) 1 176 := ⟨by decide +kernel, rfl⟩
theorem cLaw_176 : Dc yLaw 176 (.iconst 1) 1 177 := ⟨by decide +kernel, rfl⟩
theorem cLaw_177 : Dc yLaw 177 (.iadd) 1 178 := ⟨by decide +kernel, rfl⟩
theorem cLaw_178 : Dc yLaw 178 (.iaload) 1 179 := ⟨by decide +kernel, rfl⟩
theorem cLaw_179 : Dc yLaw 179 (.invokevirtual 17) 3 182 := ⟨by decide +kernel, rfl⟩
theorem cLaw_182 : Db yLaw 182 (.if_icmp .eq 832) 3 185 (832) 1014 := ⟨by decide +kernel, rfl, by decide⟩
theorem cLaw_185 : Dc yLaw 185 (.iconst 0) 1 186 := ⟨by decide +kernel, rfl⟩
theorem cLaw_186 : Dc yLaw 186 (.ireturn) 1 187 := ⟨by decide +kernel, rfl⟩
theorem cLaw_187 : Dc yLaw 187 (.aload_n 1) 1 188 := ⟨by decide +kernel, rfl⟩
theorem cLaw_188 : Dc yLaw 188 (.invokevirtual 18) 3 191 := ⟨by decide +kernel, rfl⟩
theorem cLaw_191 : Dc yLaw 191 (.aload_n 2) 1 192 := ⟨by decide +kernel, rfl⟩
theorem cLaw_192 : Dc yLaw 192 (.invokevirtual 22) 3 195 := ⟨by decide +kernel, rfl⟩
theorem cLaw_195 : Db yLaw 195 (.if_icmp .eq 819) 3 198 (819) 1014 := ⟨by decide +kernel, rfl, by decide⟩
theorem cLaw_198 : Dc yLaw 198 (.iconst 0) 1 199 := ⟨by decide +kernel, rfl⟩
theorem cLaw_199 : Dc yLaw 199 (.ireturn) 1 200 := ⟨by decide +kernel, rfl⟩
theorem cLaw_200 : Dc yLaw 200 (.aload_n 1) 1 201 := ⟨by decide +kernel, rfl⟩
theorem cLaw_201 : Dc yLaw 201 (.invokevirtual 23) 3 204 := ⟨by decide +kernel, rfl⟩
theorem cLaw_204 : Dc yLaw 204 (.aload_n 2) 1 205 := ⟨by decide +kernel, rfl⟩
theorem cLaw_205 : Dc yLaw 205 (.invokevirtual 26) 3 208 := ⟨by decide +kernel, rfl⟩
theorem cLaw_208 : Db yLaw 208 (.if_icmp .eq 806) 3 211 (806) 1014 := ⟨by decide +kernel, rfl, by decide⟩
theorem cLaw_211 : Dc yLaw 211 (.iconst 0) 1 212 := ⟨by decide +kernel, rfl⟩
theorem cLaw_212 : Dc yLaw 212 (.ireturn) 1 213 := ⟨by decide +kernel, rfl⟩
theorem cLaw_213 : Dc yLaw 213 (.aload_n 1) 1 214 := ⟨by decide +kernel, rfl⟩
theorem cLaw_214 : Dc yLaw 214 (.invokevirtual 27) 3 217 := ⟨by decide +kernel, rfl⟩
theorem cLaw_217 : Dc yLaw 217 (.aload_n 2) 1 218 := ⟨by decide +kernel, rfl⟩
theorem cLaw_218 : Dc yLaw 218 (.invokevirtual 30) 3 221 := ⟨by decide +kernel, rfl⟩
theorem cLaw_221 : Db yLaw 221 (.if_icmp .eq 793) 3 224 (793) 1014 := ⟨by decide +kernel, rfl, by decide⟩
theorem cLaw_224 : Dc yLaw 224 (.iconst 0) 1 225 := ⟨by decide +kernel, rfl⟩
theorem cLaw_225 : Dc yLaw 225 (.ireturn) 1 226 := ⟨by decide +kernel, rfl⟩
theorem cLaw_226 : Dc yLaw 226 (.aload_n 1) 1 227 := ⟨by decide +kernel, rfl⟩
theorem cLaw_227 : Dc yLaw 227 (.aload_n 0) 1 228 := ⟨by decide +kernel, rfl⟩
theorem cLaw_228 : Dc yLaw 228 (.iload_n 3) 1 229 := ⟨by decide +kernel, rfl⟩
theorem cLaw_229 : Dc yLaw 229 (.iconst 1) 1 230 := ⟨by decide +kernel, rfl⟩
theorem cLaw_230 : Dc yLaw 230 (.iadd) 1 231 := ⟨by decide +kernel, rfl⟩
theorem cLaw_231 : Dc yLaw 231 (.iaload) 1 232 := ⟨by decide +kernel, rfl⟩
theorem cLaw_232 : Dc yLaw 232 (.invokevirtual 31) 3 235 := ⟨by decide +kernel, rfl⟩
theorem cLaw_235 : Dc yLaw 235 (.aload_n 2) 1 236 := ⟨by decide +kernel, rfl⟩
theorem cLaw_236 : Dc yLaw 236 (.aload_n 0) 1 237 := ⟨by decide +kernel, rfl⟩
theorem cLaw_237 : Dc yLaw 237 (.iload_n 3) 1 238 := ⟨by decide +kernel, rfl⟩
theorem cLaw_238 : Dc yLaw 238 (.iconst 1) 1 239 := ⟨by decide +kernel, rfl⟩
theorem cLaw_239 : Dc yLaw 239 (.iadd) 1 240 := ⟨by decide +kernel, rfl⟩
theorem cLaw_240 : Dc yLaw 240 (.iaload) 1 241 := ⟨by decide +kernel, rfl⟩
theorem cLaw_241 : Dc yLaw 241 (.invokevirtual 34) 3 244 := ⟨by decide +kernel, rfl⟩
theorem cLaw_244 : Db yLaw 244 (.if_icmp .eq 770) 3 247 (770) 1014 := ⟨by decide +kernel, rfl, by decide⟩
theorem cLaw_247 : Dc yLaw 247 (.iconst 0) 1 248 := ⟨by decide +kernel, rfl⟩
theorem cLaw_248 : Dc yLaw 248 (.ireturn) 1 249 := ⟨by decide +kernel, rfl⟩
theorem cLaw_249 : Dc yLaw 249 (.aload_n 1) 1 250 := ⟨by decide +kernel, rfl⟩
theorem cLaw_250 : Dc yLaw 250 (.aload_n 0) 1 251 := ⟨by decide +kernel, rfl⟩
theorem cLaw_251 : Dc yLaw 251 (.iload_n 3) 1 252 := ⟨by decide +kernel, rfl⟩
theorem cLaw_252 : Dc yLaw 252 (.iconst 1) 1 253 := ⟨by decide +kernel, rfl⟩
theorem cLaw_253 : Dc yLaw 253 (.iadd) 1 254 := ⟨by decide +kernel, rfl⟩
theorem cLaw_254 : Dc yLaw 254 (.iaload) 1 255 := ⟨by decide +kernel, rfl⟩
theorem cLaw_255 : Dc yLaw 255 (.aload_n 0) 1 256 := ⟨by decide +kernel, rfl⟩
theorem cLaw_256 : Dc yLaw 256 (.iload_n 3) 1 257 := ⟨by decide +kernel, rfl⟩
theorem cLaw_257 : Dc yLaw 257 (.iconst 2) 1 258 := ⟨by decide +kernel, rfl⟩
theorem cLaw_258 : Dc yLaw 258 (.iadd) 1 259 := ⟨by decide +kernel, rfl⟩
theorem cLaw_259 : Dc yLaw 259 (.iaload) 1 260 := ⟨by decide +kernel, rfl⟩
theorem cLaw_260 : Dc yLaw 260 (.invokevirtual 35) 3 263 := ⟨by decide +kernel, rfl⟩
theorem cLaw_263 : Dc yLaw 263 (.aload_n 2) 1 264 := ⟨by decide +kernel, rfl⟩
theorem cLaw_264 : Dc yLaw 264 (.aload_n 0) 1 265 := ⟨by decide +kernel, rfl⟩
theorem cLaw_265 : Dc yLaw 265 (.iload_n 3) 1 266 := ⟨by decide +kernel, rfl⟩
theorem cLaw_266 : Dc yLaw 266 (.iconst 1) 1 267 := ⟨by decide +kernel, rfl⟩
theorem cLaw_267 : Dc yLaw 267 (.iadd) 1 268 := ⟨by decide +kernel, rfl⟩
theorem cLaw_268 : Dc yLaw 268 (.iaload) 1 269 := ⟨by decide +kernel, rfl⟩
theorem cLaw_269 : Dc yLaw 269 (.aload_n 0) 1 270 := ⟨by decide +kernel, rfl⟩
theorem cLaw_270 : Dc yLaw 270 (.iload_n 3) 1 271 := ⟨by decide +kernel, rfl⟩
theorem cLaw_271 : Dc yLaw 271 (.iconst 2) 1 272 := ⟨by decide +kernel, rfl⟩
theorem cLaw_272 : Dc yLaw 272 (.iadd) 1 273 := ⟨by decide +kernel, rfl⟩
theorem cLaw_273 : Dc yLaw 273 (.iaload) 1 274 := ⟨by decide +kernel, rfl⟩
theorem cLaw_274 : Dc yLaw 274 (.invokevirtual 39) 3 277 := ⟨by decide +kernel, rfl⟩
theorem cLaw_277 : Db yLaw 277 (.if_icmp .eq 737) 3 280 (737) 1014 := ⟨by decide +kernel, rfl, by decide⟩
theorem cLaw_280 : Dc yLaw 280 (.iconst 0) 1 281 := ⟨by decide +kernel, rfl⟩
theorem cLaw_281 : Dc yLaw 281 (.ireturn) 1 282 := ⟨by decide +kernel, rfl⟩
theorem cLaw_282 : Dc yLaw 282 (.aload_n 1) 1 283 := ⟨by decide +kernel, rfl⟩
theorem cLaw_283 : Dc yLaw 283 (.aload_n 0) 1 284 := ⟨by decide +kernel, rfl⟩
theorem cLaw_284 : Dc yLaw 284 (.iload_n 3) 1 285 := ⟨by decide +kernel, rfl⟩
theorem cLaw_285 : Dc yLaw 285 (.iconst 1) 1 286 := ⟨by decide +kernel, rfl⟩
theorem cLaw_286 : Dc yLaw 286 (.iadd) 1 287 := ⟨by decide +kernel, rfl⟩
theorem cLaw_287 : Dc yLaw 287 (.iaload) 1 288 := ⟨by decide +kernel, rfl⟩
theorem cLaw_288 : Dc yLaw 288 (.aload_n 0) 1 289 := ⟨by decide +kernel, rfl⟩
theorem cLaw_289 : Dc yLaw 289 (.iload_n 3) 1 290 := ⟨by decide +kernel, rfl⟩
theorem cLaw_290 : Dc yLaw 290 (.iconst 2) 1 291 := ⟨by decide +kernel, rfl⟩
theorem cLaw_291 : Dc yLaw 291 (.iadd) 1 292 := ⟨by decide +kernel, rfl⟩
theorem cLaw_292 : Dc yLaw 292 (.iaload) 1 293 := ⟨by decide +kernel, rfl⟩
theorem cLaw_293 : Dc yLaw 293 (.invokevirtual 40) 3 296 := ⟨by decide +kernel, rfl⟩
theorem cLaw_296 : Dc yLaw 296 (.aload_n 2) 1 297 := ⟨by decide +kernel, rfl⟩
theorem cLaw_297 : Dc yLaw 297 (.aload_n 0) 1 298 := ⟨by decide +kernel, rfl⟩
theorem cLaw_298 : Dc yLaw 298 (.iload_n 3) 1 299 := ⟨by decide +kernel, rfl⟩
theorem cLaw_299 : Dc yLaw 299 (.iconst 1) 1 300 := ⟨by decide +kernel, rfl⟩
theorem cLaw_300 : Dc yLaw 300 (.iadd) 1 301 := ⟨by decide +kernel, rfl⟩
theorem cLaw_301 : Dc yLaw 301 (.iaload) 1 302 := ⟨by decide +kernel, rfl⟩
theorem cLaw_302 : Dc yLaw 302 (.aload_n 0) 1 303 := ⟨by decide +kernel, rfl⟩
theorem cLaw_303 : Dc yLaw 303 (.iload_n 3) 1 304 := ⟨by decide +kernel, rfl⟩
theorem cLaw_304 : Dc yLaw 304 (.iconst 2) 1 305 := ⟨by decide +kernel, rfl⟩
theorem cLaw_305 : Dc yLaw 305 (.iadd) 1 306 := ⟨by decide +kernel, rfl⟩
theorem cLaw_306 : Dc yLaw 306 (.iaload) 1 307 := ⟨by decide +kernel, rfl⟩
theorem cLaw_307 : Dc yLaw 307 (.invokevirtual 43) 3 310 := ⟨by decide +kernel, rfl⟩
theorem cLaw_310 : Db yLaw 310 (.if_icmp .eq 704) 3 313 (704) 1014 := ⟨by decide +kernel, rfl, by decide⟩
theorem cLaw_313 : Dc yLaw 313 (.iconst 0) 1 314 := ⟨by decide +kernel, rfl⟩
theorem cLaw_314 : Dc yLaw 314 (.ireturn) 1 315 := ⟨by decide +kernel, rfl⟩
theorem cLaw_315 : Dc yLaw 315 (.aload_n 1) 1 316 := ⟨by decide +kernel, rfl⟩
theorem cLaw_316 : Dc yLaw 316 (.aload_n 0) 1 317 := ⟨by decide +kernel, rfl⟩
theorem cLaw_317 : Dc yLaw 317 (.iload_n 3) 1 318 := ⟨by decide +kernel, rfl⟩
theorem cLaw_318 : Dc yLaw 318 (.iconst 1) 1 319 := ⟨by decide +kernel, rfl⟩
theorem cLaw_319 : Dc yLaw 319 (.iadd) 1 320 := ⟨by decide +kernel, rfl⟩
theorem cLaw_320 : Dc yLaw 320 (.iaload) 1 321 := ⟨by decide +kernel, rfl⟩
theorem cLaw_321 : Dc yLaw 321 (.aload_n 0) 1 322 := ⟨by decide +kernel, rfl⟩
theorem cLaw_322 : Dc yLaw 322 (.iload_n 3) 1 323 := ⟨by decide +kernel, rfl⟩
theorem cLaw_323 : Dc yLaw 323 (.iconst 2) 1 324 := ⟨by decide +kernel, rfl⟩
theorem cLaw_324 : Dc yLaw 324 (.iadd) 1 325 := ⟨by decide +kernel, rfl⟩
theorem cLaw_325 : Dc yLaw 325 (.iaload) 1 326 := ⟨by decide +kernel, rfl⟩
theorem cLaw_326 : Dc yLaw 326 (.invokevirtual 44) 3 329 := ⟨by decide +kernel, rfl⟩
theorem cLaw_329 : Dc yLaw 329 (.aload_n 2) 1 330 := ⟨by decide +kernel, rfl⟩
theorem cLaw_330 : Dc yLaw 330 (.aload_n 0) 1 331 := ⟨by decide +kernel, rfl⟩
theorem cLaw_331 : Dc yLaw 331 (.iload_n 3) 1 332 := ⟨by decide +kernel, rfl⟩
theorem cLaw_332 : Dc yLaw 332 (.iconst 1) 1 333 := ⟨by decide +kernel, rfl⟩
theorem cLaw_333 : Dc yLaw 333 (.iadd) 1 334 := ⟨by decide +kernel, rfl⟩
theorem cLaw_334 : Dc yLaw 334 (.iaload) 1 335 := ⟨by decide +kernel, rfl⟩
theorem cLaw_335 : Dc yLaw 335 (.aload_n 0) 1 336 := ⟨by decide +kernel, rfl⟩
theorem cLaw_336 : Dc yLaw 336 (.iload_n 3) 1 337 := ⟨by decide +kernel, rfl⟩
theorem cLaw_337 : Dc yLaw 337 (.iconst 2) 1 338 := ⟨by decide +kernel, rfl⟩
theorem cLaw_338 : Dc yLaw 338 (.iadd) 1 339 := ⟨by decide +kernel, rfl⟩
theorem cLaw_339 : Dc yLaw 339 (.iaload) 1 340 := ⟨by decide +kernel, rfl⟩
theorem cLaw_340 : Dc yLaw 340 (.invokevirtual 47) 3 343 := ⟨by decide +kernel, rfl⟩
theorem cLaw_343 : Db yLaw 343 (.if_icmp .eq 671) 3 346 (671) 1014 := ⟨by decide +kernel, rfl, by decide⟩
theorem cLaw_346 : Dc yLaw 346 (.iconst 0) 1 347 := ⟨by decide +kernel, rfl⟩
theorem cLaw_347 : Dc yLaw 347 (.ireturn) 1 348 := ⟨by decide +kernel, rfl⟩
theorem cLaw_348 : Dc yLaw 348 (.aload_n 1) 1 349 := ⟨by decide +kernel, rfl⟩
theorem cLaw_349 : Dc yLaw 349 (.aload_n 0) 1 350 := ⟨by decide +kernel, rfl⟩
theorem cLaw_350 : Dc yLaw 350 (.iload_n 3) 1 351 := ⟨by decide +kernel, rfl⟩
theorem cLaw_351 : Dc yLaw 351 (.iconst 1) 1 352 := ⟨by decide +kernel, rfl⟩
theorem cLaw_352 : Dc yLaw 352 (.iadd) 1 353 := ⟨by decide +kernel, rfl⟩
theorem cLaw_353 : Dc yLaw 353 (.iaload) 1 354 := ⟨by decide +kernel, rfl⟩
theorem cLaw_354 : Dc yLaw 354 (.invokevirtual 48) 3 357 := ⟨by decide +kernel, rfl⟩
theorem cLaw_357 : Dc yLaw 357 (.aload_n 2) 1 358 := ⟨by decide +kernel, rfl⟩
theorem cLaw_358 : Dc yLaw 358 (.aload_n 0) 1 359 := ⟨by decide +kernel, rfl⟩
theorem cLaw_359 : Dc yLaw 359 (.iload_n 3) 1 360 := ⟨by decide +kernel, rfl⟩
theorem cLaw_360 : Dc yLaw 360 (.iconst 1) 1 361 := ⟨by decide +kernel, rfl⟩
theorem cLaw_361 : Dc yLaw 361 (.iadd) 1 362 := ⟨by decide +kernel, rfl⟩
theorem cLaw_362 : Dc yLaw 362 (.iaload) 1 363 := ⟨by decide +kernel, rfl⟩
theorem cLaw_363 : Dc yLaw 363 (.invokevirtual 51) 3 366 := ⟨by decide +kernel, rfl⟩
theorem cLaw_366 : Db yLaw 366 (.if_icmp .eq 648) 3 369 (648) 1014 := ⟨by decide +kernel, rfl, by decide⟩
theorem cLaw_369 : Dc yLaw 369 (.iconst 0) 1 370 := ⟨by decide +kernel, rfl⟩
theorem cLaw_370 : Dc yLaw 370 (.ireturn) 1 371 := ⟨by decide +kernel, rfl⟩
theorem cLaw_371 : Dc yLaw 371 (.aload_n 1) 1 372 := ⟨by decide +kernel, rfl⟩
theorem cLaw_372 : Dc yLaw 372 (.aload_n 0) 1 373 := ⟨by decide +kernel, rfl⟩
theorem cLaw_373 : Dc yLaw 373 (.iload_n 3) 1 374 := ⟨by decide +kernel, rfl⟩
theorem cLaw_374 : Dc yLaw 374 (.iconst 1) 1 375 := ⟨by decide +kernel, rfl⟩
theorem cLaw_375 : Dc yLaw 375 (.iadd) 1 376 := ⟨by decide +kernel, rfl⟩
theorem cLaw_376 : Dc yLaw 376 (.iaload) 1 377 := ⟨by decide +kernel, rfl⟩
theorem cLaw_377 : Dc yLaw 377 (.aload_n 0) 1 378 := ⟨by decide +kernel, rfl⟩
theorem cLaw_378 : Dc yLaw 378 (.iload_n 3) 1 379 := ⟨by decide +kernel, rfl⟩
theorem cLaw_379 : Dc yLaw 379 (.iconst 2) 1 380 := ⟨by decide +kernel, rfl⟩
theorem cLaw_380 : Dc yLaw 380 (.iadd) 1 381 := ⟨by decide +kernel, rfl⟩
theorem cLaw_381 : Dc yLaw 381 (.iaload) 1 382 := ⟨by decide +kernel, rfl⟩
theorem cLaw_382 : Dc yLaw 382 (.invokevirtual 52) 3 385 := ⟨by decide +kernel, rfl⟩
theorem cLaw_385 : Dc yLaw 385 (.aload_n 2) 1 386 := ⟨by decide +kernel, rfl⟩
theorem cLaw_386 : Dc yLaw 386 (.aload_n 0) 1 387 := ⟨by decide +kernel, rfl⟩
theorem cLaw_387 : Dc yLaw 387 (.iload_n 3) 1 388 := ⟨by decide +kernel, rfl⟩
theorem cLaw_388 : Dc yLaw 388 (.iconst 1) 1 389 := ⟨by decide +kernel, rfl⟩
theorem cLaw_389 : Dc yLaw 389 (.iadd) 1 390 := ⟨by decide +kernel, rfl⟩
theorem cLaw_390 : Dc yLaw 390 (.iaload) 1 391 := ⟨by decide +kernel, rfl⟩
theorem cLaw_391 : Dc yLaw 391 (.aload_n 0) 1 392 := ⟨by decide +kernel, rfl⟩
theorem cLaw_392 : Dc yLaw 392 (.iload_n 3) 1 393 := ⟨by decide +kernel, rfl⟩
theorem cLaw_393 : Dc yLaw 393 (.iconst 2) 1 394 := ⟨by decide +kernel, rfl⟩
theorem cLaw_394 : Dc yLaw 394 (.iadd) 1 395 := ⟨by decide +kernel, rfl⟩
theorem cLaw_395 : Dc yLaw 395 (.iaload) 1 396 := ⟨by decide +kernel, rfl⟩
theorem cLaw_396 : Dc yLaw 396 (.invokevirtual 55) 3 399 := ⟨by decide +kernel, rfl⟩
theorem cLaw_399 : Db yLaw 399 (.if_icmp .eq 615) 3 402 (615) 1014 := ⟨by decide +kernel, rfl, by decide⟩
theorem cLaw_402 : Dc yLaw 402 (.iconst 0) 1 403 := ⟨by decide +kernel, rfl⟩
theorem cLaw_403 : Dc yLaw 403 (.ireturn) 1 404 := ⟨by decide +kernel, rfl⟩
theorem cLaw_404 : Dc yLaw 404 (.aload_n 1) 1 405 := ⟨by decide +kernel, rfl⟩
theorem cLaw_405 : Dc yLaw 405 (.invokevirtual 56) 3 408 := ⟨by decide +kernel, rfl⟩
theorem cLaw_408 : Dc yLaw 408 (.aload_n 2) 1 409 := ⟨by decide +kernel, rfl⟩
theorem cLaw_409 : Dc yLaw 409 (.invokevirtual 59) 3 412 := ⟨by decide +kernel, rfl⟩
theorem cLaw_412 : Db yLaw 412 (.if_icmp .eq 602) 3 415 (602) 1014 := ⟨by decide +kernel, rfl, by decide⟩
theorem cLaw_415 : Dc yLaw 415 (.iconst 0) 1 416 := ⟨by decide +kernel, rfl⟩
theorem cLaw_416 : Dc yLaw 416 (.ireturn) 1 417 := ⟨by decide +kernel, rfl⟩
theorem cLaw_417 : Dc yLaw 417 (.aload_n 1) 1 418 := ⟨by decide +kernel, rfl⟩
theorem cLaw_418 : Dc yLaw 418 (.aload_n 0) 1 419 := ⟨by decide +kernel, rfl⟩
theorem cLaw_419 : Dc yLaw 419 (.iload_n 3) 1 420 := ⟨by decide +kernel, rfl⟩
theorem cLaw_420 : Dc yLaw 420 (.iconst 1) 1 421 := ⟨by decide +kernel, rfl⟩
theorem cLaw_421 : Dc yLaw 421 (.iadd) 1 422 := ⟨by decide +kernel, rfl⟩
theorem cLaw_422 : Dc yLaw 422 (.iaload) 1 423 := ⟨by decide +kernel, rfl⟩
theorem cLaw_423 : Dc yLaw 423 (.invokevirtual 60) 3 426 := ⟨by decide +kernel, rfl⟩
theorem cLaw_426 : Dc yLaw 426 (.aload_n 2) 1 427 := ⟨by decide +kernel, rfl⟩
theorem cLaw_427 : Dc yLaw 427 (.aload_n 0) 1 428 := ⟨by decide +kernel, rfl⟩
theorem cLaw_428 : Dc yLaw 428 (.iload_n 3) 1 429 := ⟨by decide +kernel, rfl⟩
theorem cLaw_429 : Dc yLaw 429 (.iconst 1) 1 430 := ⟨by decide +kernel, rfl⟩
theorem cLaw_430 : Dc yLaw 430 (.iadd) 1 431 := ⟨by decide +kernel, rfl⟩
theorem cLaw_431 : Dc yLaw 431 (.iaload) 1 432 := ⟨by decide +kernel, rfl⟩
theorem cLaw_432 : Dc yLaw 432 (.invokevirtual 63) 3 435 := ⟨by decide +kernel, rfl⟩
theorem cLaw_435 : Db yLaw 435 (.if_icmp .eq 579) 3 438 (579) 1014 := ⟨by decide +kernel, rfl, by decide⟩
theorem cLaw_438 : Dc yLaw 438 (.iconst 0) 1 439 := ⟨by decide +kernel, rfl⟩
theorem cLaw_439 : Dc yLaw 439 (.ireturn) 1 440 := ⟨by decide +kernel, rfl⟩
theorem cLaw_440 : Dc yLaw 440 (.aload_n 1) 1 441 := ⟨by decide +kernel, rfl⟩
theorem cLaw_441 : Dc yLaw 441 (.aload_n 0) 1 442 := ⟨by decide +kernel, rfl⟩
theorem cLaw_442 : Dc yLaw 442 (.iload_n 3) 1 443 := ⟨by decide +kernel, rfl⟩
theorem cLaw_443 : Dc yLaw 443 (.iconst 1) 1 444 := ⟨by decide +kernel, rfl⟩
theorem cLaw_444 : Dc yLaw 444 (.iadd) 1 445 := ⟨by decide +kernel, rfl⟩
theorem cLaw_445 : Dc yLaw 445 (.iaload) 1 446 := ⟨by decide +kernel, rfl⟩
theorem cLaw_446 : Dc yLaw 446 (.aload_n 0) 1 447 := ⟨by decide +kernel, rfl⟩
theorem cLaw_447 : Dc yLaw 447 (.iload_n 3) 1 448 := ⟨by decide +kernel, rfl⟩
theorem cLaw_448 : Dc yLaw 448 (.iconst 2) 1 449 := ⟨by decide +kernel, rfl⟩
theorem cLaw_449 : Dc yLaw 449 (.iadd) 1 450 := ⟨by decide +kernel, rfl⟩
theorem cLaw_450 : Dc yLaw 450 (.iaload) 1 451 := ⟨by decide +kernel, rfl⟩
theorem cLaw_451 : Dc yLaw 451 (.invokevirtual 64) 3 454 := ⟨by decide +kernel, rfl⟩
theorem cLaw_454 : Dc yLaw 454 (.aload_n 2) 1 455 := ⟨by decide +kernel, rfl⟩
theorem cLaw_455 : Dc yLaw 455 (.aload_n 0) 1 456 := ⟨by decide +kernel, rfl⟩
theorem cLaw_456 : Dc yLaw 456 (.iload_n 3) 1 457 := ⟨by decide +kernel, rfl⟩
theorem cLaw_457 : Dc yLaw 457 (.iconst 1) 1 458 := ⟨by decide +kernel, rfl⟩
theorem cLaw_458 : Dc yLaw 458 (.iadd) 1 459 := ⟨by decide +kernel, rfl⟩
theorem cLaw_459 : Dc yLaw 459 (.iaload) 1 460 := ⟨by decide +kernel, rfl⟩
theorem cLaw_460 : Dc yLaw 460 (.aload_n 0) 1 461 := ⟨by decide +kernel, rfl⟩
theorem cLaw_461 : Dc yLaw 461 (.iload_n 3) 1 462 := ⟨by decide +kernel, rfl⟩
theorem cLaw_462 : Dc yLaw 462 (.iconst 2) 1 463 := ⟨by decide +kernel, rfl⟩
theorem cLaw_463 : Dc yLaw 463 (.iadd) 1 464 := ⟨by decide +kernel, rfl⟩
theorem cLaw_464 : Dc yLaw 464 (.iaload) 1 465 := ⟨by decide +kernel, rfl⟩
theorem cLaw_465 : Dc yLaw 465 (.invokevirtual 67) 3 468 := ⟨by decide +kernel, rfl⟩
theorem cLaw_468 : Db yLaw 468 (.if_icmp .eq 546) 3 471 (546) 1014 := ⟨by decide +kernel, rfl, by decide⟩
theorem cLaw_471 : Dc yLaw 471 (.iconst 0) 1 472 := ⟨by decide +kernel, rfl⟩
theorem cLaw_472 : Dc yLaw 472 (.ireturn) 1 473 := ⟨by decide +kernel, rfl⟩
theorem cLaw_473 : Dc yLaw 473 (.aload_n 1) 1 474 := ⟨by decide +kernel, rfl⟩
theorem cLaw_474 : Dc yLaw 474 (.aload_n 0) 1 475 := ⟨by decide +kernel, rfl⟩
theorem cLaw_475 : Dc yLaw 475 (.iload_n 3) 1 476 := ⟨by decide +kernel, rfl⟩
theorem cLaw_476 : Dc yLaw 476 (.iconst 1) 1 477 := ⟨by decide +kernel, rfl⟩
theorem cLaw_477 : Dc yLaw 477 (.iadd) 1 478 := ⟨by decide +kernel, rfl⟩
theorem cLaw_478 : Dc yLaw 478 (.iaload) 1 479 := ⟨by decide +kernel, rfl⟩
theorem cLaw_479 : Dc yLaw 479 (.aload_n 0) 1 480 := ⟨by decide +kernel, rfl⟩
theorem cLaw_480 : Dc yLaw 480 (.iload_n 3) 1 481 := ⟨by decide +kernel, rfl⟩
theorem cLaw_481 : Dc yLaw 481 (.iconst 2) 1 482 := ⟨by decide +kernel, rfl⟩
theorem cLaw_482 : Dc yLaw 482 (.iadd) 1 483 := ⟨by decide +kernel, rfl⟩
theorem cLaw_483 : Dc yLaw 483 (.iaload) 1 484 := ⟨by decide +kernel, rfl⟩
theorem cLaw_484 : Dc yLaw 484 (.invokevirtual 68) 3 487 := ⟨by decide +kernel, rfl⟩
theorem cLaw_487 : Dc yLaw 487 (.aload_n 2) 1 488 := ⟨by decide +kernel, rfl⟩
theorem cLaw_488 : Dc yLaw 488 (.aload_n 0) 1 489 := ⟨by decide +kernel, rfl⟩
theorem cLaw_489 : Dc yLaw 489 (.iload_n 3) 1 490 := ⟨by decide +kernel, rfl⟩
theorem cLaw_490 : Dc yLaw 490 (.iconst 1) 1 491 := ⟨by decide +kernel, rfl⟩
theorem cLaw_491 : Dc yLaw 491 (.iadd) 1 492 := ⟨by decide +kernel, rfl⟩
theorem cLaw_492 : Dc yLaw 492 (.iaload) 1 493 := ⟨by decide +kernel, rfl⟩
theorem cLaw_493 : Dc yLaw 493 (.aload_n 0) 1 494 := ⟨by decide +kernel, rfl⟩
theorem cLaw_494 : Dc yLaw 494 (.iload_n 3) 1 495 := ⟨by decide +kernel, rfl⟩
theorem cLaw_495 : Dc yLaw 495 (.iconst 2) 1 496 := ⟨by decide +kernel, rfl⟩
theorem cLaw_496 : Dc yLaw 496 (.iadd) 1 497 := ⟨by decide +kernel, rfl⟩
theorem cLaw_497 : Dc yLaw 497 (.iaload) 1 498 := ⟨by decide +kernel, rfl⟩
theorem cLaw_498 : Dc yLaw 498 (.invokevirtual 71) 3 501 := ⟨by decide +kernel, rfl⟩
theorem cLaw_501 : Db yLaw 501 (.if_icmp .eq 513) 3 504 (513) 1014 := ⟨by decide +kernel, rfl, by decide⟩
theorem cLaw_504 : Dc yLaw 504 (.iconst 0) 1 505 := ⟨by decide +kernel, rfl⟩
theorem cLaw_505 : Dc yLaw 505 (.ireturn) 1 506 := ⟨by decide +kernel, rfl⟩
theorem cLaw_506 : Dc yLaw 506 (.aload_n 1) 1 507 := ⟨by decide +kernel, rfl⟩
theorem cLaw_507 : Dc yLaw 507 (.invokevirtual 72) 3 510 := ⟨by decide +kernel, rfl⟩
theorem cLaw_510 : Dc yLaw 510 (.aload_n 2) 1 511 := ⟨by decide +kernel, rfl⟩
theorem cLaw_511 : Dc yLaw 511 (.invokevirtual 75) 3 514 := ⟨by decide +kernel, rfl⟩
theorem cLaw_514 : Db yLaw 514 (.if_icmp .eq 500) 3 517 (500) 1014 := ⟨by decide +kernel, rfl, by decide⟩
theorem cLaw_517 : Dc yLaw 517 (.iconst 0) 1 518 := ⟨by decide +kernel, rfl⟩
theorem cLaw_518 : Dc yLaw 518 (.ireturn) 1 519 := ⟨by decide +kernel, rfl⟩
theorem cLaw_519 : Dc yLaw 519 (.aload_n 1) 1 520 := ⟨by decide +kernel, rfl⟩
theorem cLaw_520 : Dc yLaw 520 (.aload_n 0) 1 521 := ⟨by decide +kernel, rfl⟩
theorem cLaw_521 : Dc yLaw 521 (.iload_n 3) 1 522 := ⟨by decide +kernel, rfl⟩
theorem cLaw_522 : Dc yLaw 522 (.iconst 1) 1 523 := ⟨by decide +kernel, rfl⟩
theorem cLaw_523 : Dc yLaw 523 (.iadd) 1 524 := ⟨by decide +kernel, rfl⟩
theorem cLaw_524 : Dc yLaw 524 (.iaload) 1 525 := ⟨by decide +kernel, rfl⟩
theorem cLaw_525 : Dc yLaw 525 (.invokevirtual 76) 3 528 := ⟨by decide +kernel, rfl⟩
theorem cLaw_528 : Dc yLaw 528 (.aload_n 2) 1 529 := ⟨by decide +kernel, rfl⟩
theorem cLaw_529 : Dc yLaw 529 (.aload_n 0) 1 530 := ⟨by decide +kernel, rfl⟩
theorem cLaw_530 : Dc yLaw 530 (.iload_n 3) 1 531 := ⟨by decide +kernel, rfl⟩
theorem cLaw_531 : Dc yLaw 531 (.iconst 1) 1 532 := ⟨by decide +kernel, rfl⟩
theorem cLaw_532 : Dc yLaw 532 (.iadd) 1 533 := ⟨by decide +kernel, rfl⟩
theorem cLaw_533 : Dc yLaw 533 (.iaload) 1 534 := ⟨by decide +kernel, rfl⟩
theorem cLaw_534 : Dc yLaw 534 (.invokevirtual 79) 3 537 := ⟨by decide +kernel, rfl⟩
theorem cLaw_537 : Db yLaw 537 (.if_icmp .eq 477) 3 540 (477) 1014 := ⟨by decide +kernel, rfl, by decide⟩
theorem cLaw_540 : Dc yLaw 540 (.iconst 0) 1 541 := ⟨by decide +kernel, rfl⟩
theorem cLaw_541 : Dc yLaw 541 (.ireturn) 1 542 := ⟨by decide +kernel, rfl⟩
theorem cLaw_542 : Dc yLaw 542 (.aload_n 1) 1 543 := ⟨by decide +kernel, rfl⟩
theorem cLaw_543 : Dc yLaw 543 (.aload_n 0) 1 544 := ⟨by decide +kernel, rfl⟩
theorem cLaw_544 : Dc yLaw 544 (.iload_n 3) 1 545 := ⟨by decide +kernel, rfl⟩
theorem cLaw_545 : Dc yLaw 545 (.iconst 1) 1 546 := ⟨by decide +kernel, rfl⟩
theorem cLaw_546 : Dc yLaw 546 (.iadd) 1 547 := ⟨by decide +kernel, rfl⟩
theorem cLaw_547 : Dc yLaw 547 (.iaload) 1 548 := ⟨by decide +kernel, rfl⟩
theorem cLaw_548 : Dc yLaw 548 (.aload_n 0) 1 549 := ⟨by decide +kernel, rfl⟩
theorem cLaw_549 : Dc yLaw 549 (.iload_n 3) 1 550 := ⟨by decide +kernel, rfl⟩
theorem cLaw_550 : Dc yLaw 550 (.iconst 2) 1 551 := ⟨by decide +kernel, rfl⟩
theorem cLaw_551 : Dc yLaw 551 (.iadd) 1 552 := ⟨by decide +kernel, rfl⟩
theorem cLaw_552 : Dc yLaw 552 (.iaload) 1 553 := ⟨by decide +kernel, rfl⟩
theorem cLaw_553 : Db yLaw 553 (.ifCond .eq 7) 3 556 (7) 560 := ⟨by decide +kernel, rfl, by decide⟩
theorem cLaw_556 : Dc yLaw 556 (.iconst 1) 1 557 := ⟨by decide +kernel, rfl⟩
theorem cLaw_557 : Db yLaw 557 (.goto 4) 3 560 (4) 561 := ⟨by decide +kernel, rfl, by decide⟩
theorem cLaw_560 : Dc yLaw 560 (.iconst 0) 1 561 := ⟨by decide +kernel, rfl⟩
theorem cLaw_561 : Dc yLaw 561 (.invokevirtual 80) 3 564 := ⟨by decide +kernel, rfl⟩
theorem cLaw_564 : Dc yLaw 564 (.aload_n 2) 1 565 := ⟨by decide +kernel, rfl⟩
theorem cLaw_565 : Dc yLaw 565 (.aload_n 0) 1 566 := ⟨by decide +kernel, rfl⟩
theorem cLaw_566 : Dc yLaw 566 (.iload_n 3) 1 567 := ⟨by decide +kernel, rfl⟩
theorem cLaw_567 : Dc yLaw 567 (.iconst 1) 1 568 := ⟨by decide +kernel, rfl⟩
theorem cLaw_568 : Dc yLaw 568 (.iadd) 1 569 := ⟨by decide +kernel, rfl⟩
theorem cLaw_569 : Dc yLaw 569 (.iaload) 1 570 := ⟨by decide +kernel, rfl⟩
theorem cLaw_570 : Dc yLaw 570 (.aload_n 0) 1 571 := ⟨by decide +kernel, rfl⟩
theorem cLaw_571 : Dc yLaw 571 (.iload_n 3) 1 572 := ⟨by decide +kernel, rfl⟩
theorem cLaw_572 : Dc yLaw 572 (.iconst 2) 1 573 := ⟨by decide +kernel, rfl⟩
theorem cLaw_573 : Dc yLaw 573 (.iadd) 1 574 := ⟨by decide +kernel, rfl⟩
theorem cLaw_574 : Dc yLaw 574 (.iaload) 1 575 := ⟨by decide +kernel, rfl⟩
theorem cLaw_575 : Db yLaw 575 (.ifCond .eq 7) 3 578 (7) 582 := ⟨by decide +kernel, rfl, by decide⟩
theorem cLaw_578 : Dc yLaw 578 (.iconst 1) 1 579 := ⟨by decide +kernel, rfl⟩
theorem cLaw_579 : Db yLaw 579 (.goto 4) 3 582 (4) 583 := ⟨by decide +kernel, rfl, by decide⟩
theorem cLaw_582 : Dc yLaw 582 (.iconst 0) 1 583 := ⟨by decide +kernel, rfl⟩
theorem cLaw_583 : Dc yLaw 583 (.invokevirtual 84) 3 586 := ⟨by decide +kernel, rfl⟩
theorem cLaw_586 : Db yLaw 586 (.if_icmp .eq 428) 3 589 (428) 1014 := ⟨by decide +kernel, rfl, by decide⟩
theorem cLaw_589 : Dc yLaw 589 (.iconst 0) 1 590 := ⟨by decide +kernel, rfl⟩
theorem cLaw_590 : Dc yLaw 590 (.ireturn) 1 591 := ⟨by decide +kernel, rfl⟩
theorem cLaw_591 : Dc yLaw 591 (.aload_n 1) 1 592 := ⟨by decide +kernel, rfl⟩
theorem cLaw_592 : Dc yLaw 592 (.aload_n 0) 1 593 := ⟨by decide +kernel, rfl⟩
theorem cLaw_593 : Dc yLaw 593 (.iload_n 3) 1 594 := ⟨by decide +kernel, rfl⟩
theorem cLaw_594 : Dc yLaw 594 (.iconst 1) 1 595 := ⟨by decide +kernel, rfl⟩
theorem cLaw_595 : Dc yLaw 595 (.iadd) 1 596 := ⟨by decide +kernel, rfl⟩
theorem cLaw_596 : Dc yLaw 596 (.iaload) 1 597 := ⟨by decide +kernel, rfl⟩
theorem cLaw_597 : Dc yLaw 597 (.aload_n 0) 1 598 := ⟨by decide +kernel, rfl⟩
theorem cLaw_598 : Dc yLaw 598 (.iload_n 3) 1 599 := ⟨by decide +kernel, rfl⟩
theorem cLaw_599 : Dc yLaw 599 (.iconst 2) 1 600 := ⟨by decide +kernel, rfl⟩
theorem cLaw_600 : Dc yLaw 600 (.iadd) 1 601 := ⟨by decide +kernel, rfl⟩
theorem cLaw_601 : Dc yLaw 601 (.iaload) 1 602 := ⟨by decide +kernel, rfl⟩
theorem cLaw_602 : Dc yLaw 602 (.invokevirtual 85) 3 605 := ⟨by decide +kernel, rfl⟩
theorem cLaw_605 : Dc yLaw 605 (.aload_n 2) 1 606 := ⟨by decide +kernel, rfl⟩
theorem cLaw_606 : Dc yLaw 606 (.aload_n 0) 1 607 := ⟨by decide +kernel, rfl⟩
theorem cLaw_607 : Dc yLaw 607 (.iload_n 3) 1 608 := ⟨by decide +kernel, rfl⟩
theorem cLaw_608 : Dc yLaw 608 (.iconst 1) 1 609 := ⟨by decide +kernel, rfl⟩
theorem cLaw_609 : Dc yLaw 609 (.iadd) 1 610 := ⟨by decide +kernel, rfl⟩
theorem cLaw_610 : Dc yLaw 610 (.iaload) 1 611 := ⟨by decide +kernel, rfl⟩
theorem cLaw_611 : Dc yLaw 611 (.aload_n 0) 1 612 := ⟨by decide +kernel, rfl⟩
theorem cLaw_612 : Dc yLaw 612 (.iload_n 3) 1 613 := ⟨by decide +kernel, rfl⟩
theorem cLaw_613 : Dc yLaw 613 (.iconst 2) 1 614 := ⟨by decide +kernel, rfl⟩
theorem cLaw_614 : Dc yLaw 614 (.iadd) 1 615 := ⟨by decide +kernel, rfl⟩
theorem cLaw_615 : Dc yLaw 615 (.iaload) 1 616 := ⟨by decide +kernel, rfl⟩
theorem cLaw_616 : Dc yLaw 616 (.invokevirtual 88) 3 619 := ⟨by decide +kernel, rfl⟩
theorem cLaw_619 : Db yLaw 619 (.if_icmp .eq 395) 3 622 (395) 1014 := ⟨by decide +kernel, rfl, by decide⟩
theorem cLaw_622 : Dc yLaw 622 (.iconst 0) 1 623 := ⟨by decide +kernel, rfl⟩
theorem cLaw_623 : Dc yLaw 623 (.ireturn) 1 624 := ⟨by decide +kernel, rfl⟩
theorem cLaw_624 : Dc yLaw 624 (.aload_n 1) 1 625 := ⟨by decide +kernel, rfl⟩
theorem cLaw_625 : Dc yLaw 625 (.aload_n 0) 1 626 := ⟨by decide +kernel, rfl⟩
theorem cLaw_626 : Dc yLaw 626 (.iload_n 3) 1 627 := ⟨by decide +kernel, rfl⟩
theorem cLaw_627 : Dc yLaw 627 (.iconst 1) 1 628 := ⟨by decide +kernel, rfl⟩
theorem cLaw_628 : Dc yLaw 628 (.iadd) 1 629 := ⟨by decide +kernel, rfl⟩
theorem cLaw_629 : Dc yLaw 629 (.iaload) 1 630 := ⟨by decide +kernel, rfl⟩
theorem cLaw_630 : Dc yLaw 630 (.aload_n 0) 1 631 := ⟨by decide +kernel, rfl⟩
theorem cLaw_631 : Dc yLaw 631 (.iload_n 3) 1 632 := ⟨by decide +kernel, rfl⟩
theorem cLaw_632 : Dc yLaw 632 (.iconst 2) 1 633 := ⟨by decide +kernel, rfl⟩
theorem cLaw_633 : Dc yLaw 633 (.iadd) 1 634 := ⟨by decide +kernel, rfl⟩
theorem cLaw_634 : Dc yLaw 634 (.iaload) 1 635 := ⟨by decide +kernel, rfl⟩
theorem cLaw_635 : Dc yLaw 635 (.invokevirtual 89) 3 638 := ⟨by decide +kernel, rfl⟩
theorem cLaw_638 : Dc yLaw 638 (.aload_n 2) 1 639 := ⟨by decide +kernel, rfl⟩
theorem cLaw_639 : Dc yLaw 639 (.aload_n 0) 1 640 := ⟨by decide +kernel, rfl⟩
theorem cLaw_640 : Dc yLaw 640 (.iload_n 3) 1 641 := ⟨by decide +kernel, rfl⟩
theorem cLaw_641 : Dc yLaw 641 (.iconst 1) 1 642 := ⟨by decide +kernel, rfl⟩
theorem cLaw_642 : Dc yLaw 642 (.iadd) 1 643 := ⟨by decide +kernel, rfl⟩
theorem cLaw_643 : Dc yLaw 643 (.iaload) 1 644 := ⟨by decide +kernel, rfl⟩
theorem cLaw_644 : Dc yLaw 644 (.aload_n 0) 1 645 := ⟨by decide +kernel, rfl⟩
theorem cLaw_645 : Dc yLaw 645 (.iload_n 3) 1 646 := ⟨by decide +kernel, rfl⟩
theorem cLaw_646 : Dc yLaw 646 (.iconst 2) 1 647 := ⟨by decide +kernel, rfl⟩
theorem cLaw_647 : Dc yLaw 647 (.iadd) 1 648 := ⟨by decide +kernel, rfl⟩
theorem cLaw_648 : Dc yLaw 648 (.iaload) 1 649 := ⟨by decide +kernel, rfl⟩
theorem cLaw_649 : Dc yLaw 649 (.invokevirtual 92) 3 652 := ⟨by decide +kernel, rfl⟩
theorem cLaw_652 : Db yLaw 652 (.if_icmp .eq 362) 3 655 (362) 1014 := ⟨by decide +kernel, rfl, by decide⟩
theorem cLaw_655 : Dc yLaw 655 (.iconst 0) 1 656 := ⟨by decide +kernel, rfl⟩
theorem cLaw_656 : Dc yLaw 656 (.ireturn) 1 657 := ⟨by decide +kernel, rfl⟩
theorem cLaw_657 : Dc yLaw 657 (.aload_n 1) 1 658 := ⟨by decide +kernel, rfl⟩
theorem cLaw_658 : Dc yLaw 658 (.aload_n 0) 1 659 := ⟨by decide +kernel, rfl⟩
theorem cLaw_659 : Dc yLaw 659 (.iload_n 3) 1 660 := ⟨by decide +kernel, rfl⟩
theorem cLaw_660 : Dc yLaw 660 (.iconst 1) 1 661 := ⟨by decide +kernel, rfl⟩
theorem cLaw_661 : Dc yLaw 661 (.iadd) 1 662 := ⟨by decide +kernel, rfl⟩
theorem cLaw_662 : Dc yLaw 662 (.iaload) 1 663 := ⟨by decide +kernel, rfl⟩
theorem cLaw_663 : Dc yLaw 663 (.aload_n 0) 1 664 := ⟨by decide +kernel, rfl⟩
theorem cLaw_664 : Dc yLaw 664 (.iload_n 3) 1 665 := ⟨by decide +kernel, rfl⟩
theorem cLaw_665 : Dc yLaw 665 (.iconst 2) 1 666 := ⟨by decide +kernel, rfl⟩
theorem cLaw_666 : Dc yLaw 666 (.iadd) 1 667 := ⟨by decide +kernel, rfl⟩
theorem cLaw_667 : Dc yLaw 667 (.iaload) 1 668 := ⟨by decide +kernel, rfl⟩
theorem cLaw_668 : Dc yLaw 668 (.aload_n 0) 1 669 := ⟨by decide +kernel, rfl⟩
theorem cLaw_669 : Dc yLaw 669 (.iload_n 3) 1 670 := ⟨by decide +kernel, rfl⟩
theorem cLaw_670 : Dc yLaw 670 (.iconst 3) 1 671 := ⟨by decide +kernel, rfl⟩
theorem cLaw_671 : Dc yLaw 671 (.iadd) 1 672 := ⟨by decide +kernel, rfl⟩
theorem cLaw_672 : Dc yLaw 672 (.iaload) 1 673 := ⟨by decide +kernel, rfl⟩
theorem cLaw_673 : Dc yLaw 673 (.invokevirtual 93) 3 676 := ⟨by decide +kernel, rfl⟩
theorem cLaw_676 : Dc yLaw 676 (.aload_n 2) 1 677 := ⟨by decide +kernel, rfl⟩
theorem cLaw_677 : Dc yLaw 677 (.aload_n 0) 1 678 := ⟨by decide +kernel, rfl⟩
theorem cLaw_678 : Dc yLaw 678 (.iload_n 3) 1 679 := ⟨by decide +kernel, rfl⟩
theorem cLaw_679 : Dc yLaw 679 (.iconst 1) 1 680 := ⟨by decide +kernel, rfl⟩
theorem cLaw_680 : Dc yLaw 680 (.iadd) 1 681 := ⟨by decide +kernel, rfl⟩
theorem cLaw_681 : Dc yLaw 681 (.iaload) 1 682 := ⟨by decide +kernel, rfl⟩
theorem cLaw_682 : Dc yLaw 682 (.aload_n 0) 1 683 := ⟨by decide +kernel, rfl⟩
theorem cLaw_683 : Dc yLaw 683 (.iload_n 3) 1 684 := ⟨by decide +kernel, rfl⟩
theorem cLaw_684 : Dc yLaw 684 (.iconst 2) 1 685 := ⟨by decide +kernel, rfl⟩
theorem cLaw_685 : Dc yLaw 685 (.iadd) 1 686 := ⟨by decide +kernel, rfl⟩
theorem cLaw_686 : Dc yLaw 686 (.iaload) 1 687 := ⟨by decide +kernel, rfl⟩
theorem cLaw_687 : Dc yLaw 687 (.aload_n 0) 1 688 := ⟨by decide +kernel, rfl⟩
theorem cLaw_688 : Dc yLaw 688 (.iload_n 3) 1 689 := ⟨by decide +kernel, rfl⟩
theorem cLaw_689 : Dc yLaw 689 (.iconst 3) 1 690 := ⟨by decide +kernel, rfl⟩
theorem cLaw_690 : Dc yLaw 690 (.iadd) 1 691 := ⟨by decide +kernel, rfl⟩
theorem cLaw_691 : Dc yLaw 691 (.iaload) 1 692 := ⟨by decide +kernel, rfl⟩
theorem cLaw_692 : Dc yLaw 692 (.invokevirtual 97) 3 695 := ⟨by decide +kernel, rfl⟩
theorem cLaw_695 : Db yLaw 695 (.if_icmp .eq 319) 3 698 (319) 1014 := ⟨by decide +kernel, rfl, by decide⟩
theorem cLaw_698 : Dc yLaw 698 (.iconst 0) 1 699 := ⟨by decide +kernel, rfl⟩
theorem cLaw_699 : Dc yLaw 699 (.ireturn) 1 700 := ⟨by decide +kernel, rfl⟩
theorem cLaw_700 : Dc yLaw 700 (.aload_n 1) 1 701 := ⟨by decide +kernel, rfl⟩
theorem cLaw_701 : Dc yLaw 701 (.aload_n 0) 1 702 := ⟨by decide +kernel, rfl⟩
theorem cLaw_702 : Dc yLaw 702 (.iload_n 3) 1 703 := ⟨by decide +kernel, rfl⟩
theorem cLaw_703 : Dc yLaw 703 (.iconst 1) 1 704 := ⟨by decide +kernel, rfl⟩
theorem cLaw_704 : Dc yLaw 704 (.iadd) 1 705 := ⟨by decide +kernel, rfl⟩
theorem cLaw_705 : Dc yLaw 705 (.iaload) 1 706 := ⟨by decide +kernel, rfl⟩
theorem cLaw_706 : Dc yLaw 706 (.aload_n 0) 1 707 := ⟨by decide +kernel, rfl⟩
theorem cLaw_707 : Dc yLaw 707 (.iload_n 3) 1 708 := ⟨by decide +kernel, rfl⟩
theorem cLaw_708 : Dc yLaw 708 (.iconst 2) 1 709 := ⟨by decide +kernel, rfl⟩
theorem cLaw_709 : Dc yLaw 709 (.iadd) 1 710 := ⟨by decide +kernel, rfl⟩
theorem cLaw_710 : Dc yLaw 710 (.iaload) 1 711 := ⟨by decide +kernel, rfl⟩
theorem cLaw_711 : Dc yLaw 711 (.invokevirtual 98) 3 714 := ⟨by decide +kernel, rfl⟩
theorem cLaw_714 : Dc yLaw 714 (.aload_n 2) 1 715 := ⟨by decide +kernel, rfl⟩
theorem cLaw_715 : Dc yLaw 715 (.aload_n 0) 1 716 := ⟨by decide +kernel, rfl⟩
theorem cLaw_716 : Dc yLaw 716 (.iload_n 3) 1 717 := ⟨by decide +kernel, rfl⟩
theorem cLaw_717 : Dc yLaw 717 (.iconst 1) 1 718 := ⟨by decide +kernel, rfl⟩
theorem cLaw_718 : Dc yLaw 718 (.iadd) 1 719 := ⟨by decide +kernel, rfl⟩
theorem cLaw_719 : Dc yLaw 719 (.iaload) 1 720 := ⟨by decide +kernel, rfl⟩
theorem cLaw_720 : Dc yLaw 720 (.aload_n 0) 1 721 := ⟨by decide +kernel, rfl⟩
theorem cLaw_721 : Dc yLaw 721 (.iload_n 3) 1 722 := ⟨by decide +kernel, rfl⟩
theorem cLaw_722 : Dc yLaw 722 (.iconst 2) 1 723 := ⟨by decide +kernel, rfl⟩
theorem cLaw_723 : Dc yLaw 723 (.iadd) 1 724 := ⟨by decide +kernel, rfl⟩
theorem cLaw_724 : Dc yLaw 724 (.iaload) 1 725 := ⟨by decide +kernel, rfl⟩
theorem cLaw_725 : Dc yLaw 725 (.invokevirtual 101) 3 728 := ⟨by decide +kernel, rfl⟩
theorem cLaw_728 : Db yLaw 728 (.if_icmp .eq 286) 3 731 (286) 1014 := ⟨by decide +kernel, rfl, by decide⟩
theorem cLaw_731 : Dc yLaw 731 (.iconst 0) 1 732 := ⟨by decide +kernel, rfl⟩
theorem cLaw_732 : Dc yLaw 732 (.ireturn) 1 733 := ⟨by decide +kernel, rfl⟩
theorem cLaw_733 : Dc yLaw 733 (.aload_n 1) 1 734 := ⟨by decide +kernel, rfl⟩
theorem cLaw_734 : Dc yLaw 734 (.invokevirtual 102) 3 737 := ⟨by decide +kernel, rfl⟩
theorem cLaw_737 : Dc yLaw 737 (.aload_n 2) 1 738 := ⟨by decide +kernel, rfl⟩
theorem cLaw_738 : Dc yLaw 738 (.invokevirtual 105) 3 741 := ⟨by decide +kernel, rfl⟩
theorem cLaw_741 : Db yLaw 741 (.if_icmp .eq 273) 3 744 (273) 1014 := ⟨by decide +kernel, rfl, by decide⟩
theorem cLaw_744 : Dc yLaw 744 (.iconst 0) 1 745 := ⟨by decide +kernel, rfl⟩
theorem cLaw_745 : Dc yLaw 745 (.ireturn) 1 746 := ⟨by decide +kernel, rfl⟩
theorem cLaw_746 : Dc yLaw 746 (.aload_n 1) 1 747 := ⟨by decide +kernel, rfl⟩
theorem cLaw_747 : Dc yLaw 747 (.aload_n 0) 1 748 := ⟨by decide +kernel, rfl⟩
theorem cLaw_748 : Dc yLaw 748 (.iload_n 3) 1 749 := ⟨by decide +kernel, rfl⟩
theorem cLaw_749 : Dc yLaw 749 (.iconst 1) 1 750 := ⟨by decide +kernel, rfl⟩
theorem cLaw_750 : Dc yLaw 750 (.iadd) 1 751 := ⟨by decide +kernel, rfl⟩
theorem cLaw_751 : Dc yLaw 751 (.iaload) 1 752 := ⟨by decide +kernel, rfl⟩
theorem cLaw_752 : Dc yLaw 752 (.invokevirtual 106) 3 755 := ⟨by decide +kernel, rfl⟩
theorem cLaw_755 : Dc yLaw 755 (.aload_n 2) 1 756 := ⟨by decide +kernel, rfl⟩
theorem cLaw_756 : Dc yLaw 756 (.aload_n 0) 1 757 := ⟨by decide +kernel, rfl⟩
theorem cLaw_757 : Dc yLaw 757 (.iload_n 3) 1 758 := ⟨by decide +kernel, rfl⟩
theorem cLaw_758 : Dc yLaw 758 (.iconst 1) 1 759 := ⟨by decide +kernel, rfl⟩
theorem cLaw_759 : Dc yLaw 759 (.iadd) 1 760 := ⟨by decide +kernel, rfl⟩
theorem cLaw_760 : Dc yLaw 760 (.iaload) 1 761 := ⟨by decide +kernel, rfl⟩
theorem cLaw_761 : Dc yLaw 761 (.invokevirtual 109) 3 764 := ⟨by decide +kernel, rfl⟩
theorem cLaw_764 : Db yLaw 764 (.if_icmp .eq 250) 3 767 (250) 1014 := ⟨by decide +kernel, rfl, by decide⟩
theorem cLaw_767 : Dc yLaw 767 (.iconst 0) 1 768 := ⟨by decide +kernel, rfl⟩
theorem cLaw_768 : Dc yLaw 768 (.ireturn) 1 769 := ⟨by decide +kernel, rfl⟩
theorem cLaw_769 : Dc yLaw 769 (.aload_n 1) 1 770 := ⟨by decide +kernel, rfl⟩
theorem cLaw_770 : Dc yLaw 770 (.aload_n 0) 1 771 := ⟨by decide +kernel, rfl⟩
theorem cLaw_771 : Dc yLaw 771 (.iload_n 3) 1 772 := ⟨by decide +kernel, rfl⟩
theorem cLaw_772 : Dc yLaw 772 (.iconst 1) 1 773 := ⟨by decide +kernel, rfl⟩
theorem cLaw_773 : Dc yLaw 773 (.iadd) 1 774 := ⟨by decide +kernel, rfl⟩
theorem cLaw_774 : Dc yLaw 774 (.iaload) 1 775 := ⟨by decide +kernel, rfl⟩
theorem cLaw_775 : Dc yLaw 775 (.aload_n 0) 1 776 := ⟨by decide +kernel, rfl⟩
theorem cLaw_776 : Dc yLaw 776 (.iload_n 3) 1 777 := ⟨by decide +kernel, rfl⟩
theorem cLaw_777 : Dc yLaw 777 (.iconst 2) 1 778 := ⟨by decide +kernel, rfl⟩
theorem cLaw_778 : Dc yLaw 778 (.iadd) 1 779 := ⟨by decide +kernel, rfl⟩
theorem cLaw_779 : Dc yLaw 779 (.iaload) 1 780 := ⟨by decide +kernel, rfl⟩
theorem cLaw_780 : Dc yLaw 780 (.aload_n 0) 1 781 := ⟨by decide +kernel, rfl⟩
theorem cLaw_781 : Dc yLaw 781 (.iload_n 3) 1 782 := ⟨by decide +kernel, rfl⟩
theorem cLaw_782 : Dc yLaw 782 (.iconst 3) 1 783 := ⟨by decide +kernel, rfl⟩
theorem cLaw_783 : Dc yLaw 783 (.iadd) 1 784 := ⟨by decide +kernel, rfl⟩
theorem cLaw_784 : Dc yLaw 784 (.iaload) 1 785 := ⟨by decide +kernel, rfl⟩
theorem cLaw_785 : Dc yLaw 785 (.aload_n 0) 1 786 := ⟨by decide +kernel, rfl⟩
theorem cLaw_786 : Dc yLaw 786 (.iload_n 3) 1 787 := ⟨by decide +kernel, rfl⟩
theorem cLaw_787 : Dc yLaw 787 (.iconst 4) 1 788 := ⟨by decide +kernel, rfl⟩
theorem cLaw_788 : Dc yLaw 788 (.iadd) 1 789 := ⟨by decide +kernel, rfl⟩
theorem cLaw_789 : Dc yLaw 789 (.iaload) 1 790 := ⟨by decide +kernel, rfl⟩
theorem cLaw_790 : Dc yLaw 790 (.aload_n 0) 1 791 := ⟨by decide +kernel, rfl⟩
theorem cLaw_791 : Dc yLaw 791 (.iload_n 3) 1 792 := ⟨by decide +kernel, rfl⟩
theorem cLaw_792 : Dc yLaw 792 (.iconst 5) 1 793 := ⟨by decide +kernel, rfl⟩
theorem cLaw_793 : Dc yLaw 793 (.iadd) 1 794 := ⟨by decide +kernel, rfl⟩
theorem cLaw_794 : Dc yLaw 794 (.iaload) 1 795 := ⟨by decide +kernel, rfl⟩
theorem cLaw_795 : Dc yLaw 795 (.invokevirtual 110) 3 798 := ⟨by decide +kernel, rfl⟩
theorem cLaw_798 : Dc yLaw 798 (.aload_n 2) 1 799 := ⟨by decide +kernel, rfl⟩
theorem cLaw_799 : Dc yLaw 799 (.aload_n 0) 1 800 := ⟨by decide +kernel, rfl⟩
theorem cLaw_800 : Dc yLaw 800 (.iload_n 3) 1 801 := ⟨by decide +kernel, rfl⟩
theorem cLaw_801 : Dc yLaw 801 (.iconst 1) 1 802 := ⟨by decide +kernel, rfl⟩
theorem cLaw_802 : Dc yLaw 802 (.iadd) 1 803 := ⟨by decide +kernel, rfl⟩
theorem cLaw_803 : Dc yLaw 803 (.iaload) 1 804 := ⟨by decide +kernel, rfl⟩
theorem cLaw_804 : Dc yLaw 804 (.aload_n 0) 1 805 := ⟨by decide +kernel, rfl⟩
theorem cLaw_805 : Dc yLaw 805 (.iload_n 3) 1 806 := ⟨by decide +kernel, rfl⟩
theorem cLaw_806 : Dc yLaw 806 (.iconst 2) 1 807 := ⟨by decide +kernel, rfl⟩
theorem cLaw_807 : Dc yLaw 807 (.iadd) 1 808 := ⟨by decide +kernel, rfl⟩
theorem cLaw_808 : Dc yLaw 808 (.iaload) 1 809 := ⟨by decide +kernel, rfl⟩
theorem cLaw_809 : Dc yLaw 809 (.aload_n 0) 1 810 := ⟨by decide +kernel, rfl⟩
theorem cLaw_810 : Dc yLaw 810 (.iload_n 3) 1 811 := ⟨by decide +kernel, rfl⟩
theorem cLaw_811 : Dc yLaw 811 (.iconst 3) 1 812 := ⟨by decide +kernel, rfl⟩
theorem cLaw_812 : Dc yLaw 812 (.iadd) 1 813 := ⟨by decide +kernel, rfl⟩
theorem cLaw_813 : Dc yLaw 813 (.iaload) 1 814 := ⟨by decide +kernel, rfl⟩
theorem cLaw_814 : Dc yLaw 814 (.aload_n 0) 1 815 := ⟨by decide +kernel, rfl⟩
theorem cLaw_815 : Dc yLaw 815 (.iload_n 3) 1 816 := ⟨by decide +kernel, rfl⟩
theorem cLaw_816 : Dc yLaw 816 (.iconst 4) 1 817 := ⟨by decide +kernel, rfl⟩
theorem cLaw_817 : Dc yLaw 817 (.iadd) 1 818 := ⟨by decide +kernel, rfl⟩
theorem cLaw_818 : Dc yLaw 818 (.iaload) 1 819 := ⟨by decide +kernel, rfl⟩
theorem cLaw_819 : Dc yLaw 819 (.aload_n 0) 1 820 := ⟨by decide +kernel, rfl⟩
theorem cLaw_820 : Dc yLaw 820 (.iload_n 3) 1 821 := ⟨by decide +kernel, rfl⟩
theorem cLaw_821 : Dc yLaw 821 (.iconst 5) 1 822 := ⟨by decide +kernel, rfl⟩
theorem cLaw_822 : Dc yLaw 822 (.iadd) 1 823 := ⟨by decide +kernel, rfl⟩
theorem cLaw_823 : Dc yLaw 823 (.iaload) 1 824 := ⟨by decide +kernel, rfl⟩
theorem cLaw_824 : Dc yLaw 824 (.invokevirtual 114) 3 827 := ⟨by decide +kernel, rfl⟩
theorem cLaw_827 : Db yLaw 827 (.if_icmp .eq 187) 3 830 (187) 1014 := ⟨by decide +kernel, rfl, by decide⟩
theorem cLaw_830 : Dc yLaw 830 (.iconst 0) 1 831 := ⟨by decide +kernel, rfl⟩
theorem cLaw_831 : Dc yLaw 831 (.ireturn) 1 832 := ⟨by decide +kernel, rfl⟩
theorem cLaw_832 : Dc yLaw 832 (.aload_n 1) 1 833 := ⟨by decide +kernel, rfl⟩
theorem cLaw_833 : Dc yLaw 833 (.aload_n 0) 1 834 := ⟨by decide +kernel, rfl⟩
theorem cLaw_834 : Dc yLaw 834 (.iload_n 3) 1 835 := ⟨by decide +kernel, rfl⟩
theorem cLaw_835 : Dc yLaw 835 (.iconst 1) 1 836 := ⟨by decide +kernel, rfl⟩
theorem cLaw_836 : Dc yLaw 836 (.iadd) 1 837 := ⟨by decide +kernel, rfl⟩
theorem cLaw_837 : Dc yLaw 837 (.iaload) 1 838 := ⟨by decide +kernel, rfl⟩
theorem cLaw_838 : Dc yLaw 838 (.aload_n 0) 1 839 := ⟨by decide +kernel, rfl⟩
theorem cLaw_839 : Dc yLaw 839 (.iload_n 3) 1 840 := ⟨by decide +kernel, rfl⟩
theorem cLaw_840 : Dc yLaw 840 (.iconst 2) 1 841 := ⟨by decide +kernel, rfl⟩
theorem cLaw_841 : Dc yLaw 841 (.iadd) 1 842 := ⟨by decide +kernel, rfl⟩
theorem cLaw_842 : Dc yLaw 842 (.iaload) 1 843 := ⟨by decide +kernel, rfl⟩
theorem cLaw_843 : Dc yLaw 843 (.aload_n 0) 1 844 := ⟨by decide +kernel, rfl⟩
theorem cLaw_844 : Dc yLaw 844 (.iload_n 3) 1 845 := ⟨by decide +kernel, rfl⟩
theorem cLaw_845 : Dc yLaw 845 (.iconst 3) 1 846 := ⟨by decide +kernel, rfl⟩
theorem cLaw_846 : Dc yLaw 846 (.iadd) 1 847 := ⟨by decide +kernel, rfl⟩
theorem cLaw_847 : Dc yLaw 847 (.iaload) 1 848 := ⟨by decide +kernel, rfl⟩
theorem cLaw_848 : Db yLaw 848 (.ifCond .eq 7) 3 851 (7) 855 := ⟨by decide +kernel, rfl, by decide⟩
theorem cLaw_851 : Dc yLaw 851 (.iconst 1) 1 852 := ⟨by decide +kernel, rfl⟩
theorem cLaw_852 : Db yLaw 852 (.goto 4) 3 855 (4) 856 := ⟨by decide +kernel, rfl, by decide⟩
theorem cLaw_855 : Dc yLaw 855 (.iconst 0) 1 856 := ⟨by decide +kernel, rfl⟩
theorem cLaw_856 : Dc yLaw 856 (.invokevirtual 115) 3 859 := ⟨by decide +kernel, rfl⟩
theorem cLaw_859 : Dc yLaw 859 (.aload_n 2) 1 860 := ⟨by decide +kernel, rfl⟩
theorem cLaw_860 : Dc yLaw 860 (.aload_n 0) 1 861 := ⟨by decide +kernel, rfl⟩
theorem cLaw_861 : Dc yLaw 861 (.iload_n 3) 1 862 := ⟨by decide +kernel, rfl⟩
theorem cLaw_862 : Dc yLaw 862 (.iconst 1) 1 863 := ⟨by decide +kernel, rfl⟩
theorem cLaw_863 : Dc yLaw 863 (.iadd) 1 864 := ⟨by decide +kernel, rfl⟩
theorem cLaw_864 : Dc yLaw 864 (.iaload) 1 865 := ⟨by decide +kernel, rfl⟩
theorem cLaw_865 : Dc yLaw 865 (.aload_n 0) 1 866 := ⟨by decide +kernel, rfl⟩
theorem cLaw_866 : Dc yLaw 866 (.iload_n 3) 1 867 := ⟨by decide +kernel, rfl⟩
theorem cLaw_867 : Dc yLaw 867 (.iconst 2) 1 868 := ⟨by decide +kernel, rfl⟩
theorem cLaw_868 : Dc yLaw 868 (.iadd) 1 869 := ⟨by decide +kernel, rfl⟩
theorem cLaw_869 : Dc yLaw 869 (.iaload) 1 870 := ⟨by decide +kernel, rfl⟩
theorem cLaw_870 : Dc yLaw 870 (.aload_n 0) 1 871 := ⟨by decide +kernel, rfl⟩
theorem cLaw_871 : Dc yLaw 871 (.iload_n 3) 1 872 := ⟨by decide +kernel, rfl⟩
theorem cLaw_872 : Dc yLaw 872 (.iconst 3) 1 873 := ⟨by decide +kernel, rfl⟩
theorem cLaw_873 : Dc yLaw 873 (.iadd) 1 874 := ⟨by decide +kernel, rfl⟩
theorem cLaw_874 : Dc yLaw 874 (.iaload) 1 875 := ⟨by decide +kernel, rfl⟩
theorem cLaw_875 : Db yLaw 875 (.ifCond .eq 7) 3 878 (7) 882 := ⟨by decide +kernel, rfl, by decide⟩
theorem cLaw_878 : Dc yLaw 878 (.iconst 1) 1 879 := ⟨by decide +kernel, rfl⟩
theorem cLaw_879 : Db yLaw 879 (.goto 4) 3 882 (4) 883 := ⟨by decide +kernel, rfl, by decide⟩
theorem cLaw_882 : Dc yLaw 882 (.iconst 0) 1 883 := ⟨by decide +kernel, rfl⟩
theorem cLaw_883 : Dc yLaw 883 (.invokevirtual 119) 3 886 := ⟨by decide +kernel, rfl⟩
theorem cLaw_886 : Db yLaw 886 (.if_icmp .eq 128) 3 889 (128) 1014 := ⟨by decide +kernel, rfl, by decide⟩
theorem cLaw_889 : Dc yLaw 889 (.iconst 0) 1 890 := ⟨by decide +kernel, rfl⟩
theorem cLaw_890 : Dc yLaw 890 (.ireturn) 1 891 := ⟨by decide +kernel, rfl⟩
theorem cLaw_891 : Dc yLaw 891 (.aload_n 1) 1 892 := ⟨by decide +kernel, rfl⟩
theorem cLaw_892 : Dc yLaw 892 (.aload_n 0) 1 893 := ⟨by decide +kernel, rfl⟩
theorem cLaw_893 : Dc yLaw 893 (.iload_n 3) 1 894 := ⟨by decide +kernel, rfl⟩
theorem cLaw_894 : Dc yLaw 894 (.iconst 1) 1 895 := ⟨by decide +kernel, rfl⟩
theorem cLaw_895 : Dc yLaw 895 (.iadd) 1 896 := ⟨by decide +kernel, rfl⟩
theorem cLaw_896 : Dc yLaw 896 (.iaload) 1 897 := ⟨by decide +kernel, rfl⟩
theorem cLaw_897 : Dc yLaw 897 (.i2l) 1 898 := ⟨by decide +kernel, rfl⟩
theorem cLaw_898 : Dc yLaw 898 (.bipush 32) 2 900 := ⟨by decide +kernel, rfl⟩
theorem cLaw_900 : Dc yLaw 900 (.lshl) 1 901 := ⟨by decide +kernel, rfl⟩
theorem cLaw_901 : Dc yLaw 901 (.aload_n 0) 1 902 := ⟨by decide +kernel, rfl⟩
theorem cLaw_902 : Dc yLaw 902 (.iload_n 3) 1 903 := ⟨by decide +kernel, rfl⟩
theorem cLaw_903 : Dc yLaw 903 (.iconst 2) 1 904 := ⟨by decide +kernel, rfl⟩
theorem cLaw_904 : Dc yLaw 904 (.iadd) 1 905 := ⟨by decide +kernel, rfl⟩
theorem cLaw_905 : Dc yLaw 905 (.iaload) 1 906 := ⟨by decide +kernel, rfl⟩
theorem cLaw_906 : Dc yLaw 906 (.i2l) 1 907 := ⟨by decide +kernel, rfl⟩
theorem cLaw_907 : Dc yLaw 907 (.ldc2_w 120) 3 910 := ⟨by decide +kernel, rfl⟩
theorem cLaw_910 : Dc yLaw 910 (.land) 1 911 := ⟨by decide +kernel, rfl⟩
theorem cLaw_911 : Dc yLaw 911 (.lor) 1 912 := ⟨by decide +kernel, rfl⟩
theorem cLaw_912 : Dc yLaw 912 (.invokevirtual 122) 3 915 := ⟨by decide +kernel, rfl⟩
theorem cLaw_915 : Dc yLaw 915 (.aload_n 2) 1 916 := ⟨by decide +kernel, rfl⟩
theorem cLaw_916 : Dc yLaw 916 (.aload_n 0) 1 917 := ⟨by decide +kernel, rfl⟩
theorem cLaw_917 : Dc yLaw 917 (.iload_n 3) 1 918 := ⟨by decide +kernel, rfl⟩
theorem cLaw_918 : Dc yLaw 918 (.iconst 1) 1 919 := ⟨by decide +kernel, rfl⟩
theorem cLaw_919 : Dc yLaw 919 (.iadd) 1 920 := ⟨by decide +kernel, rfl⟩
theorem cLaw_920 : Dc yLaw 920 (.iaload) 1 921 := ⟨by decide +kernel, rfl⟩
theorem cLaw_921 : Dc yLaw 921 (.i2l) 1 922 := ⟨by decide +kernel, rfl⟩
theorem cLaw_922 : Dc yLaw 922 (.bipush 32) 2 924 := ⟨by decide +kernel, rfl⟩
theorem cLaw_924 : Dc yLaw 924 (.lshl) 1 925 := ⟨by decide +kernel, rfl⟩
theorem cLaw_925 : Dc yLaw 925 (.aload_n 0) 1 926 := ⟨by decide +kernel, rfl⟩
theorem cLaw_926 : Dc yLaw 926 (.iload_n 3) 1 927 := ⟨by decide +kernel, rfl⟩
theorem cLaw_927 : Dc yLaw 927 (.iconst 2) 1 928 := ⟨by decide +kernel, rfl⟩
theorem cLaw_928 : Dc yLaw 928 (.iadd) 1 929 := ⟨by decide +kernel, rfl⟩
theorem cLaw_929 : Dc yLaw 929 (.iaload) 1 930 := ⟨by decide +kernel, rfl⟩
theorem cLaw_930 : Dc yLaw 930 (.i2l) 1 931 := ⟨by decide +kernel, rfl⟩
theorem cLaw_931 : Dc yLaw 931 (.ldc2_w 120) 3 934 := ⟨by decide +kernel, rfl⟩
theorem cLaw_934 : Dc yLaw 934 (.land) 1 935 := ⟨by decide +kernel, rfl⟩
theorem cLaw_935 : Dc yLaw 935 (.lor) 1 936 := ⟨by decide +kernel, rfl⟩
theorem cLaw_936 : Dc yLaw 936 (.invokevirtual 126) 3 939 := ⟨by decide +kernel, rfl⟩
theorem cLaw_939 : Dc yLaw 939 (.lcmp) 1 940 := ⟨by decide +kernel, rfl⟩
theorem cLaw_940 : Db yLaw 940 (.ifCond .eq 74) 3 943 (74) 1014 := ⟨by decide +kernel, rfl, by decide⟩
theorem cLaw_943 : Dc yLaw 943 (.iconst 0) 1 944 := ⟨by decide +kernel, rfl⟩
theorem cLaw_944 : Dc yLaw 944 (.ireturn) 1 945 := ⟨by decide +kernel, rfl⟩
theorem cLaw_945 : Dc yLaw 945 (.aload_n 1) 1 946 := ⟨by decide +kernel, rfl⟩
theorem cLaw_946 : Dc yLaw 946 (.aload_n 0) 1 947 := ⟨by decide +kernel, rfl⟩
theorem cLaw_947 : Dc yLaw 947 (.iload_n 3) 1 948 := ⟨by decide +kernel, rfl⟩
theorem cLaw_948 : Dc yLaw 948 (.iconst 1) 1 949 := ⟨by decide +kernel, rfl⟩
theorem cLaw_949 : Dc yLaw 949 (.iadd) 1 950 := ⟨by decide +kernel, rfl⟩
theorem cLaw_950 : Dc yLaw 950 (.iaload) 1 951 := ⟨by decide +kernel, rfl⟩
theorem cLaw_951 : Dc yLaw 951 (.invokevirtual 127) 3 954 := ⟨by decide +kernel, rfl⟩
theorem cLaw_954 : Dc yLaw 954 (.aload_n 2) 1 955 := ⟨by decide +kernel, rfl⟩
theorem cLaw_955 : Dc yLaw 955 (.aload_n 0) 1 956 := ⟨by decide +kernel, rfl⟩
theorem cLaw_956 : Dc yLaw 956 (.iload_n 3) 1 957 := ⟨by decide +kernel, rfl⟩
theorem cLaw_957 : Dc yLaw 957 (.iconst 1) 1 958 := ⟨by decide +kernel, rfl⟩
theorem cLaw_958 : Dc yLaw 958 (.iadd) 1 959 := ⟨by decide +kernel, rfl⟩
theorem cLaw_959 : Dc yLaw 959 (.iaload) 1 960 := ⟨by decide +kernel, rfl⟩
theorem cLaw_960 : Dc yLaw 960 (.invokevirtual 130) 3 963 := ⟨by decide +kernel, rfl⟩
theorem cLaw_963 : Db yLaw 963 (.if_icmp .eq 51) 3 966 (51) 1014 := ⟨by decide +kernel, rfl, by decide⟩
theorem cLaw_966 : Dc yLaw 966 (.iconst 0) 1 967 := ⟨by decide +kernel, rfl⟩
theorem cLaw_967 : Dc yLaw 967 (.ireturn) 1 968 := ⟨by decide +kernel, rfl⟩
theorem cLaw_968 : Dc yLaw 968 (.aload_n 1) 1 969 := ⟨by decide +kernel, rfl⟩
theorem cLaw_969 : Dc yLaw 969 (.aload_n 0) 1 970 := ⟨by decide +kernel, rfl⟩
theorem cLaw_970 : Dc yLaw 970 (.iload_n 3) 1 971 := ⟨by decide +kernel, rfl⟩
theorem cLaw_971 : Dc yLaw 971 (.iconst 1) 1 972 := ⟨by decide +kernel, rfl⟩
theorem cLaw_972 : Dc yLaw 972 (.iadd) 1 973 := ⟨by decide +kernel, rfl⟩
theorem cLaw_973 : Dc yLaw 973 (.iaload) 1 974 := ⟨by decide +kernel, rfl⟩
theorem cLaw_974 : Dc yLaw 974 (.invokevirtual 131) 3 977 := ⟨by decide +kernel, rfl⟩
theorem cLaw_977 : Dc yLaw 977 (.aload_n 2) 1 978 := ⟨by decide +kernel, rfl⟩
theorem cLaw_978 : Dc yLaw 978 (.aload_n 0) 1 979 := ⟨by decide +kernel, rfl⟩
theorem cLaw_979 : Dc yLaw 979 (.iload_n 3) 1 980 := ⟨by decide +kernel, rfl⟩
theorem cLaw_980 : Dc yLaw 980 (.iconst 1) 1 981 := ⟨by decide +kernel, rfl⟩
theorem cLaw_981 : Dc yLaw 981 (.iadd) 1 982 := ⟨by decide +kernel, rfl⟩
theorem cLaw_982 : Dc yLaw 982 (.iaload) 1 983 := ⟨by decide +kernel, rfl⟩
theorem cLaw_983 : Dc yLaw 983 (.invokevirtual 134) 3 986 := ⟨by decide +kernel, rfl⟩
theorem cLaw_986 : Db yLaw 986 (.if_icmp .eq 28) 3 989 (28) 1014 := ⟨by decide +kernel, rfl, by decide⟩
theorem cLaw_989 : Dc yLaw 989 (.iconst 0) 1 990 := ⟨by decide +kernel, rfl⟩
theorem cLaw_990 : Dc yLaw 990 (.ireturn) 1 991 := ⟨by decide +kernel, rfl⟩
theorem cLaw_991 : Dc yLaw 991 (.aload_n 1) 1 992 := ⟨by decide +kernel, rfl⟩
theorem cLaw_992 : Dc yLaw 992 (.aload_n 0) 1 993 := ⟨by decide +kernel, rfl⟩
theorem cLaw_993 : Dc yLaw 993 (.iload_n 3) 1 994 := ⟨by decide +kernel, rfl⟩
theorem cLaw_994 : Dc yLaw 994 (.iconst 1) 1 995 := ⟨by decide +kernel, rfl⟩
theorem cLaw_995 : Dc yLaw 995 (.iadd) 1 996 := ⟨by decide +kernel, rfl⟩
theorem cLaw_996 : Dc yLaw 996 (.iaload) 1 997 := ⟨by decide +kernel, rfl⟩
theorem cLaw_997 : Dc yLaw 997 (.invokevirtual 135) 3 1000 := ⟨by decide +kernel, rfl⟩
theorem cLaw_1000 : Dc yLaw 1000 (.aload_n 2) 1 1001 := ⟨by decide +kernel, rfl⟩
theorem cLaw_1001 : Dc yLaw 1001 (.aload_n 0) 1 1002 := ⟨by decide +kernel, rfl⟩
theorem cLaw_1002 : Dc yLaw 1002 (.iload_n 3) 1 1003 := ⟨by decide +kernel, rfl⟩
theorem cLaw_1003 : Dc yLaw 1003 (.iconst 1) 1 1004 := ⟨by decide +kernel, rfl⟩
theorem cLaw_1004 : Dc yLaw 1004 (.iadd) 1 1005 := ⟨by decide +kernel, rfl⟩
theorem cLaw_1005 : Dc yLaw 1005 (.iaload) 1 1006 := ⟨by decide +kernel, rfl⟩
theorem cLaw_1006 : Dc yLaw 1006 (.invokevirtual 138) 3 1009 := ⟨by decide +kernel, rfl⟩
theorem cLaw_1009 : Db yLaw 1009 (.if_icmp .eq 5) 3 1012 (5) 1014 := ⟨by decide +kernel, rfl, by decide⟩
theorem cLaw_1012 : Dc yLaw 1012 (.iconst 0) 1 1013 := ⟨by decide +kernel, rfl⟩
theorem cLaw_1013 : Dc yLaw 1013 (.ireturn) 1 1014 := ⟨by decide +kernel, rfl⟩
theorem cLaw_1014 : Dc yLaw 1014 (.iinc 3 6) 3 1017 := ⟨by decide +kernel, rfl⟩
theorem cLaw_1017 : Db yLaw 1017 (.goto (-999)) 3 1020 (-999) 18 := ⟨by decide +kernel, rfl, by decide⟩
theorem cLaw_1020 : Dc yLaw 1020 (.iconst 1) 1 1021 := ⟨by decide +kernel, rfl⟩
theorem cLaw_1021 : Dc yLaw 1021 (.ireturn) 1 1022 := ⟨by decide +kernel, rfl⟩
end
section
def shl : List (Nat × Nat) := [(9, 0), (0, 8), (0, 6), (1, 32), (0, 2), (1, 5), (1, 5), (1, 5), (0, 3), (3, 14), (0, 2), (1, 5), (1, 5), (1, 5), (0, 2), (1, 5), (1, 5), (1, 5), (0, 2), (1, 5), (1, 5), (1, 5), (0, 2), (1, 5), (1, 5), (1, 5), (0, 2), (1, 5), (1, 5), (1, 5), (0, 2), (1, 5), (1, 5), (1, 5), (0, 2), (1, 5), (1, 5), (1, 5), (0, 2), (1, 5), (1, 5), (1, 5), (0, 2), (1, 5), (1, 5), (1, 5), (0, 2), (1, 5), (1, 5), (1, 5), (0, 2), (1, 5), (1, 5), (1, 5), (0, 2), (1, 5), (1, 5), (1, 5), (0, 2), (1, 5), (1, 5), (1, 5), (0, 2), (1, 5), (1, 5), (1, 5), (3, 2), (0, 2), (1, 5), (1, 5), (1, 5), (0, 2), (1, 5), (1, 5), (1, 5), (2, 2), (0, 4), (1, 6), (1, 6), (0, 2), (1, 5), (1, 5), (1, 5), (0, 1), (1, 5), (1, 5), (0, 7), (1, 5), (0, 0), (0, 5), (0, 9), (1, 32), (1, 5), (1, 5), (1, 5), (1, 5), (1, 13), (1, 13), (1, 182), (1, 26), (2, 2), (1, 6), (1, 6), (1, 5), (1, 5), (1, 5), (1, 5), (1, 32)]
/-- the shape of a cell: an object of a class, a row of ints, of booleans, of lines -/
def shp (a : Nat) : Nat × Nat := shl.getD a (9, 0)
/-- the kinds of a class's fields: int, long, reference -/
def fk (c : Nat) : List Nat := match c with
  | 0 => [0, 0]
  | 1 => [2, 2, 0, 0]
  | 2 => [0, 0, 0, 0, 0, 2, 2, 2]
  | 3 => [2, 0]
  | 4 => [2, 2, 0]
  | 5 => [0, 0]
  | 6 => [2, 0]
  | 7 => [2, 0, 0]
  | 8 => [2, 2, 2, 2, 2, 2, 1, 2, 2, 2, 2, 2]
  | _ => [0, 2, 0, 0, 0, 0, 2, 0, 0, 0, 0, 0, 2, 2, 2, 2, 2, 2, 0, 2, 2, 0, 2, 2, 1, 2, 2, 2, 2, 0, 0, 0, 0, 0, 0, 0, 0, 2]
def rfl_ : List (List Nat) := [[], [2, 4, 8, 66, 75, 76, 0, 79, 83, 86, 88, 89], [3], [], [0, 0, 0, 0, 0, 5, 6, 7], [], [], [], [9], [], [0, 0, 0, 0, 0, 11, 12, 13], [], [], [], [0, 0, 0, 0, 0, 15, 16, 17], [], [], [], [0, 0, 0, 0, 0, 19, 20, 21], [], [], [], [0, 0, 0, 0, 0, 23, 24, 25], [], [], [], [0, 0, 0, 0, 0, 27, 28, 29], [], [], [], [0, 0, 0, 0, 0, 31, 32, 33], [], [], [], [0, 0, 0, 0, 0, 35, 36, 37], [], [], [], [0, 0, 0, 0, 0, 39, 40, 41], [], [], [], [0, 0, 0, 0, 0, 43, 44, 45], [], [], [], [0, 0, 0, 0, 0, 47, 48, 49], [], [], [], [0, 0, 0, 0, 0, 51, 52, 53], [], [], [], [0, 0, 0, 0, 0, 55, 56, 57], [], [], [], [0, 0, 0, 0, 0, 59, 60, 61], [], [], [], [0, 0, 0, 0, 0, 63, 64, 65], [], [], [], [], [0, 0, 0, 0, 0, 68, 69, 70], [], [], [], [0, 0, 0, 0, 0, 72, 73, 74], [], [], [], [], [77, 78], [], [], [0, 0, 0, 0, 0, 80, 81, 82], [], [], [], [84, 85], [], [], [87], [], [], [], [0, 91, 0, 0, 0, 0, 92, 0, 0, 0, 0, 0, 93, 94, 95, 96, 97, 98, 0, 99, 100, 0, 101, 102, 0, 103, 104, 105, 106, 0, 0, 0, 0, 0, 0, 0, 0, 107], [], [], [], [], [], [], [], [], [], [], [], [], [], [], [], [], []]
/-- the references that stay -/
def rfs (a j : Nat) : Nat := (rfl_.getD a []).getD j 0
theorem shp_in {a t x : Nat} (h : shp a = (t, x)) (ht : t < 9) : 1 ≤ a ∧ a ≤ 107 := by
  unfold shp at h
  rw [List.getD_eq_getElem?_getD] at h
  by_cases hl : a < 108
  · refine ⟨?_, by omega⟩
    rcases Nat.eq_zero_or_pos a with rfl | q
    · exact absurd (congrArg Prod.fst h) (by show ¬ (9 = t); omega)
    · exact q
  · rw [List.getElem?_eq_none (by show shl.length ≤ a; exact Nat.le_of_not_lt hl)] at h
    exact absurd (congrArg Prod.fst h) (by show ¬ (9 = t); omega)
abbrev IT : Type := Nat → Nat → Int32
abbrev JT : Type := Nat → Int64
abbrev PT : Type := Nat → Nat → Nat
def mkf (I : IT) (J : JT) (a : Nat) : Nat → List Nat → List Value
  | _, [] => []
  | j, t :: r => (if t = 0 then .int (I a j) else if t = 1 then .long (J a) else .ref (rfs a j)) :: mkf I J a (j + 1) r
def mkc (I : IT) (J : JT) (P : PT) (a : Nat) : MC :=
  if (shp a).1 = 0 then .inr ((shp a).2, mkf I J a 0 (fk (shp a).2))
  else if (shp a).1 = 1 then .inl (0, ((shp a).2, .inl (I a)))
  else if (shp a).1 = 2 then .inl (1, ((shp a).2, .inl (I a)))
  else .inl (2, ((shp a).2, .inr (.inr (.inr (.inr (fun j => some (P a j)))))))
def hp (I : IT) (J : JT) (P : PT) : HS := (107, mkc I J P)
def u2 (I : IT) (a j : Nat) (v : Int32) : IT := fun x => if x = a then upd (I a) j v else I x
def uJ (J : JT) (a : Nat) (v : Int64) : JT := fun x => if x = a then v else J x
def uP (P : PT) (a j v : Nat) : PT := fun x => if x = a then (fun z => if z = j then v else P a z) else P x
theorem u2_s (I : IT) (a j : Nat) (v : Int32) : u2 I a j v a = upd (I a) j v := by simp [u2]
theorem u2_n {I : IT} {a j b : Nat} {v : Int32} (h : b ≠ a) : u2 I a j v b = I b := by simp [u2, h]
theorem u2_g (I : IT) (a j : Nat) (v : Int32) (b i : Nat) : u2 I a j v b i = if b = a ∧ i = j then v else I b i := by
  by_cases h : b = a
  · subst h
    by_cases h2 : i = j <;> simp [u2, upd, h2]
  · simp [u2, h]
theorem u2_ss (I : IT) (a j : Nat) (v : Int32) : u2 I a j v a j = v := by simp [u2_g]
theorem u2_sn {I : IT} {a j i : Nat} {v : Int32} (h : i ≠ j) : u2 I a j v a i = I a i := by simp [u2_g, h]
theorem mkf_get {I : IT} {J : JT} {a : Nat} : ∀ (l : List Nat) (j0 j t : Nat), l[j]? = some t → (mkf I J a j0 l)[j]? = some (if t = 0 then .int (I a (j0 + j)) else if t = 1 then .long (J a) else .ref (rfs a (j0 + j))) := by
  intro l
  induction l with
  | nil => intro j0 j t h; simp at h
  | cons x r ih =>
    intro j0 j t h
    cases j with
    | zero =>
      simp only [List.getElem?_cons_zero, Option.some.injEq] at h
      subst h
      simp [mkf]
    | succ j =>
      simp only [List.getElem?_cons_succ] at h
      have := ih (j0 + 1) j t h
      rw [show j0 + 1 + j = j0 + (j + 1) by omega] at this
      simpa [mkf] using this
theorem mkf_len {I : IT} {J : JT} {a : Nat} : ∀ (l : List Nat) (j0 : Nat), (mkf I J a j0 l).length = l.length := by
  intro l
  induction l with
  | nil => intro j0; rfl
  | cons x r ih => intro j0; simp [mkf, ih]
theorem mkf_ext {I I' : IT} {J J' : JT} {a : Nat} : ∀ (l : List Nat) (j0 : Nat), (∀ j, l[j]? = some 0 → I a (j0 + j) = I' a (j0 + j)) → (∀ j : Nat, l[j]? = some 1 → J a = J' a) → mkf I J a j0 l = mkf I' J' a j0 l := by
  intro l
  induction l with
  | nil => intro j0 _ _; rfl
  | cons x r ih =>
    intro j0 h1 h2
    simp only [mkf]
    rw [ih (j0 + 1) (fun j hj => by rw [show j0 + 1 + j = j0 + (j + 1) by omega]; exact h1 (j + 1) (by simpa using hj)) (fun j hj => h2 (j + 1) (by simpa using hj))]
    congr 1
    by_cases q0 : x = 0
    · subst q0
      simp only [if_true]
      have := h1 0 rfl
      rw [Nat.add_zero] at this
      rw [this]
    · by_cases q1 : x = 1
      · subst q1
        simp only [if_true, if_neg q0]
        rw [h2 0 rfl]
      · simp only [if_neg q0, if_neg q1]
theorem mkf_set {I : IT} {J : JT} {a j : Nat} {v : Int32} : ∀ (l : List Nat) (j0 : Nat), l[j]? = some 0 → (mkf I J a j0 l).set j (.int v) = mkf (u2 I a (j0 + j) v) J a j0 l := by
  intro l j0 hj
  apply List.ext_getElem?
  intro i
  by_cases hij : j = i
  · subst hij
    have hl : j < (mkf I J a j0 l).length := by rw [mkf_len]; exact (List.getElem?_eq_some_iff.mp hj).1
    rw [List.getElem?_set_self hl, mkf_get l j0 j 0 hj, if_pos rfl, u2_ss]
  · rw [List.getElem?_set_ne hij]
    cases hi : l[i]? with
    | none =>
      have hz : l.length ≤ i := List.getElem?_eq_none_iff.mp hi
      rw [List.getElem?_eq_none (by rw [mkf_len]; exact hz), List.getElem?_eq_none (by rw [mkf_len]; exact hz)]
    | some t =>
      rw [mkf_get l j0 i t hi, mkf_get l j0 i t hi, u2_sn (by omega)]
theorem mkf_setJ {I : IT} {J : JT} {a j : Nat} {v : Int64} : ∀ (l : List Nat) (j0 : Nat), l[j]? = some 1 → (∀ i : Nat, l[i]? = some 1 → i = j) → (mkf I J a j0 l).set j (.long v) = mkf I (uJ J a v) a j0 l := by
  intro l j0 hj hu
  apply List.ext_getElem?
  intro i
  by_cases hij : j = i
  · subst hij
    have hl : j < (mkf I J a j0 l).length := by rw [mkf_len]; exact (List.getElem?_eq_some_iff.mp hj).1
    rw [List.getElem?_set_self hl, mkf_get l j0 j 1 hj]
    simp [uJ]
  · rw [List.getElem?_set_ne hij]
    cases hi : l[i]? with
    | none =>
      have hz : l.length ≤ i := List.getElem?_eq_none_iff.mp hi
      rw [List.getElem?_eq_none (by rw [mkf_len]; exact hz), List.getElem?_eq_none (by rw [mkf_len]; exact hz)]
    | some t =>
      rw [mkf_get l j0 i t hi, mkf_get l j0 i t hi]
      by_cases q0 : t = 0
      · simp [q0]
      · by_cases q1 : t = 1
        · subst q1; exact absurd (hu i hi).symm hij
        · simp [q0, q1]
theorem mkc_0 {I : IT} {J : JT} {P : PT} {a c : Nat} (h : shp a = (0, c)) : mkc I J P a = .inr (c, mkf I J a 0 (fk c)) := by simp [mkc, h]
theorem mkc_1 {I : IT} {J : JT} {P : PT} {a c : Nat} (h : shp a = (1, c)) : mkc I J P a = .inl (0, (c, .inl (I a))) := by simp [mkc, h]
theorem mkc_2 {I : IT} {J : JT} {P : PT} {a c : Nat} (h : shp a = (2, c)) : mkc I J P a = .inl (1, (c, .inl (I a))) := by simp [mkc, h]
theorem mkc_3 {I : IT} {J : JT} {P : PT} {a c : Nat} (h : shp a = (3, c)) : mkc I J P a = .inl (2, (c, .inr (.inr (.inr (.inr (fun j => some (P a j))))))) := by simp [mkc, h]
theorem mkc_ext {I I' : IT} {J J' : JT} {P P' : PT} {a : Nat} (h1 : I a = I' a) (h2 : J a = J' a) (h3 : P a = P' a) : mkc I J P a = mkc I' J' P' a := by
  unfold mkc
  rw [mkf_ext (fk (shp a).2) 0 (fun j _ => by rw [h1]) (fun _ _ => h2), h1, h3]
theorem hp_set {I I' : IT} {J J' : JT} {P P' : PT} {a : Nat} {x : MC} (hx : x = mkc I' J' P' a) (h1 : ∀ b, b ≠ a → I b = I' b) (h2 : ∀ b, b ≠ a → J b = J' b) (h3 : ∀ b, b ≠ a → P b = P' b) : hset (hp I J P) a x = hp I' J' P' := by
  unfold hset hp
  refine Prod.ext rfl ?_
  funext b
  show (if b = a then x else mkc I J P b) = mkc I' J' P' b
  by_cases hb : b = a
  · rw [if_pos hb, hx, hb]
  · rw [if_neg hb]
    exact mkc_ext (h1 b hb) (h2 b hb) (h3 b hb)
theorem hp_u2 {I : IT} {J : JT} {P : PT} {a c j : Nat} {v : Int32} (hs : shp a = (0, c)) (hk : (fk c)[j]? = some 0) : hset (hp I J P) a (.inr (c, (mkf I J a 0 (fk c)).set j (.int v))) = hp (u2 I a j v) J P :=
  hp_set (by rw [mkc_0 hs, mkf_set _ 0 hk, Nat.zero_add]) (fun b hb => (u2_n hb).symm) (fun _ _ => rfl) (fun _ _ => rfl)
theorem hp_uJ {I : IT} {J : JT} {P : PT} {a c j : Nat} {v : Int64} (hs : shp a = (0, c)) (hk : (fk c)[j]? = some 1) (hu : ∀ i : Nat, (fk c)[i]? = some 1 → i = j) : hset (hp I J P) a (.inr (c, (mkf I J a 0 (fk c)).set j (.long v))) = hp I (uJ J a v) P :=
  hp_set (by rw [mkc_0 hs, mkf_setJ _ 0 hk hu]) (fun _ _ => rfl) (fun b hb => by simp [uJ, hb]) (fun _ _ => rfl)
theorem hp_a1 {I : IT} {J : JT} {P : PT} {a c j : Nat} {v : Int32} (hs : shp a = (1, c)) : hset (hp I J P) a (.inl (0, (c, .inl (upd (I a) j v)))) = hp (u2 I a j v) J P :=
  hp_set (by rw [mkc_1 hs, u2_s]) (fun b hb => (u2_n hb).symm) (fun _ _ => rfl) (fun _ _ => rfl)
theorem hp_a2 {I : IT} {J : JT} {P : PT} {a c j : Nat} {v : Int32} (hs : shp a = (2, c)) : hset (hp I J P) a (.inl (1, (c, .inl (upd (I a) j v)))) = hp (u2 I a j v) J P :=
  hp_set (by rw [mkc_2 hs, u2_s]) (fun b hb => (u2_n hb).symm) (fun _ _ => rfl) (fun _ _ => rfl)
theorem hp_a3 {I : IT} {J : JT} {P : PT} {a c j v : Nat} (hs : shp a = (3, c)) : hset (hp I J P) a (.inl (2, (c, .inr (.inr (.inr (.inr (va_up (fun j => some (P a j)) j (some v)))))))) = hp I J (uP P a j v) :=
  hp_set (by
    rw [mkc_3 hs]
    have : (va_up (fun j => some (P a j)) j (some v)) = fun z => some (uP P a j v a z) := by
      funext z
      by_cases hz : z = j <;> simp [va_up, uP, hz]
    rw [this]) (fun _ _ => rfl) (fun _ _ => rfl) (fun b hb => by simp [uP, hb])
theorem x_gI {y : YI} {G : GT} {pc nx : Nat} {ls : List (Option Value)} {st : List Value} {I : IT} {J : JT} {P : PT} {k n : Nat} {ix c j a : Nat} {fin : Bool} {ty : FieldType} (d : Dc y pc (.getfield ix) 3 nx) (fl : FL (yN y).cls ix c j fin ty) (hs : shp a = (0, c)) (hk : (fk c)[j]? = some 0) (K : xj y G nx ls (.int (I a j) :: st) (hp I J P) k n) : xj y G pc ls (.ref a :: st) (hp I J P) k n :=
  x_getf d fl (shp_in hs (by decide)).1 (shp_in hs (by decide)).2 (mkc_0 hs) (by rw [mkf_get _ 0 j 0 hk, Nat.zero_add]; rfl) K
theorem x_gJ {y : YI} {G : GT} {pc nx : Nat} {ls : List (Option Value)} {st : List Value} {I : IT} {J : JT} {P : PT} {k n : Nat} {ix c j a : Nat} {fin : Bool} {ty : FieldType} (d : Dc y pc (.getfield ix) 3 nx) (fl : FL (yN y).cls ix c j fin ty) (hs : shp a = (0, c)) (hk : (fk c)[j]? = some 1) (K : xj y G nx ls (.long (J a) :: st) (hp I J P) k n) : xj y G pc ls (.ref a :: st) (hp I J P) k n :=
  x_getf d fl (shp_in hs (by decide)).1 (shp_in hs (by decide)).2 (mkc_0 hs) (by rw [mkf_get _ 0 j 1 hk]; rfl) K
theorem x_gR {y : YI} {G : GT} {pc nx : Nat} {ls : List (Option Value)} {st : List Value} {I : IT} {J : JT} {P : PT} {k n : Nat} {ix c j a b : Nat} {fin : Bool} {ty : FieldType} (d : Dc y pc (.getfield ix) 3 nx) (fl : FL (yN y).cls ix c j fin ty) (hs : shp a = (0, c)) (hk : (fk c)[j]? = some 2) (hr : rfs a j = b) (K : xj y G nx ls (.ref b :: st) (hp I J P) k n) : xj y G pc ls (.ref a :: st) (hp I J P) k n :=
  x_getf d fl (shp_in hs (by decide)).1 (shp_in hs (by decide)).2 (mkc_0 hs) (by rw [mkf_get _ 0 j 2 hk, Nat.zero_add, hr]; rfl) K
theorem x_pI {y : YI} {G : GT} {pc nx : Nat} {ls : List (Option Value)} {st : List Value} {I : IT} {J : JT} {P : PT} {k n : Nat} {ix c j a : Nat} {v : Int32} (d : Dc y pc (.putfield ix) 3 nx) (fl : FL (yN y).cls ix c j false .int) (hs : shp a = (0, c)) (hk : (fk c)[j]? = some 0) (K : xj y G nx ls st (hp (u2 I a j v) J P) k n) : xj y G pc ls (.int v :: .ref a :: st) (hp I J P) k n :=
  x_putf d fl (shp_in hs (by decide)).1 (shp_in hs (by decide)).2 (mkc_0 hs) (by rw [mkf_len]; exact (List.getElem?_eq_some_iff.mp hk).1) (fun _ => rfl) (fun _ => rfl) (by rw [hp_u2 hs hk]; exact K)
theorem x_pJ {y : YI} {G : GT} {pc nx : Nat} {ls : List (Option Value)} {st : List Value} {I : IT} {J : JT} {P : PT} {k n : Nat} {ix c j a : Nat} {v : Int64} (d : Dc y pc (.putfield ix) 3 nx) (fl : FL (yN y).cls ix c j false .long) (hs : shp a = (0, c)) (hk : (fk c)[j]? = some 1) (hu : ∀ i : Nat, (fk c)[i]? = some 1 → i = j) (K : xj y G nx ls st (hp I (uJ J a v) P) k n) : xj y G pc ls (.long v :: .ref a :: st) (hp I J P) k n :=
  x_putf d fl (shp_in hs (by decide)).1 (shp_in hs (by decide)).2 (mkc_0 hs) (by rw [mkf_len]; exact (List.getElem?_eq_some_iff.mp hk).1) (fun _ => rfl) (fun _ => rfl) (by rw [hp_uJ hs hk hu]; exact K)
theorem x_ai {y : YI} {G : GT} {pc nx : Nat} {ls : List (Option Value)} {st : List Value} {I : IT} {J : JT} {P : PT} {k n : Nat} {a N : Nat} {i : Int32} (d : Dc y pc .iaload 1 nx) (hs : shp a = (1, N)) (hi : vp_in i N) (K : xj y G nx ls (.int (I a i.toNatClampNeg) :: st) (hp I J P) k n) : xj y G pc ls (.int i :: .ref a :: st) (hp I J P) k n :=
  x_iald d (shp_in hs (by decide)).1 (shp_in hs (by decide)).2 (mkc_1 hs) hi K
theorem x_al {y : YI} {G : GT} {pc nx : Nat} {ls : List (Option Value)} {st : List Value} {I : IT} {J : JT} {P : PT} {k n : Nat} {a N : Nat} {i : Int32} (j : Nat) (d : Dc y pc .iaload 1 nx) (hs : shp a = (1, N)) (hi : i = nI j) (hj : j < N) (hN : N < 2 ^ 31) (K : xj y G nx ls (.int (I a j) :: st) (hp I J P) k n) : xj y G pc ls (.int i :: .ref a :: st) (hp I J P) k n := by
  subst hi
  exact x_ai d hs (vp_in_nI hj hN) (by rw [nI_clamp (by omega)]; exact K)
theorem x_ao {y : YI} {G : GT} {pc nx : Nat} {ls : List (Option Value)} {st : List Value} {I : IT} {J : JT} {P : PT} {k n : Nat} {a N : Nat} {i v : Int32} (d : Dc y pc .iastore 1 nx) (hs : shp a = (1, N)) (hi : vp_in i N) (K : xj y G nx ls st (hp (u2 I a i.toNatClampNeg v) J P) k n) : xj y G pc ls (.int v :: .int i :: .ref a :: st) (hp I J P) k n :=
  x_iast d (shp_in hs (by decide)).1 (shp_in hs (by decide)).2 (mkc_1 hs) hi (by rw [hp_a1 hs]; exact K)
theorem x_as {y : YI} {G : GT} {pc nx : Nat} {ls : List (Option Value)} {st : List Value} {I : IT} {J : JT} {P : PT} {k n : Nat} {a N : Nat} {i v : Int32} (j : Nat) (d : Dc y pc .iastore 1 nx) (hs : shp a = (1, N)) (hi : i = nI j) (hj : j < N) (hN : N < 2 ^ 31) (K : xj y G nx ls st (hp (u2 I a j v) J P) k n) : xj y G pc ls (.int v :: .int i :: .ref a :: st) (hp I J P) k n := by
  subst hi
  exact x_ao d hs (vp_in_nI hj hN) (by rw [nI_clamp (by omega)]; exact K)
theorem x_zl {y : YI} {G : GT} {pc nx : Nat} {ls : List (Option Value)} {st : List Value} {I : IT} {J : JT} {P : PT} {k n : Nat} {a N : Nat} {i : Int32} (j : Nat) (d : Dc y pc .baload 1 nx) (hs : shp a = (2, N)) (hi : i = nI j) (hj : j < N) (hN : N < 2 ^ 31) (K : xj y G nx ls (.int (I a j) :: st) (hp I J P) k n) : xj y G pc ls (.int i :: .ref a :: st) (hp I J P) k n := by
  subst hi
  exact x_zald d (shp_in hs (by decide)).1 (shp_in hs (by decide)).2 (mkc_2 hs) (vp_in_nI hj hN) (by rw [nI_clamp (by omega)]; exact K)
theorem x_zs {y : YI} {G : GT} {pc nx : Nat} {ls : List (Option Value)} {st : List Value} {I : IT} {J : JT} {P : PT} {k n : Nat} {a N : Nat} {i v : Int32} (j : Nat) (d : Dc y pc .bastore 1 nx) (hs : shp a = (2, N)) (hi : i = nI j) (hj : j < N) (hN : N < 2 ^ 31) (hz : narrow .boolean (.int v) = .int v) (K : xj y G nx ls st (hp (u2 I a j v) J P) k n) : xj y G pc ls (.int v :: .int i :: .ref a :: st) (hp I J P) k n := by
  subst hi
  exact x_zast d (shp_in hs (by decide)).1 (shp_in hs (by decide)).2 (mkc_2 hs) (vp_in_nI hj hN) hz (by rw [nI_clamp (by omega), hp_a2 hs]; exact K)
theorem x_rl {y : YI} {G : GT} {pc nx : Nat} {ls : List (Option Value)} {st : List Value} {I : IT} {J : JT} {P : PT} {k n : Nat} {a N b : Nat} {i : Int32} (j : Nat) (d : Dc y pc .aaload 1 nx) (hs : shp a = (3, N)) (hi : i = nI j) (hj : j < N) (hN : N < 2 ^ 31) (hb : P a j = b) (hb1 : 1 ≤ b) (K : xj y G nx ls (.ref b :: st) (hp I J P) k n) : xj y G pc ls (.int i :: .ref a :: st) (hp I J P) k n := by
  subst hi
  exact x_aald d (shp_in hs (by decide)).1 (shp_in hs (by decide)).2 (mkc_3 hs) (vp_in_nI hj hN) (by rw [nI_clamp (by omega), hb]) hb1 K
theorem x_rs {y : YI} {G : GT} {pc nx : Nat} {ls : List (Option Value)} {st : List Value} {I : IT} {J : JT} {P : PT} {k n : Nat} {a N b : Nat} {i : Int32} (j : Nat) (d : Dc y pc .aastore 1 nx) (hs : shp a = (3, N)) (hi : i = nI j) (hj : j < N) (hN : N < 2 ^ 31) (hsb : shp b = (0, 2)) (K : xj y G nx ls st (hp I J (uP P a j b)) k n) : xj y G pc ls (.ref b :: .int i :: .ref a :: st) (hp I J P) k n := by
  subst hi
  exact x_aast d (shp_in hs (by decide)).1 (shp_in hs (by decide)).2 (mkc_3 hs) (vp_in_nI hj hN) (shp_in hsb (by decide)).1 (shp_in hsb (by decide)).2 (mkc_0 hsb) (by rw [nI_clamp (by omega), hp_a3 hs]; exact K)
theorem x_l1 {y : YI} {G : GT} {pc nx : Nat} {ls : List (Option Value)} {st : List Value} {I : IT} {J : JT} {P : PT} {k n : Nat} {a N : Nat} (v : Int32) (d : Dc y pc .arraylength 1 nx) (hs : shp a = (1, N)) (hv : Int32.ofNat N = v) (K : xj y G nx ls (.int v :: st) (hp I J P) k n) : xj y G pc ls (.ref a :: st) (hp I J P) k n :=
  x_alen v d (shp_in hs (by decide)).1 (shp_in hs (by decide)).2 (by decide) (mkc_1 hs) hv K
theorem x_l2 {y : YI} {G : GT} {pc nx : Nat} {ls : List (Option Value)} {st : List Value} {I : IT} {J : JT} {P : PT} {k n : Nat} {a N : Nat} (v : Int32) (d : Dc y pc .arraylength 1 nx) (hs : shp a = (2, N)) (hv : Int32.ofNat N = v) (K : xj y G nx ls (.int v :: st) (hp I J P) k n) : xj y G pc ls (.ref a :: st) (hp I J P) k n :=
  x_alen v d (shp_in hs (by decide)).1 (shp_in hs (by decide)).2 (by decide) (mkc_2 hs) hv K
theorem x_l3 {y : YI} {G : GT} {pc nx : Nat} {ls : List (Option Value)} {st : List Value} {I : IT} {J : JT} {P : PT} {k n : Nat} {a N : Nat} (v : Int32) (d : Dc y pc .arraylength 1 nx) (hs : shp a = (3, N)) (hv : Int32.ofNat N = v) (K : xj y G nx ls (.int v :: st) (hp I J P) k n) : xj y G pc ls (.ref a :: st) (hp I J P) k n :=
  x_alen v d (shp_in hs (by decide)).1 (shp_in hs (by decide)).2 (by decide) (mkc_3 hs) hv K
theorem x_v0 {y y' : YI} {G : GT} {pc nx : Nat} {ls ls0 : List (Option Value)} {st : List Value} {ix : Nat} {I : IT} {J : JT} {P : PT} {k n : Nat} {c b : Nat} (d : Dc y pc (.invokevirtual ix) 3 nx) (cf : CV (yN y).cls ix y') (ok : YOK y' 0) (rm : rmOk y y') (hlen : (entl (.ref b :: [])).length ≤ yL y') (he : ent0 y' (.ref b :: []) = ls0) (hst : (st.map fun v => v.category).sum ≤ 8) (hs : shp b = (0, c)) (hcc : ∃ r, kcl[c]? = some r ∧ r.1 = (yN y').cls) (hz : (yR y').cells = 0) (hz2 : (yR y').slots = 0) (hk2 : k ≤ (yR y).cells) (hn2 : n ≤ (yR y).slots) (K : xj y' (mG y' (fun r h' => xj y G nx ls (pushR r st) h' k n)) 0 ls0 [] (hp I J P) 0 0) : xj y G pc ls (.ref b :: st) (hp I J P) k n :=
  x_callV (As := []) d cf ok rm rfl hlen he hst (shp_in hs (by decide)).1 (shp_in hs (by decide)).2 (mkc_0 hs) hcc (by rw [hz]; rfl) (by rw [hz2]; rfl) hk2 hn2 K
theorem x_s0 {y y' : YI} {G : GT} {pc nx : Nat} {ls ls0 : List (Option Value)} {st : List Value} {ix : Nat} {h : HS} {k n : Nat} (d : Dc y pc (.invokestatic ix) 3 nx) (cf : CS (yN y).cls ix y') (ok : YOK y' 0) (rm : rmOk y y') (hlen : (entl []).length ≤ yL y') (he : ent0 y' [] = ls0) (hst : (st.map fun v => v.category).sum ≤ 8) (hz : (yR y').cells = 0) (hz2 : (yR y').slots = 0) (hk2 : k ≤ (yR y).cells) (hn2 : n ≤ (yR y).slots) (K : xj y' (mG y' (fun r h' => xj y G nx ls (pushR r st) h' k n)) 0 ls0 [] (h) 0 0) : xj y G pc ls (st) h k n :=
  x_callS (As := []) d cf ok rm rfl hlen he hst (by rw [hz]; rfl) (by rw [hz2]; rfl) hk2 hn2 K
theorem x_t0 {y y' : YI} {G : GT} {pc nx : Nat} {ls ls0 : List (Option Value)} {st : List Value} {ix : Nat} {h : HS} {k n : Nat} (d : Dc y pc (.invokestatic ix) 3 nx) (cf : CSN (yN y).cls ix y') (ok : YOK y' 0) (rm : rmOk y y') (hlen : (entl []).length ≤ yL y') (he : ent0 y' [] = ls0) (hst : (st.map fun v => v.category).sum ≤ 8) (hz : (yR y').cells = 0) (hz2 : (yR y').slots = 0) (hk2 : k ≤ (yR y).cells) (hn2 : n ≤ (yR y).slots) (K : xj y' (mG y' (fun r h' => xj y G nx ls (pushR r st) h' k n)) 0 ls0 [] (h) 0 0) : xj y G pc ls (st) h k n :=
  x_callSN (As := []) d cf ok rm rfl hlen he hst (by rw [hz]; rfl) (by rw [hz2]; rfl) hk2 hn2 K
theorem x_v1 {y y' : YI} {G : GT} {pc nx : Nat} {ls ls0 : List (Option Value)} {st : List Value} {ix : Nat} {I : IT} {J : JT} {P : PT} {k n : Nat} {c b : Nat} {v0 : Value} (d : Dc y pc (.invokevirtual ix) 3 nx) (cf : CV (yN y).cls ix y') (ok : YOK y' 1) (rm : rmOk y y') (hlen : (entl (.ref b :: [v0])).length ≤ yL y') (he : ent0 y' (.ref b :: [v0]) = ls0) (hst : (st.map fun v => v.category).sum ≤ 8) (hs : shp b = (0, c)) (hcc : ∃ r, kcl[c]? = some r ∧ r.1 = (yN y').cls) (hz : (yR y').cells = 0) (hz2 : (yR y').slots = 0) (hk2 : k ≤ (yR y).cells) (hn2 : n ≤ (yR y).slots) (K : xj y' (mG y' (fun r h' => xj y G nx ls (pushR r st) h' k n)) 0 ls0 [] (hp I J P) 0 0) : xj y G pc ls (v0 :: .ref b :: st) (hp I J P) k n :=
  x_callV (As := [v0]) d cf ok rm rfl hlen he hst (shp_in hs (by decide)).1 (shp_in hs (by decide)).2 (mkc_0 hs) hcc (by rw [hz]; rfl) (by rw [hz2]; rfl) hk2 hn2 K
theorem x_s1 {y y' : YI} {G : GT} {pc nx : Nat} {ls ls0 : List (Option Value)} {st : List Value} {ix : Nat} {h : HS} {k n : Nat} {v0 : Value} (d : Dc y pc (.invokestatic ix) 3 nx) (cf : CS (yN y).cls ix y') (ok : YOK y' 1) (rm : rmOk y y') (hlen : (entl [v0]).length ≤ yL y') (he : ent0 y' [v0] = ls0) (hst : (st.map fun v => v.category).sum ≤ 8) (hz : (yR y').cells = 0) (hz2 : (yR y').slots = 0) (hk2 : k ≤ (yR y).cells) (hn2 : n ≤ (yR y).slots) (K : xj y' (mG y' (fun r h' => xj y G nx ls (pushR r st) h' k n)) 0 ls0 [] (h) 0 0) : xj y G pc ls (v0 :: st) h k n :=
  x_callS (As := [v0]) d cf ok rm rfl hlen he hst (by rw [hz]; rfl) (by rw [hz2]; rfl) hk2 hn2 K
theorem x_t1 {y y' : YI} {G : GT} {pc nx : Nat} {ls ls0 : List (Option Value)} {st : List Value} {ix : Nat} {h : HS} {k n : Nat} {v0 : Value} (d : Dc y pc (.invokestatic ix) 3 nx) (cf : CSN (yN y).cls ix y') (ok : YOK y' 1) (rm : rmOk y y') (hlen : (entl [v0]).length ≤ yL y') (he : ent0 y' [v0] = ls0) (hst : (st.map fun v => v.category).sum ≤ 8) (hz : (yR y').cells = 0) (hz2 : (yR y').slots = 0) (hk2 : k ≤ (yR y).cells) (hn2 : n ≤ (yR y).slots) (K : xj y' (mG y' (fun r h' => xj y G nx ls (pushR r st) h' k n)) 0 ls0 [] (h) 0 0) : xj y G pc ls (v0 :: st) h k n :=
  x_callSN (As := [v0]) d cf ok rm rfl hlen he hst (by rw [hz]; rfl) (by rw [hz2]; rfl) hk2 hn2 K
theorem x_v2 {y y' : YI} {G : GT} {pc nx : Nat} {ls ls0 : List (Option Value)} {st : List Value} {ix : Nat} {I : IT} {J : JT} {P : PT} {k n : Nat} {c b : Nat} {v0 v1 : Value} (d : Dc y pc (.invokevirtual ix) 3 nx) (cf : CV (yN y).cls ix y') (ok : YOK y' 2) (rm : rmOk y y') (hlen : (entl (.ref b :: [v0, v1])).length ≤ yL y') (he : ent0 y' (.ref b :: [v0, v1]) = ls0) (hst : (st.map fun v => v.category).sum ≤ 8) (hs : shp b = (0, c)) (hcc : ∃ r, kcl[c]? = some r ∧ r.1 = (yN y').cls) (hz : (yR y').cells = 0) (hz2 : (yR y').slots = 0) (hk2 : k ≤ (yR y).cells) (hn2 : n ≤ (yR y).slots) (K : xj y' (mG y' (fun r h' => xj y G nx ls (pushR r st) h' k n)) 0 ls0 [] (hp I J P) 0 0) : xj y G pc ls (v1 :: v0 :: .ref b :: st) (hp I J P) k n :=
  x_callV (As := [v0, v1]) d cf ok rm rfl hlen he hst (shp_in hs (by decide)).1 (shp_in hs (by decide)).2 (mkc_0 hs) hcc (by rw [hz]; rfl) (by rw [hz2]; rfl) hk2 hn2 K
theorem x_s2 {y y' : YI} {G : GT} {pc nx : Nat} {ls ls0 : List (Option Value)} {st : List Value} {ix : Nat} {h : HS} {k n : Nat} {v0 v1 : Value} (d : Dc y pc (.invokestatic ix) 3 nx) (cf : CS (yN y).cls ix y') (ok : YOK y' 2) (rm : rmOk y y') (hlen : (entl [v0, v1]).length ≤ yL y') (he : ent0 y' [v0, v1] = ls0) (hst : (st.map fun v => v.category).sum ≤ 8) (hz : (yR y').cells = 0) (hz2 : (yR y').slots = 0) (hk2 : k ≤ (yR y).cells) (hn2 : n ≤ (yR y).slots) (K : xj y' (mG y' (fun r h' => xj y G nx ls (pushR r st) h' k n)) 0 ls0 [] (h) 0 0) : xj y G pc ls (v1 :: v0 :: st) h k n :=
  x_callS (As := [v0, v1]) d cf ok rm rfl hlen he hst (by rw [hz]; rfl) (by rw [hz2]; rfl) hk2 hn2 K
theorem x_t2 {y y' : YI} {G : GT} {pc nx : Nat} {ls ls0 : List (Option Value)} {st : List Value} {ix : Nat} {h : HS} {k n : Nat} {v0 v1 : Value} (d : Dc y pc (.invokestatic ix) 3 nx) (cf : CSN (yN y).cls ix y') (ok : YOK y' 2) (rm : rmOk y y') (hlen : (entl [v0, v1]).length ≤ yL y') (he : ent0 y' [v0, v1] = ls0) (hst : (st.map fun v => v.category).sum ≤ 8) (hz : (yR y').cells = 0) (hz2 : (yR y').slots = 0) (hk2 : k ≤ (yR y).cells) (hn2 : n ≤ (yR y).slots) (K : xj y' (mG y' (fun r h' => xj y G nx ls (pushR r st) h' k n)) 0 ls0 [] (h) 0 0) : xj y G pc ls (v1 :: v0 :: st) h k n :=
  x_callSN (As := [v0, v1]) d cf ok rm rfl hlen he hst (by rw [hz]; rfl) (by rw [hz2]; rfl) hk2 hn2 K
theorem x_v3 {y y' : YI} {G : GT} {pc nx : Nat} {ls ls0 : List (Option Value)} {st : List Value} {ix : Nat} {I : IT} {J : JT} {P : PT} {k n : Nat} {c b : Nat} {v0 v1 v2 : Value} (d : Dc y pc (.invokevirtual ix) 3 nx) (cf : CV (yN y).cls ix y') (ok : YOK y' 3) (rm : rmOk y y') (hlen : (entl (.ref b :: [v0, v1, v2])).length ≤ yL y') (he : ent0 y' (.ref b :: [v0, v1, v2]) = ls0) (hst : (st.map fun v => v.category).sum ≤ 8) (hs : shp b = (0, c)) (hcc : ∃ r, kcl[c]? = some r ∧ r.1 = (yN y').cls) (hz : (yR y').cells = 0) (hz2 : (yR y').slots = 0) (hk2 : k ≤ (yR y).cells) (hn2 : n ≤ (yR y).slots) (K : xj y' (mG y' (fun r h' => xj y G nx ls (pushR r st) h' k n)) 0 ls0 [] (hp I J P) 0 0) : xj y G pc ls (v2 :: v1 :: v0 :: .ref b :: st) (hp I J P) k n :=
  x_callV (As := [v0, v1, v2]) d cf ok rm rfl hlen he hst (shp_in hs (by decide)).1 (shp_in hs (by decide)).2 (mkc_0 hs) hcc (by rw [hz]; rfl) (by rw [hz2]; rfl) hk2 hn2 K
theorem x_s3 {y y' : YI} {G : GT} {pc nx : Nat} {ls ls0 : List (Option Value)} {st : List Value} {ix : Nat} {h : HS} {k n : Nat} {v0 v1 v2 : Value} (d : Dc y pc (.invokestatic ix) 3 nx) (cf : CS (yN y).cls ix y') (ok : YOK y' 3) (rm : rmOk y y') (hlen : (entl [v0, v1, v2]).length ≤ yL y') (he : ent0 y' [v0, v1, v2] = ls0) (hst : (st.map fun v => v.category).sum ≤ 8) (hz : (yR y').cells = 0) (hz2 : (yR y').slots = 0) (hk2 : k ≤ (yR y).cells) (hn2 : n ≤ (yR y).slots) (K : xj y' (mG y' (fun r h' => xj y G nx ls (pushR r st) h' k n)) 0 ls0 [] (h) 0 0) : xj y G pc ls (v2 :: v1 :: v0 :: st) h k n :=
  x_callS (As := [v0, v1, v2]) d cf ok rm rfl hlen he hst (by rw [hz]; rfl) (by rw [hz2]; rfl) hk2 hn2 K
theorem x_t3 {y y' : YI} {G : GT} {pc nx : Nat} {ls ls0 : List (Option Value)} {st : List Value} {ix : Nat} {h : HS} {k n : Nat} {v0 v1 v2 : Value} (d : Dc y pc (.invokestatic ix) 3 nx) (cf : CSN (yN y).cls ix y') (ok : YOK y' 3) (rm : rmOk y y') (hlen : (entl [v0, v1, v2]).length ≤ yL y') (he : ent0 y' [v0, v1, v2] = ls0) (hst : (st.map fun v => v.category).sum ≤ 8) (hz : (yR y').cells = 0) (hz2 : (yR y').slots = 0) (hk2 : k ≤ (yR y).cells) (hn2 : n ≤ (yR y).slots) (K : xj y' (mG y' (fun r h' => xj y G nx ls (pushR r st) h' k n)) 0 ls0 [] (h) 0 0) : xj y G pc ls (v2 :: v1 :: v0 :: st) h k n :=
  x_callSN (As := [v0, v1, v2]) d cf ok rm rfl hlen he hst (by rw [hz]; rfl) (by rw [hz2]; rfl) hk2 hn2 K
theorem x_v4 {y y' : YI} {G : GT} {pc nx : Nat} {ls ls0 : List (Option Value)} {st : List Value} {ix : Nat} {I : IT} {J : JT} {P : PT} {k n : Nat} {c b : Nat} {v0 v1 v2 v3 : Value} (d : Dc y pc (.invokevirtual ix) 3 nx) (cf : CV (yN y).cls ix y') (ok : YOK y' 4) (rm : rmOk y y') (hlen : (entl (.ref b :: [v0, v1, v2, v3])).length ≤ yL y') (he : ent0 y' (.ref b :: [v0, v1, v2, v3]) = ls0) (hst : (st.map fun v => v.category).sum ≤ 8) (hs : shp b = (0, c)) (hcc : ∃ r, kcl[c]? = some r ∧ r.1 = (yN y').cls) (hz : (yR y').cells = 0) (hz2 : (yR y').slots = 0) (hk2 : k ≤ (yR y).cells) (hn2 : n ≤ (yR y).slots) (K : xj y' (mG y' (fun r h' => xj y G nx ls (pushR r st) h' k n)) 0 ls0 [] (hp I J P) 0 0) : xj y G pc ls (v3 :: v2 :: v1 :: v0 :: .ref b :: st) (hp I J P) k n :=
  x_callV (As := [v0, v1, v2, v3]) d cf ok rm rfl hlen he hst (shp_in hs (by decide)).1 (shp_in hs (by decide)).2 (mkc_0 hs) hcc (by rw [hz]; rfl) (by rw [hz2]; rfl) hk2 hn2 K
theorem x_s4 {y y' : YI} {G : GT} {pc nx : Nat} {ls ls0 : List (Option Value)} {st : List Value} {ix : Nat} {h : HS} {k n : Nat} {v0 v1 v2 v3 : Value} (d : Dc y pc (.invokestatic ix) 3 nx) (cf : CS (yN y).cls ix y') (ok : YOK y' 4) (rm : rmOk y y') (hlen : (entl [v0, v1, v2, v3]).length ≤ yL y') (he : ent0 y' [v0, v1, v2, v3] = ls0) (hst : (st.map fun v => v.category).sum ≤ 8) (hz : (yR y').cells = 0) (hz2 : (yR y').slots = 0) (hk2 : k ≤ (yR y).cells) (hn2 : n ≤ (yR y).slots) (K : xj y' (mG y' (fun r h' => xj y G nx ls (pushR r st) h' k n)) 0 ls0 [] (h) 0 0) : xj y G pc ls (v3 :: v2 :: v1 :: v0 :: st) h k n :=
  x_callS (As := [v0, v1, v2, v3]) d cf ok rm rfl hlen he hst (by rw [hz]; rfl) (by rw [hz2]; rfl) hk2 hn2 K
theorem x_t4 {y y' : YI} {G : GT} {pc nx : Nat} {ls ls0 : List (Option Value)} {st : List Value} {ix : Nat} {h : HS} {k n : Nat} {v0 v1 v2 v3 : Value} (d : Dc y pc (.invokestatic ix) 3 nx) (cf : CSN (yN y).cls ix y') (ok : YOK y' 4) (rm : rmOk y y') (hlen : (entl [v0, v1, v2, v3]).length ≤ yL y') (he : ent0 y' [v0, v1, v2, v3] = ls0) (hst : (st.map fun v => v.category).sum ≤ 8) (hz : (yR y').cells = 0) (hz2 : (yR y').slots = 0) (hk2 : k ≤ (yR y).cells) (hn2 : n ≤ (yR y).slots) (K : xj y' (mG y' (fun r h' => xj y G nx ls (pushR r st) h' k n)) 0 ls0 [] (h) 0 0) : xj y G pc ls (v3 :: v2 :: v1 :: v0 :: st) h k n :=
  x_callSN (As := [v0, v1, v2, v3]) d cf ok rm rfl hlen he hst (by rw [hz]; rfl) (by rw [hz2]; rfl) hk2 hn2 K
theorem x_v5 {y y' : YI} {G : GT} {pc nx : Nat} {ls ls0 : List (Option Value)} {st : List Value} {ix : Nat} {I : IT} {J : JT} {P : PT} {k n : Nat} {c b : Nat} {v0 v1 v2 v3 v4 : Value} (d : Dc y pc (.invokevirtual ix) 3 nx) (cf : CV (yN y).cls ix y') (ok : YOK y' 5) (rm : rmOk y y') (hlen : (entl (.ref b :: [v0, v1, v2, v3, v4])).length ≤ yL y') (he : ent0 y' (.ref b :: [v0, v1, v2, v3, v4]) = ls0) (hst : (st.map fun v => v.category).sum ≤ 8) (hs : shp b = (0, c)) (hcc : ∃ r, kcl[c]? = some r ∧ r.1 = (yN y').cls) (hz : (yR y').cells = 0) (hz2 : (yR y').slots = 0) (hk2 : k ≤ (yR y).cells) (hn2 : n ≤ (yR y).slots) (K : xj y' (mG y' (fun r h' => xj y G nx ls (pushR r st) h' k n)) 0 ls0 [] (hp I J P) 0 0) : xj y G pc ls (v4 :: v3 :: v2 :: v1 :: v0 :: .ref b :: st) (hp I J P) k n :=
  x_callV (As := [v0, v1, v2, v3, v4]) d cf ok rm rfl hlen he hst (shp_in hs (by decide)).1 (shp_in hs (by decide)).2 (mkc_0 hs) hcc (by rw [hz]; rfl) (by rw [hz2]; rfl) hk2 hn2 K
theorem x_s5 {y y' : YI} {G : GT} {pc nx : Nat} {ls ls0 : List (Option Value)} {st : List Value} {ix : Nat} {h : HS} {k n : Nat} {v0 v1 v2 v3 v4 : Value} (d : Dc y pc (.invokestatic ix) 3 nx) (cf : CS (yN y).cls ix y') (ok : YOK y' 5) (rm : rmOk y y') (hlen : (entl [v0, v1, v2, v3, v4]).length ≤ yL y') (he : ent0 y' [v0, v1, v2, v3, v4] = ls0) (hst : (st.map fun v => v.category).sum ≤ 8) (hz : (yR y').cells = 0) (hz2 : (yR y').slots = 0) (hk2 : k ≤ (yR y).cells) (hn2 : n ≤ (yR y).slots) (K : xj y' (mG y' (fun r h' => xj y G nx ls (pushR r st) h' k n)) 0 ls0 [] (h) 0 0) : xj y G pc ls (v4 :: v3 :: v2 :: v1 :: v0 :: st) h k n :=
  x_callS (As := [v0, v1, v2, v3, v4]) d cf ok rm rfl hlen he hst (by rw [hz]; rfl) (by rw [hz2]; rfl) hk2 hn2 K
theorem x_t5 {y y' : YI} {G : GT} {pc nx : Nat} {ls ls0 : List (Option Value)} {st : List Value} {ix : Nat} {h : HS} {k n : Nat} {v0 v1 v2 v3 v4 : Value} (d : Dc y pc (.invokestatic ix) 3 nx) (cf : CSN (yN y).cls ix y') (ok : YOK y' 5) (rm : rmOk y y') (hlen : (entl [v0, v1, v2, v3, v4]).length ≤ yL y') (he : ent0 y' [v0, v1, v2, v3, v4] = ls0) (hst : (st.map fun v => v.category).sum ≤ 8) (hz : (yR y').cells = 0) (hz2 : (yR y').slots = 0) (hk2 : k ≤ (yR y).cells) (hn2 : n ≤ (yR y).slots) (K : xj y' (mG y' (fun r h' => xj y G nx ls (pushR r st) h' k n)) 0 ls0 [] (h) 0 0) : xj y G pc ls (v4 :: v3 :: v2 :: v1 :: v0 :: st) h k n :=
  x_callSN (As := [v0, v1, v2, v3, v4]) d cf ok rm rfl hlen he hst (by rw [hz]; rfl) (by rw [hz2]; rfl) hk2 hn2 K
/-- a line's cell and its rows -/
def isLn (a : Nat) : Prop := shp a = (0, 2) ∧ rfs a 5 = a + 1 ∧ rfs a 6 = a + 2 ∧ rfs a 7 = a + 3 ∧ shp (a + 1) = (1, 5) ∧ shp (a + 2) = (1, 5) ∧ shp (a + 3) = (1, 5)
theorem ln_4 : isLn 4 := ⟨rfl, rfl, rfl, rfl, rfl, rfl, rfl⟩
theorem ln_67 : isLn 67 := ⟨rfl, rfl, rfl, rfl, rfl, rfl, rfl⟩
theorem ln_71 : isLn 71 := ⟨rfl, rfl, rfl, rfl, rfl, rfl, rfl⟩
theorem ln_79 : isLn 79 := ⟨rfl, rfl, rfl, rfl, rfl, rfl, rfl⟩
theorem ln_row : ∀ i, i < 14 → isLn (10 + 4 * i) := by unfold isLn; decide +kernel
end
section
theorem s_max {Po : Option Value → HS → Prop} {a b : Int32} {h : HS} (hq : Po (some (.int (if a < b then b else a))) h) : xj yMath_max (mG yMath_max Po) 0 [some (.int a), some (.int b)] [] h 0 0 := by
  refine x_iload_0 cMath_max_0 ?_
  refine x_iload_1 cMath_max_1 ?_
  refine x_icmp_lt cMath_max_2 (fun q2 => ?_) (fun q2 => ?_)
  · refine x_iload_1 cMath_max_9 ?_
    refine x_ireturn cMath_max_10 rfl rfl (Nat.zero_le _) (Nat.zero_le _) ?_
    rw [if_pos q2] at hq; exact hq
  · refine x_iload_0 cMath_max_5 ?_
    refine x_goto cMath_max_6 ?_
    refine x_ireturn cMath_max_10 rfl rfl (Nat.zero_le _) (Nat.zero_le _) ?_
    rw [if_neg q2] at hq; exact hq
theorem s_min {Po : Option Value → HS → Prop} {a b : Int32} {h : HS} (hq : Po (some (.int (if b < a then b else a))) h) : xj yMath_min (mG yMath_min Po) 0 [some (.int a), some (.int b)] [] h 0 0 := by
  refine x_iload_0 cMath_min_0 ?_
  refine x_iload_1 cMath_min_1 ?_
  refine x_icmp_gt cMath_min_2 (fun q2 => ?_) (fun q2 => ?_)
  · refine x_iload_1 cMath_min_9 ?_
    refine x_ireturn cMath_min_10 rfl rfl (Nat.zero_le _) (Nat.zero_le _) ?_
    rw [if_pos q2] at hq; exact hq
  · refine x_iload_0 cMath_min_5 ?_
    refine x_goto cMath_min_6 ?_
    refine x_ireturn cMath_min_10 rfl rfl (Nat.zero_le _) (Nat.zero_le _) ?_
    rw [if_neg q2] at hq; exact hq
theorem s_abs {Po : Option Value → HS → Prop} {a : Int32} {h : HS} (hq : Po (some (.int (if 0 ≤ a then a else -a))) h) : xj yMath_abs (mG yMath_abs Po) 0 [some (.int a)] [] h 0 0 := by
  refine x_iload_0 cMath_abs_0 ?_
  refine x_if_ge cMath_abs_1 (fun q1 => ?_) (fun q1 => ?_)
  · refine x_iload_0 cMath_abs_9 ?_
    refine x_ireturn cMath_abs_10 rfl rfl (Nat.zero_le _) (Nat.zero_le _) ?_
    rw [if_pos q1] at hq; exact hq
  · refine x_iload_0 cMath_abs_4 ?_
    refine x_ineg cMath_abs_5 ?_
    refine x_goto cMath_abs_6 ?_
    refine x_ireturn cMath_abs_10 rfl rfl (Nat.zero_le _) (Nat.zero_le _) ?_
    rw [if_neg q1] at hq; exact hq
def fmod (a b : Int32) : Int32 := if (a ^^^ b) < 0 then (if a - a / b * b = 0 then a - a / b * b else a - a / b * b + b) else a - a / b * b
theorem s_floorMod {Po : Option Value → HS → Prop} {a b : Int32} {h : HS} (hb : ¬ b = 0) (hq : Po (some (.int (fmod a b))) h) : xj yMath_floorMod (mG yMath_floorMod Po) 0 [some (.int a), some (.int b), none] [] h 0 0 := by
  unfold fmod at hq
  refine x_iload_0 cMath_floorMod_0 ?_
  refine x_iload_1 cMath_floorMod_1 ?_
  refine x_irem hb cMath_floorMod_2 ?_
  refine x_istore_2 cMath_floorMod_3 rfl (Nat.le_of_ble_eq_true rfl) ?_
  refine x_iload_0 cMath_floorMod_4 ?_
  refine x_iload_1 cMath_floorMod_5 ?_
  refine x_ixor cMath_floorMod_6 ?_
  refine x_if_ge cMath_floorMod_7 (fun q7 => ?_) (fun q7 => ?_)
  · refine x_iload_2 cMath_floorMod_18 ?_
    refine x_ireturn cMath_floorMod_19 rfl rfl (Nat.zero_le _) (Nat.zero_le _) ?_
    rw [if_neg (Int32.not_lt.mpr q7)] at hq; exact hq
  · refine x_iload_2 cMath_floorMod_10 ?_
    refine x_if_eq cMath_floorMod_11 (fun q11 => ?_) (fun q11 => ?_)
    · refine x_iload_2 cMath_floorMod_18 ?_
      refine x_ireturn cMath_floorMod_19 rfl rfl (Nat.zero_le _) (Nat.zero_le _) ?_
      rw [if_pos (Int32.not_le.mp q7), if_pos q11] at hq; exact hq
    · refine x_iload_2 cMath_floorMod_14 ?_
      refine x_iload_1 cMath_floorMod_15 ?_
      refine x_iadd cMath_floorMod_16 ?_
      refine x_ireturn cMath_floorMod_17 rfl rfl (Nat.zero_le _) (Nat.zero_le _) ?_
      rw [if_pos (Int32.not_le.mp q7), if_neg q11] at hq; exact hq
theorem s_within {Po : Option Value → HS → Prop} {a b : Int32} {h : HS} (h1 : (-b ≤ a ∧ a ≤ b) → Po (some (.int 1)) h) (h0 : ¬ (-b ≤ a ∧ a ≤ b) → Po (some (.int 0)) h) : xj yK_within (mG yK_within Po) 0 [some (.int a), some (.int b)] [] h 0 0 := by
  refine x_iload_0 cK_within_0 ?_
  refine x_iload_1 cK_within_1 ?_
  refine x_ineg cK_within_2 ?_
  refine x_icmp_lt cK_within_3 (fun q3 => ?_) (fun q3 => ?_)
  · refine x_iconst 0 (by decide) cK_within_15 ?_
    refine x_ireturn cK_within_16 rfl rfl (Nat.zero_le _) (Nat.zero_le _) ?_
    exact h0 (fun z => absurd z.1 (Int32.not_le.mpr q3))
  · refine x_iload_0 cK_within_6 ?_
    refine x_iload_1 cK_within_7 ?_
    refine x_icmp_gt cK_within_8 (fun q8 => ?_) (fun q8 => ?_)
    · refine x_iconst 0 (by decide) cK_within_15 ?_
      refine x_ireturn cK_within_16 rfl rfl (Nat.zero_le _) (Nat.zero_le _) ?_
      exact h0 (fun z => absurd z.2 (Int32.not_le.mpr q8))
    · refine x_iconst 1 (by decide) cK_within_11 ?_
      refine x_goto cK_within_12 ?_
      refine x_ireturn cK_within_16 rfl rfl (Nat.zero_le _) (Nat.zero_le _) ?_
      exact h1 ⟨Int32.not_lt.mp q3, Int32.not_lt.mp q8⟩
theorem s_isFirstOrSecond {Po : Option Value → HS → Prop} {a : Int32} {h : HS} (h1 : (a = 0 ∨ a = 1) → Po (some (.int 1)) h) (h0 : ¬ (a = 0 ∨ a = 1) → Po (some (.int 0)) h) : xj yK_isFirstOrSecond (mG yK_isFirstOrSecond Po) 0 [some (.int a)] [] h 0 0 := by
  refine x_iload_0 cK_isFirstOrSecond_0 ?_
  refine x_if_eq cK_isFirstOrSecond_1 (fun q1 => ?_) (fun q1 => ?_)
  · refine x_iconst 1 (by decide) cK_isFirstOrSecond_9 ?_
    refine x_goto cK_isFirstOrSecond_10 ?_
    refine x_ireturn cK_isFirstOrSecond_14 rfl rfl (Nat.zero_le _) (Nat.zero_le _) ?_
    exact h1 (Or.inl q1)
  · refine x_iload_0 cK_isFirstOrSecond_4 ?_
    refine x_iconst 1 (by decide) cK_isFirstOrSecond_5 ?_
    refine x_icmp_ne cK_isFirstOrSecond_6 (fun q6 => ?_) (fun q6 => ?_)
    · refine x_iconst 0 (by decide) cK_isFirstOrSecond_13 ?_
      refine x_ireturn cK_isFirstOrSecond_14 rfl rfl (Nat.zero_le _) (Nat.zero_le _) ?_
      exact h0 (fun z => z.elim (fun w => absurd w q1) (fun w => absurd w q6))
    · refine x_iconst 1 (by decide) cK_isFirstOrSecond_9 ?_
      refine x_goto cK_isFirstOrSecond_10 ?_
      refine x_ireturn cK_isFirstOrSecond_14 rfl rfl (Nat.zero_le _) (Nat.zero_le _) ?_
      exact h1 (Or.inr q6)
theorem s_toldTogether {Po : Option Value → HS → Prop} {a b : Int32} {h : HS} (hq : Po (some (.int (10 * (a + 2) + b + 2))) h) : xj yK_toldTogether (mG yK_toldTogether Po) 0 [some (.int a), some (.int b)] [] h 0 0 := by
  refine x_bipush 10 (by decide) cK_toldTogether_0 ?_
  refine x_iload_0 cK_toldTogether_2 ?_
  refine x_iconst 2 (by decide) cK_toldTogether_3 ?_
  refine x_iadd cK_toldTogether_4 ?_
  refine x_imul cK_toldTogether_5 ?_
  refine x_iload_1 cK_toldTogether_6 ?_
  refine x_iadd cK_toldTogether_7 ?_
  refine x_iconst 2 (by decide) cK_toldTogether_8 ?_
  refine x_iadd cK_toldTogether_9 ?_
  refine x_ireturn cK_toldTogether_10 rfl rfl (Nat.zero_le _) (Nat.zero_le _) ?_
  exact hq
theorem s_at {Po : Option Value → HS → Prop} {a N : Nat} {i : Int32} {I : IT} {J : JT} {P : PT} (j : Nat) (hs : shp a = (1, N)) (hi : i = nI j) (hj : j < N) (hN : N < 2 ^ 31) (hq : Po (some (.int (I a j))) (hp I J P)) : xj yK_at (mG yK_at Po) 0 [some (.ref a), some (.int i)] [] (hp I J P) 0 0 := by
  subst hi
  refine x_aload_0 cK_at_0 ?_
  refine x_ifnull cK_at_1 ?_
  refine x_iload_1 cK_at_4 ?_
  refine x_if_lt cK_at_5 (fun q5 => absurd q5 (nI_pos (by omega))) (fun q5 => ?_)
  refine x_iload_1 cK_at_8 ?_
  refine x_aload_0 cK_at_9 ?_
  refine x_l1 (nI N) cK_at_10 hs rfl ?_
  refine x_icmp_ge cK_at_11 (fun q11 => absurd q11 (nI_ge hj hN)) (fun q11 => ?_)
  refine x_aload_0 cK_at_14 ?_
  refine x_iload_1 cK_at_15 ?_
  refine x_al (j) cK_at_16 hs rfl hj hN ?_
  refine x_goto cK_at_17 ?_
  refine x_ireturn cK_at_21 rfl rfl (Nat.zero_le _) (Nat.zero_le _) ?_
  exact hq
theorem s_put {Po : Option Value → HS → Prop} {a N : Nat} {i v : Int32} {I : IT} {J : JT} {P : PT} (j : Nat) (hs : shp a = (1, N)) (hi : i = nI j) (hj : j < N) (hN : N < 2 ^ 31) (hq : Po none (hp (u2 I a j v) J P)) : xj yK_put (mG yK_put Po) 0 [some (.ref a), some (.int i), some (.int v)] [] (hp I J P) 0 0 := by
  subst hi
  refine x_aload_0 cK_put_0 ?_
  refine x_ifnull cK_put_1 ?_
  refine x_iload_1 cK_put_4 ?_
  refine x_if_lt cK_put_5 (fun q5 => absurd q5 (nI_pos (by omega))) (fun q5 => ?_)
  refine x_iload_1 cK_put_8 ?_
  refine x_aload_0 cK_put_9 ?_
  refine x_l1 (nI N) cK_put_10 hs rfl ?_
  refine x_icmp_ge cK_put_11 (fun q11 => absurd q11 (nI_ge hj hN)) (fun q11 => ?_)
  refine x_aload_0 cK_put_14 ?_
  refine x_iload_1 cK_put_15 ?_
  refine x_iload_2 cK_put_16 ?_
  refine x_as (j) cK_put_17 hs rfl hj hN ?_
  refine x_return cK_put_18 rfl (Nat.zero_le _) (Nat.zero_le _) ?_
  exact hq
end
section
theorem x_top {y : YI} {G : GT} {pc : Nat} {ls : List (Option Value)} {st : List Value} {h : HS} {k n : Nat} {v : Int32} (w : Int32) (e : v = w) (K : xj y G pc ls (.int w :: st) h k n) : xj y G pc ls (.int v :: st) h k n := by
  subst e; exact K
/-! the pure picture of a line: yards, bridles, tails, LOW, HIGH, BORDER, FOLD -/
abbrev LD : Type := (Nat → Int32) × ((Nat → Int32) × ((Nat → Int32) × (Int32 × (Int32 × (Int32 × Int32)))))
abbrev dY (D : LD) : Nat → Int32 := D.1
abbrev dB (D : LD) : Nat → Int32 := D.2.1
abbrev dT (D : LD) : Nat → Int32 := D.2.2.1
abbrev dLo (D : LD) : Int32 := D.2.2.2.1
abbrev dHi (D : LD) : Int32 := D.2.2.2.2.1
abbrev dBo (D : LD) : Int32 := D.2.2.2.2.2.1
abbrev dFo (D : LD) : Int32 := D.2.2.2.2.2.2
theorem nI_inc (k : Nat) : nI k + Int32.ofInt 1 = nI (k + 1) := nI_1 k
def absI (x : Int32) : Int32 := if 0 ≤ x then x else -x
def fH (D : LD) : Nat → Int32
  | 0 => 0
  | k + 1 => fH D k + (if 0 < dY D k - dT D k then dY D k - dT D k else 0)
def fL (D : LD) (k : Nat) : Int32 := (if fH D (k + 1) < dBo D then dLo D else dHi D) + dB D k
def fP (D : LD) : Nat → Int32
  | 0 => 0
  | k + 1 => fP D k + fL D k
def fB (D : LD) : Nat → Int32
  | 0 => 0
  | k + 1 => fL D k
def fF (D : LD) : Nat → Int32
  | 0 => 0
  | k + 1 => if absI (fL D k - fB D k) ≤ dFo D then fF D k else fF D k ||| ((1 : Int32) <<< (nI k &&& 31))
/-- a line of the class, as it stands at the cell a -/
def lnD (I : IT) (a : Nat) : LD := (I (a + 1), I (a + 2), I (a + 3), I a 1, I a 2, I a 3, I a 4)
/-- what Flight.follow leaves -/
def FlOut (I I' : IT) (D : LD) (c : Nat) : Prop := (∀ a, a ≠ 83 → a ≠ 84 → a ≠ 85 → I' a = I a) ∧ I' 83 2 = nI c ∧ I' 83 3 = fF D c ∧ ∀ k, k < c → I' 84 k = fH D (k + 1) ∧ I' 85 k = fP D (k + 1)
theorem s_follow_loop {Po : Option Value → HS → Prop} {I : IT} {J : JT} {P : PT} {ln c : Nat} (hl : isLn ln) (hln : ln < 80) (hc5 : c ≤ 5) (hq : ∀ I', FlOut I I' (lnD I ln) c → Po none (hp I' J P)) :
    ∀ n k, k + n = c → ∀ I', (∀ a, a ≠ 83 → a ≠ 84 → a ≠ 85 → I' a = I a) → I' 83 2 = nI c → I' 83 3 = fF (lnD I ln) k → (∀ j, j < k → I' 84 j = fH (lnD I ln) (j + 1) ∧ I' 85 j = fP (lnD I ln) (j + 1)) → ∀ g6 g7, xj yFlight_follow (mG yFlight_follow Po) 23 [some (.ref 83), some (.ref ln), some (.int (fH (lnD I ln) k)), some (.int (fP (lnD I ln) k)), some (.int (fB (lnD I ln) k)), some (.int (nI k)), g6, g7] [] (hp I' J P) 0 0 := by
  intro n
  induction n with
  | zero =>
    intro k hk I' hfr e2 e3 ej g6 g7
    obtain rfl : k = c := by omega
    refine x_iload_5 cFlight_follow_23 ?_
    refine x_aload_0 cFlight_follow_25 ?_
    refine x_gI cFlight_follow_26 fFlight_24 rfl rfl ?_
    refine x_icmp_ge cFlight_follow_29 (fun q29 => ?_) (fun q29 => absurd q29 (fun z => z (by rw [e2]; exact Int32.le_refl _)))
    refine x_return cFlight_follow_156 rfl (Nat.zero_le _) (Nat.zero_le _) ?_
    exact hq I' ⟨hfr, e2, e3, ej⟩
  | succ n ih =>
    intro k hk I' hfr e2 e3 ej g6 g7
    have hkc : k < c := by omega
    generalize hD : lnD I ln = D at *
    have hy : I' (ln + 1) = dY D := by rw [hfr _ (by omega) (by omega) (by omega), ← hD]; rfl
    have hb : I' (ln + 2) = dB D := by rw [hfr _ (by omega) (by omega) (by omega), ← hD]; rfl
    have ht : I' (ln + 3) = dT D := by rw [hfr _ (by omega) (by omega) (by omega), ← hD]; rfl
    have h0 : I' ln = I ln := hfr _ (by omega) (by omega) (by omega)
    have hlo : I' ln 1 = dLo D := by rw [h0, ← hD]; rfl
    have hhi : I' ln 2 = dHi D := by rw [h0, ← hD]; rfl
    have hbo : I' ln 3 = dBo D := by rw [h0, ← hD]; rfl
    have hfo : I' ln 4 = dFo D := by rw [h0, ← hD]; rfl
    have J126 : ∀ I2, (∀ a, a ≠ 83 → a ≠ 84 → a ≠ 85 → I2 a = I a) → I2 83 2 = nI c → I2 83 3 = fF D (k + 1) → (∀ j, j < k → I2 84 j = fH D (j + 1) ∧ I2 85 j = fP D (j + 1)) → xj yFlight_follow (mG yFlight_follow Po) 126 [some (.ref 83), some (.ref ln), some (.int (fH D (k + 1))), some (.int (fP D (k + 1))), some (.int (fB D k)), some (.int (nI k)), some (.int (if fH D (k + 1) < dBo D then dLo D else dHi D)), some (.int (fL D k))] [] (hp I2 J P) 0 0 := by
      intro I2 gfr ge2 ge3 gej
      refine x_aload_0 cFlight_follow_126 ?_
      refine x_gR (b := 84) cFlight_follow_127 fFlight_9 rfl rfl rfl ?_
      refine x_iload_5 cFlight_follow_130 ?_
      refine x_iload_2 cFlight_follow_132 ?_
      refine x_t3 (ls0 := [some _, some _, some _]) cFlight_follow_133 kFlight_63 okK_put ⟨(Nat.le_of_ble_eq_true rfl), (Nat.le_of_ble_eq_true rfl)⟩ (Nat.le_of_ble_eq_true rfl) rfl (Nat.le_of_ble_eq_true rfl) rfl rfl (Nat.zero_le _) (Nat.zero_le _) ?_
      refine s_put k rfl rfl (by omega) (by decide) ?_
      dsimp only [pushR]
      refine x_aload_0 cFlight_follow_136 ?_
      refine x_gR (b := 85) cFlight_follow_137 fFlight_15 rfl rfl rfl ?_
      refine x_iload_5 cFlight_follow_140 ?_
      refine x_iload_3 cFlight_follow_142 ?_
      refine x_t3 (ls0 := [some _, some _, some _]) cFlight_follow_143 kFlight_63 okK_put ⟨(Nat.le_of_ble_eq_true rfl), (Nat.le_of_ble_eq_true rfl)⟩ (Nat.le_of_ble_eq_true rfl) rfl (Nat.le_of_ble_eq_true rfl) rfl rfl (Nat.zero_le _) (Nat.zero_le _) ?_
      refine s_put k rfl rfl (by omega) (by decide) ?_
      dsimp only [pushR]
      refine x_iload_7 cFlight_follow_146 ?_
      refine x_istore_4 cFlight_follow_148 rfl (Nat.le_of_ble_eq_true rfl) ?_
      refine x_iinc_5 (nI (k + 1)) cFlight_follow_150 rfl (nI_inc k) (Nat.le_of_ble_eq_true rfl) ?_
      refine x_goto cFlight_follow_153 ?_
      refine ih (k + 1) (by omega) _ ?_ ?_ ?_ ?_ _ _
      · intro a h1 h2 h3
        rw [u2_n h3, u2_n h2]
        exact gfr a h1 h2 h3
      · rw [u2_n (by decide), u2_n (by decide)]; exact ge2
      · rw [u2_n (by decide), u2_n (by decide)]; exact ge3
      · intro j hj
        rw [u2_n (show 84 ≠ 85 by decide), u2_g, u2_g, u2_n (show 85 ≠ 84 by decide)]
        by_cases hjk : j = k
        · subst hjk; exact ⟨by simp, by simp⟩
        · rw [if_neg (fun z => hjk z.2), if_neg (fun z => hjk z.2)]
          exact gej j (by omega)
    have J77 : xj yFlight_follow (mG yFlight_follow Po) 77 [some (.ref 83), some (.ref ln), some (.int (fH D (k + 1))), some (.int (fP D k)), some (.int (fB D k)), some (.int (nI k)), g6, g7] [.int (if fH D (k + 1) < dBo D then dLo D else dHi D)] (hp I' J P) 0 0 := by
      refine x_istore_6 cFlight_follow_77 rfl (Nat.le_of_ble_eq_true rfl) ?_
      refine x_iload_6 cFlight_follow_79 ?_
      refine x_aload_1 cFlight_follow_81 ?_
      refine x_gR (b := ln + 2) cFlight_follow_82 fFlight_53 hl.1 rfl hl.2.2.1 ?_
      refine x_iload_5 cFlight_follow_85 ?_
      refine x_t2 (ls0 := [some _, some _]) cFlight_follow_87 kFlight_31 okK_at ⟨(Nat.le_of_ble_eq_true rfl), (Nat.le_of_ble_eq_true rfl)⟩ (Nat.le_of_ble_eq_true rfl) rfl (Nat.le_of_ble_eq_true rfl) rfl rfl (Nat.zero_le _) (Nat.zero_le _) ?_
      refine s_at k hl.2.2.2.2.2.1 rfl (by omega) (by decide) ?_
      dsimp only [pushR]
      refine x_top (dB D k) (by rw [hb]) ?_
      refine x_iadd cFlight_follow_90 ?_
      refine x_istore_7 cFlight_follow_91 rfl (Nat.le_of_ble_eq_true rfl) ?_
      refine x_iload_3 cFlight_follow_93 ?_
      refine x_iload_7 cFlight_follow_94 ?_
      refine x_iadd cFlight_follow_96 ?_
      refine x_istore_3 cFlight_follow_97 rfl (Nat.le_of_ble_eq_true rfl) ?_
      refine x_iload_7 cFlight_follow_98 ?_
      refine x_iload_4 cFlight_follow_100 ?_
      refine x_isub cFlight_follow_102 ?_
      refine x_s1 (ls0 := [some _]) cFlight_follow_103 kFlight_56 okMath_abs ⟨(Nat.le_of_ble_eq_true rfl), (Nat.le_of_ble_eq_true rfl)⟩ (Nat.le_of_ble_eq_true rfl) rfl (Nat.le_of_ble_eq_true rfl) rfl rfl (Nat.zero_le _) (Nat.zero_le _) ?_
      refine s_abs ?_
      dsimp only [pushR]
      refine x_top (absI (fL D k - fB D k)) rfl ?_
      refine x_aload_1 cFlight_follow_106 ?_
      refine x_gI cFlight_follow_107 fFlight_60 hl.1 rfl ?_
      refine x_icmp_le cFlight_follow_110 (fun q110 => ?_) (fun q110 => ?_)
      · refine J126 I' hfr e2 ?_ ej
        rw [e3]
        show _ = if absI (fL D k - fB D k) ≤ dFo D then _ else _
        rw [if_pos (by rw [← hfo]; exact q110)]
      · refine x_aload_0 cFlight_follow_113 ?_
        refine x_dup rfl cFlight_follow_114 ?_
        refine x_gI cFlight_follow_115 fFlight_25 rfl rfl ?_
        refine x_iconst 1 (by decide) cFlight_follow_118 ?_
        refine x_iload_5 cFlight_follow_119 ?_
        refine x_ishl cFlight_follow_121 ?_
        refine x_ior cFlight_follow_122 ?_
        refine x_pI cFlight_follow_123 fFlight_25 rfl rfl ?_
        refine J126 _ (fun a h1 h2 h3 => by rw [u2_n h1]; exact hfr a h1 h2 h3) (by rw [u2_sn (by decide)]; exact e2) ?_ (fun j hj => by rw [u2_n (by decide), u2_n (by decide)]; exact ej j hj)
        rw [u2_ss, e3]
        show _ = if absI (fL D k - fB D k) ≤ dFo D then _ else _
        rw [if_neg (by rw [← hfo]; exact q110)]
    refine x_iload_5 cFlight_follow_23 ?_
    refine x_aload_0 cFlight_follow_25 ?_
    refine x_gI cFlight_follow_26 fFlight_24 rfl rfl ?_
    refine x_icmp_ge cFlight_follow_29 (fun q29 => absurd q29 (by rw [e2]; exact nI_ge hkc (by omega))) (fun q29 => ?_)
    refine x_iload_2 cFlight_follow_32 ?_
    refine x_iconst 0 (by decide) cFlight_follow_33 ?_
    refine x_aload_1 cFlight_follow_34 ?_
    refine x_gR (b := ln + 1) cFlight_follow_35 fFlight_28 hl.1 rfl hl.2.1 ?_
    refine x_iload_5 cFlight_follow_38 ?_
    refine x_t2 (ls0 := [some _, some _]) cFlight_follow_40 kFlight_31 okK_at ⟨(Nat.le_of_ble_eq_true rfl), (Nat.le_of_ble_eq_true rfl)⟩ (Nat.le_of_ble_eq_true rfl) rfl (Nat.le_of_ble_eq_true rfl) rfl rfl (Nat.zero_le _) (Nat.zero_le _) ?_
    refine s_at k hl.2.2.2.2.1 rfl (by omega) (by decide) ?_
    dsimp only [pushR]
    refine x_aload_1 cFlight_follow_43 ?_
    refine x_gR (b := ln + 3) cFlight_follow_44 fFlight_35 hl.1 rfl hl.2.2.2.1 ?_
    refine x_iload_5 cFlight_follow_47 ?_
    refine x_t2 (ls0 := [some _, some _]) cFlight_follow_49 kFlight_31 okK_at ⟨(Nat.le_of_ble_eq_true rfl), (Nat.le_of_ble_eq_true rfl)⟩ (Nat.le_of_ble_eq_true rfl) rfl (Nat.le_of_ble_eq_true rfl) rfl rfl (Nat.zero_le _) (Nat.zero_le _) ?_
    refine s_at k hl.2.2.2.2.2.2 rfl (by omega) (by decide) ?_
    dsimp only [pushR]
    refine x_isub cFlight_follow_52 ?_
    refine x_s2 (ls0 := [some _, some _]) cFlight_follow_53 kFlight_38 okMath_max ⟨(Nat.le_of_ble_eq_true rfl), (Nat.le_of_ble_eq_true rfl)⟩ (Nat.le_of_ble_eq_true rfl) rfl (Nat.le_of_ble_eq_true rfl) rfl rfl (Nat.zero_le _) (Nat.zero_le _) ?_
    refine s_max ?_
    dsimp only [pushR]
    refine x_iadd cFlight_follow_56 ?_
    refine x_top (fH D (k + 1)) (by rw [hy, ht]; rfl) ?_
    refine x_istore_2 cFlight_follow_57 rfl (Nat.le_of_ble_eq_true rfl) ?_
    refine x_iload_2 cFlight_follow_58 ?_
    refine x_aload_1 cFlight_follow_59 ?_
    refine x_gI cFlight_follow_60 fFlight_44 hl.1 rfl ?_
    refine x_icmp_ge cFlight_follow_63 (fun q63 => ?_) (fun q63 => ?_)
    · refine x_aload_1 cFlight_follow_73 ?_
      refine x_gI cFlight_follow_74 fFlight_50 hl.1 rfl ?_
      exact x_top _ (by rw [hhi, if_neg (by rw [← hbo]; exact Int32.not_lt.mpr q63)]) J77
    · refine x_aload_1 cFlight_follow_66 ?_
      refine x_gI cFlight_follow_67 fFlight_47 hl.1 rfl ?_
      refine x_goto cFlight_follow_70 ?_
      exact x_top _ (by rw [hlo, if_pos (by rw [← hbo]; exact Int32.not_le.mp q63)]) J77
theorem s_follow {Po : Option Value → HS → Prop} {I : IT} {J : JT} {P : PT} {ln c : Nat} (hl : isLn ln) (hln : ln < 80) (hc5 : c ≤ 5) (hc : I ln 0 = nI c) (hq : ∀ I', FlOut I I' (lnD I ln) c → Po none (hp I' J P)) : xj yFlight_follow (mG yFlight_follow Po) 0 [some (.ref 83), some (.ref ln), none, none, none, none, none, none] [] (hp I J P) 0 0 := by
  refine x_iconst 0 (by decide) cFlight_follow_0 ?_
  refine x_istore_2 cFlight_follow_1 rfl (Nat.le_of_ble_eq_true rfl) ?_
  refine x_iconst 0 (by decide) cFlight_follow_2 ?_
  refine x_istore_3 cFlight_follow_3 rfl (Nat.le_of_ble_eq_true rfl) ?_
  refine x_iconst 0 (by decide) cFlight_follow_4 ?_
  refine x_istore_4 cFlight_follow_5 rfl (Nat.le_of_ble_eq_true rfl) ?_
  refine x_aload_0 cFlight_follow_7 ?_
  refine x_aload_1 cFlight_follow_8 ?_
  refine x_gI cFlight_follow_9 fFlight_18 hl.1 rfl ?_
  refine x_pI cFlight_follow_12 fFlight_24 rfl rfl ?_
  refine x_aload_0 cFlight_follow_15 ?_
  refine x_iconst 0 (by decide) cFlight_follow_16 ?_
  refine x_pI cFlight_follow_17 fFlight_25 rfl rfl ?_
  refine x_iconst 0 (by decide) cFlight_follow_20 ?_
  refine x_istore_5 cFlight_follow_21 rfl (Nat.le_of_ble_eq_true rfl) ?_
  refine s_follow_loop (I := I) hl hln hc5 hq c 0 (by omega) _ ?_ ?_ ?_ (fun j hj => absurd hj (Nat.not_lt_zero j)) _ _
  · intro a h1 h2 h3
    rw [u2_n h1, u2_n h1]
  · rw [u2_sn (by decide), u2_ss, hc]
  · rw [u2_ss]; rfl
end
section
theorem s_Best_clear {Po : Option Value → HS → Prop} {I : IT} {J : JT} {P : PT} (hq : Po none (hp (u2 (u2 I 88 0 (-9)) 88 1 (-9)) J P)) : xj yBest_clear (mG yBest_clear Po) 0 [some (.ref 88)] [] (hp I J P) 0 0 := by
  refine x_aload_0 cBest_clear_0 ?_
  refine x_bipush (-9) (by decide) cBest_clear_1 ?_
  refine x_pI cBest_clear_3 fBest_9 rfl rfl ?_
  refine x_aload_0 cBest_clear_6 ?_
  refine x_bipush (-9) (by decide) cBest_clear_7 ?_
  refine x_pI cBest_clear_9 fBest_15 rfl rfl ?_
  refine x_return cBest_clear_12 rfl (Nat.zero_le _) (Nat.zero_le _) ?_
  exact hq
theorem s_Best_wants {Po : Option Value → HS → Prop} {I : IT} {J : JT} {P : PT} {a : Int32} (h1 : (I 88 0 = -9 ∨ a < I 88 0) → Po (some (.int 1)) (hp I J P)) (h0 : ¬ (I 88 0 = -9 ∨ a < I 88 0) → Po (some (.int 0)) (hp I J P)) : xj yBest_wants (mG yBest_wants Po) 0 [some (.ref 88), some (.int a)] [] (hp I J P) 0 0 := by
  refine x_aload_0 cBest_wants_0 ?_
  refine x_gI cBest_wants_1 fBest_9 rfl rfl ?_
  refine x_bipush (-9) (by decide) cBest_wants_4 ?_
  refine x_icmp_eq cBest_wants_6 (fun q6 => ?_) (fun q6 => ?_)
  · refine x_iconst 1 (by decide) cBest_wants_17 ?_
    refine x_goto cBest_wants_18 ?_
    refine x_ireturn cBest_wants_22 rfl rfl (Nat.zero_le _) (Nat.zero_le _) ?_
    exact h1 (Or.inl q6)
  · refine x_iload_1 cBest_wants_9 ?_
    refine x_aload_0 cBest_wants_10 ?_
    refine x_gI cBest_wants_11 fBest_9 rfl rfl ?_
    refine x_icmp_ge cBest_wants_14 (fun q14 => ?_) (fun q14 => ?_)
    · refine x_iconst 0 (by decide) cBest_wants_21 ?_
      refine x_ireturn cBest_wants_22 rfl rfl (Nat.zero_le _) (Nat.zero_le _) ?_
      exact h0 (fun z => z.elim q6 (fun w => absurd w (Int32.not_lt.mpr q14)))
    · refine x_iconst 1 (by decide) cBest_wants_17 ?_
      refine x_goto cBest_wants_18 ?_
      refine x_ireturn cBest_wants_22 rfl rfl (Nat.zero_le _) (Nat.zero_le _) ?_
      exact h1 (Or.inr (Int32.not_le.mp q14))
theorem s_Best_keepThis {Po : Option Value → HS → Prop} {I : IT} {J : JT} {P : PT} {a c : Int32} (hq : Po none (hp (u2 (u2 I 88 0 a) 88 1 c) J P)) : xj yBest_keepThis (mG yBest_keepThis Po) 0 [some (.ref 88), some (.int a), some (.int c)] [] (hp I J P) 0 0 := by
  refine x_aload_0 cBest_keepThis_0 ?_
  refine x_iload_1 cBest_keepThis_1 ?_
  refine x_pI cBest_keepThis_2 fBest_9 rfl rfl ?_
  refine x_aload_0 cBest_keepThis_5 ?_
  refine x_iload_2 cBest_keepThis_6 ?_
  refine x_pI cBest_keepThis_7 fBest_15 rfl rfl ?_
  refine x_return cBest_keepThis_10 rfl (Nat.zero_le _) (Nat.zero_le _) ?_
  exact hq
theorem s_Tally_clear {Po : Option Value → HS → Prop} {I : IT} {J : JT} {P : PT} (hq : Po none (hp (u2 (u2 I 89 0 0) 89 1 (-9)) J P)) : xj yTally_clear (mG yTally_clear Po) 0 [some (.ref 89)] [] (hp I J P) 0 0 := by
  refine x_aload_0 cTally_clear_0 ?_
  refine x_iconst 0 (by decide) cTally_clear_1 ?_
  refine x_pI cTally_clear_2 fTally_15 rfl rfl ?_
  refine x_aload_0 cTally_clear_5 ?_
  refine x_bipush (-9) (by decide) cTally_clear_6 ?_
  refine x_pI cTally_clear_8 fTally_9 rfl rfl ?_
  refine x_return cTally_clear_11 rfl (Nat.zero_le _) (Nat.zero_le _) ?_
  exact hq
theorem s_Tally_add {Po : Option Value → HS → Prop} {I : IT} {J : JT} {P : PT} {a : Int32} (hq : ∀ I2, (∀ x, x ≠ 89 → I2 x = I x) → I2 89 0 = I 89 0 + 1 → I2 89 1 = (if I 89 0 = 0 then a else I 89 1) → Po none (hp I2 J P)) : xj yTally_add (mG yTally_add Po) 0 [some (.ref 89), some (.int a)] [] (hp I J P) 0 0 := by
  refine x_aload_0 cTally_add_0 ?_
  refine x_gI cTally_add_1 fTally_15 rfl rfl ?_
  refine x_if_ne cTally_add_4 (fun q4 => ?_) (fun q4 => ?_)
  · refine x_aload_0 cTally_add_12 ?_
    refine x_dup rfl cTally_add_13 ?_
    refine x_gI cTally_add_14 fTally_15 rfl rfl ?_
    refine x_iconst 1 (by decide) cTally_add_17 ?_
    refine x_iadd cTally_add_18 ?_
    refine x_pI cTally_add_19 fTally_15 rfl rfl ?_
    refine x_return cTally_add_22 rfl (Nat.zero_le _) (Nat.zero_le _) ?_
    exact hq _ (fun x hx => by rw [u2_n hx]) (by rw [u2_ss]) (by rw [u2_sn (by decide), if_neg q4])
  · refine x_aload_0 cTally_add_7 ?_
    refine x_iload_1 cTally_add_8 ?_
    refine x_pI cTally_add_9 fTally_9 rfl rfl ?_
    refine x_aload_0 cTally_add_12 ?_
    refine x_dup rfl cTally_add_13 ?_
    refine x_gI cTally_add_14 fTally_15 rfl rfl ?_
    refine x_iconst 1 (by decide) cTally_add_17 ?_
    refine x_iadd cTally_add_18 ?_
    refine x_pI cTally_add_19 fTally_15 rfl rfl ?_
    refine x_return cTally_add_22 rfl (Nat.zero_le _) (Nat.zero_le _) ?_
    exact hq _ (fun x hx => by rw [u2_n hx, u2_n hx]) (by rw [u2_ss, u2_sn (by decide)]) (by rw [u2_sn (by decide), u2_ss, if_pos q4])
theorem s_Way_start_loop {Po : Option Value → HS → Prop} {J : JT} {P : PT} {I : IT} (hq : ∀ I2, (∀ x, x ≠ 87 → I2 x = I x) → (∀ j, j < 5 → I2 87 j = 0) → Po none (hp I2 J P)) : ∀ n k, k + n = 5 → ∀ I1, (∀ x, x ≠ 87 → I1 x = I x) → (∀ j, j < k → I1 87 j = 0) → ∀ a1 a2, xj yWay_start (mG yWay_start Po) 12 [some (.ref 86), a1, some (.int a2), some (.int (nI k))] [] (hp I1 J P) 0 0 := by
  intro n
  induction n with
  | zero =>
    intro k hk I1 hf hz a1 a2
    obtain rfl : k = 5 := by omega
    refine x_iload_3 cWay_start_12 ?_
    refine x_aload_0 cWay_start_13 ?_
    refine x_gR (b := 87) cWay_start_14 fWay_9 rfl rfl rfl ?_
    refine x_l1 (5) cWay_start_17 rfl rfl ?_
    refine x_icmp_ge cWay_start_18 (fun q18 => ?_) (fun q18 => absurd q18 (fun z => z (by decide)))
    refine x_return cWay_start_34 rfl (Nat.zero_le _) (Nat.zero_le _) ?_
    exact hq I1 hf hz
  | succ n ih =>
    intro k hk I1 hf hz a1 a2
    refine x_iload_3 cWay_start_12 ?_
    refine x_aload_0 cWay_start_13 ?_
    refine x_gR (b := 87) cWay_start_14 fWay_9 rfl rfl rfl ?_
    refine x_l1 (5) cWay_start_17 rfl rfl ?_
    refine x_icmp_ge cWay_start_18 (fun q18 => absurd q18 (nI_ge (show k < 5 by omega) (by decide))) (fun q18 => ?_)
    refine x_aload_0 cWay_start_21 ?_
    refine x_gR (b := 87) cWay_start_22 fWay_9 rfl rfl rfl ?_
    refine x_iload_3 cWay_start_25 ?_
    refine x_iconst 0 (by decide) cWay_start_26 ?_
    refine x_as (k) cWay_start_27 rfl rfl (by omega) (by decide) ?_
    refine x_iinc_3 (nI (k + 1)) cWay_start_28 rfl (nI_inc k) (Nat.le_of_ble_eq_true rfl) ?_
    refine x_goto cWay_start_31 ?_
    refine ih (k + 1) (by omega) _ (fun x hx => by rw [u2_n hx]; exact hf x hx) (fun j hj => ?_) _ _
    rw [u2_g]
    by_cases h : j = k
    · rw [if_pos ⟨rfl, h⟩]
    · rw [if_neg (fun z => h z.2)]; exact hz j (by omega)
theorem s_Way_start {Po : Option Value → HS → Prop} {I : IT} {J : JT} {P : PT} {a1 a2 : Int32} (hq : ∀ I2, (∀ x, x ≠ 86 → x ≠ 87 → I2 x = I x) → I2 86 1 = a1 → I2 86 2 = a2 → (∀ j, j < 5 → I2 87 j = 0) → Po none (hp I2 J P)) : xj yWay_start (mG yWay_start Po) 0 [some (.ref 86), some (.int a1), some (.int a2), none] [] (hp I J P) 0 0 := by
  refine x_aload_0 cWay_start_0 ?_
  refine x_iload_1 cWay_start_1 ?_
  refine x_pI cWay_start_2 fWay_15 rfl rfl ?_
  refine x_aload_0 cWay_start_5 ?_
  refine x_iload_2 cWay_start_6 ?_
  refine x_pI cWay_start_7 fWay_19 rfl rfl ?_
  refine x_iconst 0 (by decide) cWay_start_10 ?_
  refine x_istore_3 cWay_start_11 rfl (Nat.le_of_ble_eq_true rfl) ?_
  refine s_Way_start_loop (I := u2 (u2 I 86 1 a1) 86 2 a2) (fun I2 hf hz => ?_) 5 0 (by omega) _ (fun _ _ => rfl) (fun j hj => absurd hj (Nat.not_lt_zero j)) _ _
  exact hq I2 (fun x h1 h2 => by rw [hf x h2, u2_n h1, u2_n h1]) (by rw [hf 86 (by decide), u2_sn (by decide), u2_ss]) (by rw [hf 86 (by decide), u2_ss]) hz
def powI (b : Int32) : Nat → Int32
  | 0 => 1
  | k + 1 => powI b k * b
def sumI (f : Nat → Int32) : Nat → Int32
  | 0 => 0
  | k + 1 => sumI f k + f k
def numI (f : Nat → Int32) : Nat → Int32
  | 0 => 0
  | k + 1 => 10 * numI f k + f k
theorem s_Way_most_loop {Po : Option Value → HS → Prop} {I : IT} {J : JT} {P : PT} {c : Nat}  (hc : I 86 1 = nI c) (hc5 : c ≤ 5) (hq : Po (some (.int (powI (I 86 2 + 1) c))) (hp I J P)) :
    ∀ n k, k + n = c → xj yWay_most (mG yWay_most Po) 4 [some (.ref 86), some (.int (powI (I 86 2 + 1) k)), some (.int (nI k))] [] (hp I J P) 0 0 := by
  intro n
  induction n with
  | zero =>
    intro k hk
    obtain rfl : k = c := by omega
    refine x_iload_2 cWay_most_4 ?_
    refine x_aload_0 cWay_most_5 ?_
    refine x_gI cWay_most_6 fWay_15 rfl rfl ?_
    refine x_icmp_ge cWay_most_9 (fun q9 => ?_) (fun q9 => absurd q9 (fun z => z (by rw [hc]; exact Int32.le_refl _)))
    refine x_iload_1 cWay_most_27 ?_
    refine x_ireturn cWay_most_28 rfl rfl (Nat.zero_le _) (Nat.zero_le _) ?_
    exact hq
  | succ n ih =>
    intro k hk
    have hkc : k < c := by omega
    refine x_iload_2 cWay_most_4 ?_
    refine x_aload_0 cWay_most_5 ?_
    refine x_gI cWay_most_6 fWay_15 rfl rfl ?_
    refine x_icmp_ge cWay_most_9 (fun q9 => absurd q9 (by rw [hc]; exact nI_ge hkc (by omega))) (fun q9 => ?_)
    refine x_iload_1 cWay_most_12 ?_
    refine x_aload_0 cWay_most_13 ?_
    refine x_gI cWay_most_14 fWay_19 rfl rfl ?_
    refine x_iconst 1 (by decide) cWay_most_17 ?_
    refine x_iadd cWay_most_18 ?_
    refine x_imul cWay_most_19 ?_
    refine x_istore_1 cWay_most_20 rfl (Nat.le_of_ble_eq_true rfl) ?_
    refine x_iinc_2 (nI (k + 1)) cWay_most_21 rfl (nI_inc k) (Nat.le_of_ble_eq_true rfl) ?_
    refine x_goto cWay_most_24 ?_
    exact ih (k + 1) (by omega)
theorem s_Way_most {Po : Option Value → HS → Prop} {I : IT} {J : JT} {P : PT} {c : Nat} (hc : I 86 1 = nI c) (hc5 : c ≤ 5) (hq : Po (some (.int (powI (I 86 2 + 1) c))) (hp I J P)) : xj yWay_most (mG yWay_most Po) 0 [some (.ref 86), none, none] [] (hp I J P) 0 0 := by
  refine x_iconst 1 (by decide) cWay_most_0 ?_
  refine x_istore_1 cWay_most_1 rfl (Nat.le_of_ble_eq_true rfl) ?_
  refine x_iconst 0 (by decide) cWay_most_2 ?_
  refine x_istore_2 cWay_most_3 rfl (Nat.le_of_ble_eq_true rfl) ?_
  exact s_Way_most_loop hc hc5 hq c 0 (by omega)
theorem s_Way_sum_loop {Po : Option Value → HS → Prop} {I : IT} {J : JT} {P : PT} {c : Nat}  (hc : I 86 1 = nI c) (hc5 : c ≤ 5) (hq : Po (some (.int (sumI (I 87) c))) (hp I J P)) :
    ∀ n k, k + n = c → xj yWay_sum (mG yWay_sum Po) 4 [some (.ref 86), some (.int (sumI (I 87) k)), some (.int (nI k))] [] (hp I J P) 0 0 := by
  intro n
  induction n with
  | zero =>
    intro k hk
    obtain rfl : k = c := by omega
    refine x_iload_2 cWay_sum_4 ?_
    refine x_aload_0 cWay_sum_5 ?_
    refine x_gI cWay_sum_6 fWay_15 rfl rfl ?_
    refine x_icmp_ge cWay_sum_9 (fun q9 => ?_) (fun q9 => absurd q9 (fun z => z (by rw [hc]; exact Int32.le_refl _)))
    refine x_iload_1 cWay_sum_29 ?_
    refine x_ireturn cWay_sum_30 rfl rfl (Nat.zero_le _) (Nat.zero_le _) ?_
    exact hq
  | succ n ih =>
    intro k hk
    have hkc : k < c := by omega
    refine x_iload_2 cWay_sum_4 ?_
    refine x_aload_0 cWay_sum_5 ?_
    refine x_gI cWay_sum_6 fWay_15 rfl rfl ?_
    refine x_icmp_ge cWay_sum_9 (fun q9 => absurd q9 (by rw [hc]; exact nI_ge hkc (by omega))) (fun q9 => ?_)
    refine x_iload_1 cWay_sum_12 ?_
    refine x_aload_0 cWay_sum_13 ?_
    refine x_gR (b := 87) cWay_sum_14 fWay_9 rfl rfl rfl ?_
    refine x_iload_2 cWay_sum_17 ?_
    refine x_t2 (ls0 := [some _, some _]) cWay_sum_18 kWay_22 okK_at ⟨(Nat.le_of_ble_eq_true rfl), (Nat.le_of_ble_eq_true rfl)⟩ (Nat.le_of_ble_eq_true rfl) rfl (Nat.le_of_ble_eq_true rfl) rfl rfl (Nat.zero_le _) (Nat.zero_le _) ?_
    refine s_at k rfl rfl (by omega) (by decide) ?_
    dsimp only [pushR]
    refine x_iadd cWay_sum_21 ?_
    refine x_istore_1 cWay_sum_22 rfl (Nat.le_of_ble_eq_true rfl) ?_
    refine x_iinc_2 (nI (k + 1)) cWay_sum_23 rfl (nI_inc k) (Nat.le_of_ble_eq_true rfl) ?_
    refine x_goto cWay_sum_26 ?_
    exact ih (k + 1) (by omega)
theorem s_Way_sum {Po : Option Value → HS → Prop} {I : IT} {J : JT} {P : PT} {c : Nat} (hc : I 86 1 = nI c) (hc5 : c ≤ 5) (hq : Po (some (.int (sumI (I 87) c))) (hp I J P)) : xj yWay_sum (mG yWay_sum Po) 0 [some (.ref 86), none, none] [] (hp I J P) 0 0 := by
  refine x_iconst 0 (by decide) cWay_sum_0 ?_
  refine x_istore_1 cWay_sum_1 rfl (Nat.le_of_ble_eq_true rfl) ?_
  refine x_iconst 0 (by decide) cWay_sum_2 ?_
  refine x_istore_2 cWay_sum_3 rfl (Nat.le_of_ble_eq_true rfl) ?_
  exact s_Way_sum_loop hc hc5 hq c 0 (by omega)
theorem s_Way_number_loop {Po : Option Value → HS → Prop} {I : IT} {J : JT} {P : PT} {c : Nat}  (hc : I 86 1 = nI c) (hc5 : c ≤ 5) (hq : Po (some (.int (numI (I 87) c))) (hp I J P)) :
    ∀ n k, k + n = c → xj yWay_number (mG yWay_number Po) 4 [some (.ref 86), some (.int (numI (I 87) k)), some (.int (nI k))] [] (hp I J P) 0 0 := by
  intro n
  induction n with
  | zero =>
    intro k hk
    obtain rfl : k = c := by omega
    refine x_iload_2 cWay_number_4 ?_
    refine x_aload_0 cWay_number_5 ?_
    refine x_gI cWay_number_6 fWay_15 rfl rfl ?_
    refine x_icmp_ge cWay_number_9 (fun q9 => ?_) (fun q9 => absurd q9 (fun z => z (by rw [hc]; exact Int32.le_refl _)))
    refine x_iload_1 cWay_number_32 ?_
    refine x_ireturn cWay_number_33 rfl rfl (Nat.zero_le _) (Nat.zero_le _) ?_
    exact hq
  | succ n ih =>
    intro k hk
    have hkc : k < c := by omega
    refine x_iload_2 cWay_number_4 ?_
    refine x_aload_0 cWay_number_5 ?_
    refine x_gI cWay_number_6 fWay_15 rfl rfl ?_
    refine x_icmp_ge cWay_number_9 (fun q9 => absurd q9 (by rw [hc]; exact nI_ge hkc (by omega))) (fun q9 => ?_)
    refine x_bipush 10 (by decide) cWay_number_12 ?_
    refine x_iload_1 cWay_number_14 ?_
    refine x_imul cWay_number_15 ?_
    refine x_aload_0 cWay_number_16 ?_
    refine x_gR (b := 87) cWay_number_17 fWay_9 rfl rfl rfl ?_
    refine x_iload_2 cWay_number_20 ?_
    refine x_t2 (ls0 := [some _, some _]) cWay_number_21 kWay_22 okK_at ⟨(Nat.le_of_ble_eq_true rfl), (Nat.le_of_ble_eq_true rfl)⟩ (Nat.le_of_ble_eq_true rfl) rfl (Nat.le_of_ble_eq_true rfl) rfl rfl (Nat.zero_le _) (Nat.zero_le _) ?_
    refine s_at k rfl rfl (by omega) (by decide) ?_
    dsimp only [pushR]
    refine x_iadd cWay_number_24 ?_
    refine x_istore_1 cWay_number_25 rfl (Nat.le_of_ble_eq_true rfl) ?_
    refine x_iinc_2 (nI (k + 1)) cWay_number_26 rfl (nI_inc k) (Nat.le_of_ble_eq_true rfl) ?_
    refine x_goto cWay_number_29 ?_
    exact ih (k + 1) (by omega)
theorem s_Way_number {Po : Option Value → HS → Prop} {I : IT} {J : JT} {P : PT} {c : Nat} (hc : I 86 1 = nI c) (hc5 : c ≤ 5) (hq : Po (some (.int (numI (I 87) c))) (hp I J P)) : xj yWay_number (mG yWay_number Po) 0 [some (.ref 86), none, none] [] (hp I J P) 0 0 := by
  refine x_iconst 0 (by decide) cWay_number_0 ?_
  refine x_istore_1 cWay_number_1 rfl (Nat.le_of_ble_eq_true rfl) ?_
  refine x_iconst 0 (by decide) cWay_number_2 ?_
  refine x_istore_2 cWay_number_3 rfl (Nat.le_of_ble_eq_true rfl) ?_
  exact s_Way_number_loop hc hc5 hq c 0 (by omega)
end
section
theorem ix_of {i : Int32} {c : Nat} (h0 : ¬ i < 0) (h : ¬ nI c ≤ i) (hc : c < 2 ^ 31) : ∃ j, j < c ∧ i = nI j := by
  rcases pk_ix i hc with q | q | q
  · exact absurd q h0
  · exact absurd q h
  · exact q
/-- what was seen agrees with the places of a flight -/
def Agr (I : IT) (kp : Nat → Nat) (fc n : Nat) : Prop := ∀ r, r < n → kp r < fc → I 85 (kp r) = I 78 r
theorem s_agree_loop {Po : Option Value → HS → Prop} {I : IT} {J : JT} {P : PT} {c fc : Nat} {kp : Nat → Nat} (hc : I 76 2 = nI c) (hc6 : c ≤ 6) (hfc : I 83 2 = nI fc) (hf5 : fc ≤ 5) (hk : ∀ r, r < c → I 77 r = nI (kp r) ∧ kp r < 5) (h1 : Agr I kp fc c → Po (some (.int 1)) (hp I J P)) (h0 : ¬ Agr I kp fc c → Po (some (.int 0)) (hp I J P)) : ∀ n k, k + n = c → Agr I kp fc k → ∀ g3, xj ySightings_agreeWith (mG ySightings_agreeWith Po) 2 [some (.ref 76), some (.ref 83), some (.int (nI k)), g3] [] (hp I J P) 0 0 := by
  intro n
  induction n with
  | zero =>
    intro k hkc ha g3
    obtain rfl : k = c := by omega
    refine x_iload_2 cSightings_agreeWith_2 ?_
    refine x_aload_0 cSightings_agreeWith_3 ?_
    refine x_gI cSightings_agreeWith_4 fSightings_18 rfl rfl ?_
    refine x_icmp_ge cSightings_agreeWith_7 (fun q7 => ?_) (fun q7 => absurd q7 (fun z => z (by rw [hc]; exact Int32.le_refl _)))
    refine x_iconst 1 (by decide) cSightings_agreeWith_54 ?_
    refine x_ireturn cSightings_agreeWith_55 rfl rfl (Nat.zero_le _) (Nat.zero_le _) ?_
    exact h1 ha
  | succ n ih =>
    intro k hkn ha g3
    have hkc : k < c := by omega
    have hk5 := (hk k hkc).2
    refine x_iload_2 cSightings_agreeWith_2 ?_
    refine x_aload_0 cSightings_agreeWith_3 ?_
    refine x_gI cSightings_agreeWith_4 fSightings_18 rfl rfl ?_
    refine x_icmp_ge cSightings_agreeWith_7 (fun q7 => absurd q7 (by rw [hc]; exact nI_ge hkc (by omega))) (fun q7 => ?_)
    refine x_aload_0 cSightings_agreeWith_10 ?_
    refine x_gR (b := 77) cSightings_agreeWith_11 fSightings_9 rfl rfl rfl ?_
    refine x_iload_2 cSightings_agreeWith_14 ?_
    refine x_t2 (ls0 := [some _, some _]) cSightings_agreeWith_15 kSightings_26 okK_at ⟨(Nat.le_of_ble_eq_true rfl), (Nat.le_of_ble_eq_true rfl)⟩ (Nat.le_of_ble_eq_true rfl) rfl (Nat.le_of_ble_eq_true rfl) rfl rfl (Nat.zero_le _) (Nat.zero_le _) ?_
    refine s_at k rfl rfl (by omega) (by decide) ?_
    dsimp only [pushR]
    refine x_top (nI (kp k)) (hk k hkc).1 ?_
    refine x_istore_3 cSightings_agreeWith_18 rfl (Nat.le_of_ble_eq_true rfl) ?_
    refine x_iload_3 cSightings_agreeWith_19 ?_
    refine x_aload_1 cSightings_agreeWith_20 ?_
    refine x_gI cSightings_agreeWith_21 fSightings_30 rfl rfl ?_
    refine x_icmp_ge cSightings_agreeWith_24 (fun q24 => ?_) (fun q24 => ?_)
    · refine x_iinc_2 (nI (k + 1)) cSightings_agreeWith_48 rfl (nI_inc k) (Nat.le_of_ble_eq_true rfl) ?_
      refine x_goto cSightings_agreeWith_51 ?_
      exact ih (k + 1) (by omega) (fun r hr hf => by
        by_cases h : r < k
        · exact ha r h hf
        · obtain rfl : r = k := by omega
          exact absurd hf (Nat.not_lt.mpr (by rw [hfc] at q24; exact (nI_leI (by omega) (by omega)).mp q24))) _
    · refine x_aload_1 cSightings_agreeWith_27 ?_
      refine x_gR (b := 85) cSightings_agreeWith_28 fSightings_33 rfl rfl rfl ?_
      refine x_iload_3 cSightings_agreeWith_31 ?_
      refine x_t2 (ls0 := [some _, some _]) cSightings_agreeWith_32 kSightings_26 okK_at ⟨(Nat.le_of_ble_eq_true rfl), (Nat.le_of_ble_eq_true rfl)⟩ (Nat.le_of_ble_eq_true rfl) rfl (Nat.le_of_ble_eq_true rfl) rfl rfl (Nat.zero_le _) (Nat.zero_le _) ?_
      refine s_at (kp k) rfl rfl hk5 (by decide) ?_
      dsimp only [pushR]
      refine x_aload_0 cSightings_agreeWith_35 ?_
      refine x_gR (b := 78) cSightings_agreeWith_36 fSightings_15 rfl rfl rfl ?_
      refine x_iload_2 cSightings_agreeWith_39 ?_
      refine x_t2 (ls0 := [some _, some _]) cSightings_agreeWith_40 kSightings_26 okK_at ⟨(Nat.le_of_ble_eq_true rfl), (Nat.le_of_ble_eq_true rfl)⟩ (Nat.le_of_ble_eq_true rfl) rfl (Nat.le_of_ble_eq_true rfl) rfl rfl (Nat.zero_le _) (Nat.zero_le _) ?_
      refine s_at k rfl rfl (by omega) (by decide) ?_
      dsimp only [pushR]
      refine x_icmp_eq cSightings_agreeWith_43 (fun q43 => ?_) (fun q43 => ?_)
      · refine x_iinc_2 (nI (k + 1)) cSightings_agreeWith_48 rfl (nI_inc k) (Nat.le_of_ble_eq_true rfl) ?_
        refine x_goto cSightings_agreeWith_51 ?_
        exact ih (k + 1) (by omega) (fun r hr hf => by
          by_cases h : r < k
          · exact ha r h hf
          · obtain rfl : r = k := by omega
            exact q43) _
      · refine x_iconst 0 (by decide) cSightings_agreeWith_46 ?_
        refine x_ireturn cSightings_agreeWith_47 rfl rfl (Nat.zero_le _) (Nat.zero_le _) ?_
        exact h0 (fun z => q43 (z k hkc (by rw [hfc] at q24; exact (nI_ltI (by omega) (by omega)).mp (Int32.not_le.mp q24))))
theorem s_agree {Po : Option Value → HS → Prop} {I : IT} {J : JT} {P : PT} {c fc : Nat} {kp : Nat → Nat} (hc : I 76 2 = nI c) (hc6 : c ≤ 6) (hfc : I 83 2 = nI fc) (hf5 : fc ≤ 5) (hk : ∀ r, r < c → I 77 r = nI (kp r) ∧ kp r < 5) (h1 : Agr I kp fc c → Po (some (.int 1)) (hp I J P)) (h0 : ¬ Agr I kp fc c → Po (some (.int 0)) (hp I J P)) : xj ySightings_agreeWith (mG ySightings_agreeWith Po) 0 [some (.ref 76), some (.ref 83), none, none] [] (hp I J P) 0 0 := by
  refine x_iconst 0 (by decide) cSightings_agreeWith_0 ?_
  refine x_istore_2 cSightings_agreeWith_1 rfl (Nat.le_of_ble_eq_true rfl) ?_
  exact s_agree_loop hc hc6 hfc hf5 hk h1 h0 c 0 (by omega) (fun r hr => absurd hr (Nat.not_lt_zero r)) _
theorem s_has {Po : Option Value → HS → Prop} {I : IT} {J : JT} {P : PT} {ln c : Nat} {i : Int32} (hl : isLn ln) (hc : I ln 0 = nI c) (hc5 : c ≤ 5) (h1 : ∀ j, j < c → i = nI j → Po (some (.int 1)) (hp I J P)) (h0 : (¬ ∃ j, j < c ∧ i = nI j) → Po (some (.int 0)) (hp I J P)) : xj yLine_has (mG yLine_has Po) 0 [some (.ref ln), some (.int i)] [] (hp I J P) 0 0 := by
  refine x_iload_1 cLine_has_0 ?_
  refine x_if_lt cLine_has_1 (fun q1 => ?_) (fun q1 => ?_)
  · refine x_iconst 0 (by decide) cLine_has_16 ?_
    refine x_ireturn cLine_has_17 rfl rfl (Nat.zero_le _) (Nat.zero_le _) ?_
    exact h0 (fun ⟨j, hj, e⟩ => nI_pos (n := j) (by omega) (by rw [← e]; exact q1))
  · refine x_iload_1 cLine_has_4 ?_
    refine x_aload_0 cLine_has_5 ?_
    refine x_gI cLine_has_6 fLine_25 hl.1 rfl ?_
    refine x_icmp_ge cLine_has_9 (fun q9 => ?_) (fun q9 => ?_)
    · refine x_iconst 0 (by decide) cLine_has_16 ?_
      refine x_ireturn cLine_has_17 rfl rfl (Nat.zero_le _) (Nat.zero_le _) ?_
      exact h0 (fun ⟨j, hj, e⟩ => nI_ge hj (by omega) (by rw [← e, ← hc]; exact q9))
    · refine x_iconst 1 (by decide) cLine_has_12 ?_
      refine x_goto cLine_has_13 ?_
      refine x_ireturn cLine_has_17 rfl rfl (Nat.zero_le _) (Nat.zero_le _) ?_
      rw [hc] at q9
      obtain ⟨j, hj, e⟩ := ix_of q1 q9 (by omega)
      exact h1 j hj e
theorem s_yardsFrom_loop {Po : Option Value → HS → Prop} {I : IT} {J : JT} {P : PT} {ln c i0 : Nat} (hl : isLn ln) (hc : I ln 0 = nI c) (hc5 : c ≤ 5) (hq : Po (some (.int (sumI (fun j => I (ln + 1) (i0 + j)) (c - i0)))) (hp I J P)) : ∀ n m, i0 + m + n = c → ∀ g1, xj yLine_yardsFrom (mG yLine_yardsFrom Po) 8 [some (.ref ln), some (.int g1), some (.int (sumI (fun j => I (ln + 1) (i0 + j)) m)), some (.int (nI (i0 + m)))] [] (hp I J P) 0 0 := by
  intro n
  induction n with
  | zero =>
    intro m hm g1
    obtain rfl : m = c - i0 := by omega
    rw [show i0 + (c - i0) = c by omega]
    refine x_iload_3 cLine_yardsFrom_8 ?_
    refine x_aload_0 cLine_yardsFrom_9 ?_
    refine x_gI cLine_yardsFrom_10 fLine_25 hl.1 rfl ?_
    refine x_icmp_ge cLine_yardsFrom_13 (fun q13 => ?_) (fun q13 => absurd q13 (fun z => z (by rw [hc]; exact Int32.le_refl _)))
    refine x_iload_2 cLine_yardsFrom_33 ?_
    refine x_ireturn cLine_yardsFrom_34 rfl rfl (Nat.zero_le _) (Nat.zero_le _) ?_
    exact hq
  | succ n ih =>
    intro m hm g1
    refine x_iload_3 cLine_yardsFrom_8 ?_
    refine x_aload_0 cLine_yardsFrom_9 ?_
    refine x_gI cLine_yardsFrom_10 fLine_25 hl.1 rfl ?_
    refine x_icmp_ge cLine_yardsFrom_13 (fun q13 => absurd q13 (by rw [hc]; exact nI_ge (by omega) (by omega))) (fun q13 => ?_)
    refine x_iload_2 cLine_yardsFrom_16 ?_
    refine x_aload_0 cLine_yardsFrom_17 ?_
    refine x_gR (b := ln + 1) cLine_yardsFrom_18 fLine_15 hl.1 rfl hl.2.1 ?_
    refine x_iload_3 cLine_yardsFrom_21 ?_
    refine x_t2 (ls0 := [some _, some _]) cLine_yardsFrom_22 kLine_34 okK_at ⟨(Nat.le_of_ble_eq_true rfl), (Nat.le_of_ble_eq_true rfl)⟩ (Nat.le_of_ble_eq_true rfl) rfl (Nat.le_of_ble_eq_true rfl) rfl rfl (Nat.zero_le _) (Nat.zero_le _) ?_
    refine s_at (i0 + m) hl.2.2.2.2.1 rfl (by omega) (by decide) ?_
    dsimp only [pushR]
    refine x_iadd cLine_yardsFrom_25 ?_
    refine x_istore_2 cLine_yardsFrom_26 rfl (Nat.le_of_ble_eq_true rfl) ?_
    refine x_iinc_3 (nI (i0 + (m + 1))) cLine_yardsFrom_27 rfl (nI_1 (i0 + m)) (Nat.le_of_ble_eq_true rfl) ?_
    refine x_goto cLine_yardsFrom_30 ?_
    exact ih (m + 1) (by omega) _
theorem s_yardsFrom {Po : Option Value → HS → Prop} {I : IT} {J : JT} {P : PT} {ln c i0 : Nat} (hl : isLn ln) (hc : I ln 0 = nI c) (hc5 : c ≤ 5) (hi : i0 ≤ c) (hq : Po (some (.int (sumI (fun j => I (ln + 1) (i0 + j)) (c - i0)))) (hp I J P)) : xj yLine_yardsFrom (mG yLine_yardsFrom Po) 0 [some (.ref ln), some (.int (nI i0)), none, none] [] (hp I J P) 0 0 := by
  refine x_iconst 0 (by decide) cLine_yardsFrom_0 ?_
  refine x_istore_2 cLine_yardsFrom_1 rfl (Nat.le_of_ble_eq_true rfl) ?_
  refine x_iconst 0 (by decide) cLine_yardsFrom_2 ?_
  refine x_iload_1 cLine_yardsFrom_3 ?_
  refine x_s2 (ls0 := [some _, some _]) cLine_yardsFrom_4 kLine_28 okMath_max ⟨(Nat.le_of_ble_eq_true rfl), (Nat.le_of_ble_eq_true rfl)⟩ (Nat.le_of_ble_eq_true rfl) rfl (Nat.le_of_ble_eq_true rfl) rfl rfl (Nat.zero_le _) (Nat.zero_le _) ?_
  refine s_max ?_
  dsimp only [pushR]
  refine x_top (nI (i0 + 0)) (by
    by_cases h : 0 < i0
    · rw [if_pos (show (0 : Int32) < nI i0 from nI_lt (a := 0) h (by omega))]; rfl
    · obtain rfl : i0 = 0 := by omega
      rfl) ?_
  refine x_istore_3 cLine_yardsFrom_7 rfl (Nat.le_of_ble_eq_true rfl) ?_
  exact s_yardsFrom_loop hl hc hc5 hq (c - i0) 0 (by omega) _
theorem s_tugsMore_loop {Po : Option Value → HS → Prop} {I : IT} {J : JT} {P : PT} {c : Nat} {ln : Nat} (hl : isLn ln) (hc : I ln 0 = nI c) (hc5 : c ≤ 5) (hq : Po (some (.int (sumI (fun j => I (ln + 2) j + 2) c))) (hp I J P)) :
    ∀ n k, k + n = c → xj yLine_tugsMore (mG yLine_tugsMore Po) 4 [some (.ref ln), some (.int (sumI (fun j => I (ln + 2) j + 2) k)), some (.int (nI k))] [] (hp I J P) 0 0 := by
  intro n
  induction n with
  | zero =>
    intro k hk
    obtain rfl : k = c := by omega
    refine x_iload_2 cLine_tugsMore_4 ?_
    refine x_aload_0 cLine_tugsMore_5 ?_
    refine x_gI cLine_tugsMore_6 fLine_25 hl.1 rfl ?_
    refine x_icmp_ge cLine_tugsMore_9 (fun q9 => ?_) (fun q9 => absurd q9 (fun z => z (by rw [hc]; exact Int32.le_refl _)))
    refine x_iload_1 cLine_tugsMore_31 ?_
    refine x_ireturn cLine_tugsMore_32 rfl rfl (Nat.zero_le _) (Nat.zero_le _) ?_
    exact hq
  | succ n ih =>
    intro k hk
    have hkc : k < c := by omega
    refine x_iload_2 cLine_tugsMore_4 ?_
    refine x_aload_0 cLine_tugsMore_5 ?_
    refine x_gI cLine_tugsMore_6 fLine_25 hl.1 rfl ?_
    refine x_icmp_ge cLine_tugsMore_9 (fun q9 => absurd q9 (by rw [hc]; exact nI_ge hkc (by omega))) (fun q9 => ?_)
    refine x_iload_1 cLine_tugsMore_12 ?_
    refine x_aload_0 cLine_tugsMore_13 ?_
    refine x_gR (b := ln + 2) cLine_tugsMore_14 fLine_19 hl.1 rfl hl.2.2.1 ?_
    refine x_iload_2 cLine_tugsMore_17 ?_
    refine x_t2 (ls0 := [some _, some _]) cLine_tugsMore_18 kLine_34 okK_at ⟨(Nat.le_of_ble_eq_true rfl), (Nat.le_of_ble_eq_true rfl)⟩ (Nat.le_of_ble_eq_true rfl) rfl (Nat.le_of_ble_eq_true rfl) rfl rfl (Nat.zero_le _) (Nat.zero_le _) ?_
    refine s_at k hl.2.2.2.2.2.1 rfl (by omega) (by decide) ?_
    dsimp only [pushR]
    refine x_iconst 2 (by decide) cLine_tugsMore_21 ?_
    refine x_iadd cLine_tugsMore_22 ?_
    refine x_iadd cLine_tugsMore_23 ?_
    refine x_istore_1 cLine_tugsMore_24 rfl (Nat.le_of_ble_eq_true rfl) ?_
    refine x_iinc_2 (nI (k + 1)) cLine_tugsMore_25 rfl (nI_inc k) (Nat.le_of_ble_eq_true rfl) ?_
    refine x_goto cLine_tugsMore_28 ?_
    exact ih (k + 1) (by omega)
theorem s_tugsMore {Po : Option Value → HS → Prop} {I : IT} {J : JT} {P : PT} {ln c : Nat} (hl : isLn ln) (hc : I ln 0 = nI c) (hc5 : c ≤ 5) (hq : Po (some (.int (sumI (fun j => I (ln + 2) j + 2) c))) (hp I J P)) : xj yLine_tugsMore (mG yLine_tugsMore Po) 0 [some (.ref ln), none, none] [] (hp I J P) 0 0 := by
  refine x_iconst 0 (by decide) cLine_tugsMore_0 ?_
  refine x_istore_1 cLine_tugsMore_1 rfl (Nat.le_of_ble_eq_true rfl) ?_
  refine x_iconst 0 (by decide) cLine_tugsMore_2 ?_
  refine x_istore_2 cLine_tugsMore_3 rfl (Nat.le_of_ble_eq_true rfl) ?_
  exact s_tugsMore_loop hl hc hc5 hq c 0 (by omega)
/-- how many of the first k are picked -/
def sel (m : Nat) : Nat → Nat
  | 0 => 0
  | k + 1 => if m.testBit k then sel m k + 1 else sel m k
theorem sel_le (m : Nat) : ∀ k, sel m k ≤ k
  | 0 => Nat.le_refl 0
  | k + 1 => by
    have := sel_le m k
    simp only [sel]
    split <;> omega
theorem sel_31 : ∀ k, k ≤ 5 → sel 31 k = k := by decide +kernel
theorem bit31 : ∀ k, k < 5 → Nat.testBit 31 k = true := by decide +kernel
theorem bitI : ∀ m, m < 32 → ∀ k, k < 5 → ((((nI m) >>> (nI k &&& 31)) &&& 1 = (1 : Int32)) ↔ m.testBit k = true) := by decide +kernel
theorem sel_mono (m : Nat) : ∀ k c, k < c → m.testBit k = true → sel m k < sel m c := by
  intro k c hkc hb
  induction c with
  | zero => omega
  | succ c ih =>
    simp only [sel]
    by_cases h : k = c
    · subst h; rw [if_pos hb]; omega
    · have := ih (by omega)
      split <;> omega
theorem sel_surj (m : Nat) : ∀ c j, j < sel m c → ∃ k, k < c ∧ m.testBit k = true ∧ sel m k = j := by
  intro c
  induction c with
  | zero => intro j hj; simp [sel] at hj
  | succ c ih =>
    intro j hj
    simp only [sel] at hj
    by_cases hb : m.testBit c = true
    · rw [if_pos hb] at hj
      by_cases h : j = sel m c
      · exact ⟨c, by omega, hb, h.symm⟩
      · obtain ⟨k, h1, h2, h3⟩ := ih j (by omega)
        exact ⟨k, by omega, h2, h3⟩
    · rw [if_neg hb] at hj
      obtain ⟨k, h1, h2, h3⟩ := ih j hj
      exact ⟨k, by omega, h2, h3⟩
/-- what Line.takeSome leaves -/
def TkOut (I I' : IT) (A B m c : Nat) : Prop := (∀ a, a ≠ A → a ≠ A + 1 → a ≠ A + 2 → a ≠ A + 3 → I' a = I a) ∧ I' A 0 = nI (sel m c) ∧ (∀ j, 1 ≤ j → j ≤ 4 → I' A j = I B j) ∧ ∀ k, k < c → m.testBit k = true → I' (A + 1) (sel m k) = I (B + 1) k ∧ I' (A + 2) (sel m k) = I (B + 2) k ∧ I' (A + 3) (sel m k) = I (B + 3) k
theorem s_takeSome_loop {Po : Option Value → HS → Prop} {I : IT} {J : JT} {P : PT} {A B m c : Nat} (hA : isLn A) (hB : isLn B) (hd : A + 3 < B ∨ B + 3 < A) (hm : m < 32) (hc : I B 0 = nI c) (hc5 : c ≤ 5) (hq : ∀ I', TkOut I I' A B m c → Po none (hp I' J P)) : ∀ n k, k + n = c → ∀ I', (∀ a, a ≠ A → a ≠ A + 1 → a ≠ A + 2 → a ≠ A + 3 → I' a = I a) → (∀ j, 1 ≤ j → j ≤ 4 → I' A j = I B j) → (∀ i, i < k → m.testBit i = true → I' (A + 1) (sel m i) = I (B + 1) i ∧ I' (A + 2) (sel m i) = I (B + 2) i ∧ I' (A + 3) (sel m i) = I (B + 3) i) → xj yLine_takeSome (mG yLine_takeSome Po) 37 [some (.ref A), some (.ref B), some (.int (nI m)), some (.int (nI (sel m k))), some (.int (nI k))] [] (hp I' J P) 0 0 := by
  intro n
  induction n with
  | zero =>
    intro k hk I' hf hj hs
    obtain rfl : k = c := by omega
    have hBI : ∀ j, j < 4 → I' (B + j) = I (B + j) := fun j _ => hf _ (by omega) (by omega) (by omega) (by omega)
    refine x_iload_4 cLine_takeSome_37 ?_
    refine x_aload_1 cLine_takeSome_39 ?_
    refine x_gI cLine_takeSome_40 fLine_25 hB.1 rfl ?_
    refine x_icmp_ge cLine_takeSome_43 (fun q43 => ?_) (fun q43 => absurd q43 (fun z => z (by rw [show I' B = I B from hBI 0 (by omega), hc]; exact Int32.le_refl _)))
    refine x_aload_0 cLine_takeSome_116 ?_
    refine x_iload_3 cLine_takeSome_117 ?_
    refine x_pI cLine_takeSome_118 fLine_25 hA.1 rfl ?_
    refine x_return cLine_takeSome_121 rfl (Nat.zero_le _) (Nat.zero_le _) ?_
    refine hq _ ⟨fun a h1 h2 h3 h4 => by rw [u2_n h1]; exact hf a h1 h2 h3 h4, by rw [u2_ss], fun j h1 h2 => by rw [u2_sn (by omega)]; exact hj j h1 h2, fun i hi hb => ?_⟩
    rw [u2_n (by omega), u2_n (by omega), u2_n (by omega)]
    exact hs i hi hb
  | succ n ih =>
    intro k hk I' hf hj hs
    have hkc : k < c := by omega
    have hsk := sel_le m k
    have hBI : ∀ j, j < 4 → I' (B + j) = I (B + j) := fun j _ => hf _ (by omega) (by omega) (by omega) (by omega)
    have hb0 := hBI 0 (by omega)
    have hb1 := hBI 1 (by omega)
    have hb2 := hBI 2 (by omega)
    have hb3 := hBI 3 (by omega)
    rw [Nat.add_zero] at hb0
    refine x_iload_4 cLine_takeSome_37 ?_
    refine x_aload_1 cLine_takeSome_39 ?_
    refine x_gI cLine_takeSome_40 fLine_25 hB.1 rfl ?_
    refine x_icmp_ge cLine_takeSome_43 (fun q43 => absurd q43 (by rw [hb0, hc]; exact nI_ge hkc (by omega))) (fun q43 => ?_)
    refine x_iload_2 cLine_takeSome_46 ?_
    refine x_iload_4 cLine_takeSome_47 ?_
    refine x_ishr cLine_takeSome_49 ?_
    refine x_iconst 1 (by decide) cLine_takeSome_50 ?_
    refine x_iand cLine_takeSome_51 ?_
    refine x_iconst 1 (by decide) cLine_takeSome_52 ?_
    refine x_icmp_ne cLine_takeSome_53 (fun q53 => ?_) (fun q53 => ?_)
    · refine x_iinc_4 (nI (k + 1)) cLine_takeSome_110 rfl (nI_inc k) (Nat.le_of_ble_eq_true rfl) ?_
      refine x_goto cLine_takeSome_113 ?_
      have hbf : ¬ m.testBit k = true := fun z => q53 ((bitI m hm k (by omega)).mpr z)
      have e : sel m (k + 1) = sel m k := by simp only [sel]; rw [if_neg hbf]
      rw [← e]
      refine ih (k + 1) (by omega) I' hf hj (fun i hi hb => ?_)
      exact hs i (by rcases Nat.lt_or_eq_of_le (Nat.le_of_lt_succ hi) with q | q; exact q; subst q; exact absurd hb hbf) hb
    · refine x_aload_0 cLine_takeSome_56 ?_
      refine x_gR (b := A + 1) cLine_takeSome_57 fLine_15 hA.1 rfl hA.2.1 ?_
      refine x_iload_3 cLine_takeSome_60 ?_
      refine x_aload_1 cLine_takeSome_61 ?_
      refine x_gR (b := B + 1) cLine_takeSome_62 fLine_15 hB.1 rfl hB.2.1 ?_
      refine x_iload_4 cLine_takeSome_65 ?_
      refine x_t2 (ls0 := [some _, some _]) cLine_takeSome_67 kLine_34 okK_at ⟨(Nat.le_of_ble_eq_true rfl), (Nat.le_of_ble_eq_true rfl)⟩ (Nat.le_of_ble_eq_true rfl) rfl (Nat.le_of_ble_eq_true rfl) rfl rfl (Nat.zero_le _) (Nat.zero_le _) ?_
      refine s_at k hB.2.2.2.2.1 rfl (by omega) (by decide) ?_
      dsimp only [pushR]
      rw [hb1]
      refine x_t3 (ls0 := [some _, some _, some _]) cLine_takeSome_70 kLine_51 okK_put ⟨(Nat.le_of_ble_eq_true rfl), (Nat.le_of_ble_eq_true rfl)⟩ (Nat.le_of_ble_eq_true rfl) rfl (Nat.le_of_ble_eq_true rfl) rfl rfl (Nat.zero_le _) (Nat.zero_le _) ?_
      refine s_put (sel m k) hA.2.2.2.2.1 rfl (by omega) (by decide) ?_
      dsimp only [pushR]
      refine x_aload_0 cLine_takeSome_73 ?_
      refine x_gR (b := A + 2) cLine_takeSome_74 fLine_19 hA.1 rfl hA.2.2.1 ?_
      refine x_iload_3 cLine_takeSome_77 ?_
      refine x_aload_1 cLine_takeSome_78 ?_
      refine x_gR (b := B + 2) cLine_takeSome_79 fLine_19 hB.1 rfl hB.2.2.1 ?_
      refine x_iload_4 cLine_takeSome_82 ?_
      refine x_t2 (ls0 := [some _, some _]) cLine_takeSome_84 kLine_34 okK_at ⟨(Nat.le_of_ble_eq_true rfl), (Nat.le_of_ble_eq_true rfl)⟩ (Nat.le_of_ble_eq_true rfl) rfl (Nat.le_of_ble_eq_true rfl) rfl rfl (Nat.zero_le _) (Nat.zero_le _) ?_
      refine s_at k hB.2.2.2.2.2.1 rfl (by omega) (by decide) ?_
      dsimp only [pushR]
      rw [u2_n (show B + 2 ≠ A + 1 by omega), hb2]
      refine x_t3 (ls0 := [some _, some _, some _]) cLine_takeSome_87 kLine_51 okK_put ⟨(Nat.le_of_ble_eq_true rfl), (Nat.le_of_ble_eq_true rfl)⟩ (Nat.le_of_ble_eq_true rfl) rfl (Nat.le_of_ble_eq_true rfl) rfl rfl (Nat.zero_le _) (Nat.zero_le _) ?_
      refine s_put (sel m k) hA.2.2.2.2.2.1 rfl (by omega) (by decide) ?_
      dsimp only [pushR]
      refine x_aload_0 cLine_takeSome_90 ?_
      refine x_gR (b := A + 3) cLine_takeSome_91 fLine_22 hA.1 rfl hA.2.2.2.1 ?_
      refine x_iload_3 cLine_takeSome_94 ?_
      refine x_aload_1 cLine_takeSome_95 ?_
      refine x_gR (b := B + 3) cLine_takeSome_96 fLine_22 hB.1 rfl hB.2.2.2.1 ?_
      refine x_iload_4 cLine_takeSome_99 ?_
      refine x_t2 (ls0 := [some _, some _]) cLine_takeSome_101 kLine_34 okK_at ⟨(Nat.le_of_ble_eq_true rfl), (Nat.le_of_ble_eq_true rfl)⟩ (Nat.le_of_ble_eq_true rfl) rfl (Nat.le_of_ble_eq_true rfl) rfl rfl (Nat.zero_le _) (Nat.zero_le _) ?_
      refine s_at k hB.2.2.2.2.2.2 rfl (by omega) (by decide) ?_
      dsimp only [pushR]
      rw [u2_n (show B + 3 ≠ A + 2 by omega), u2_n (show B + 3 ≠ A + 1 by omega), hb3]
      refine x_t3 (ls0 := [some _, some _, some _]) cLine_takeSome_104 kLine_51 okK_put ⟨(Nat.le_of_ble_eq_true rfl), (Nat.le_of_ble_eq_true rfl)⟩ (Nat.le_of_ble_eq_true rfl) rfl (Nat.le_of_ble_eq_true rfl) rfl rfl (Nat.zero_le _) (Nat.zero_le _) ?_
      refine s_put (sel m k) hA.2.2.2.2.2.2 rfl (by omega) (by decide) ?_
      dsimp only [pushR]
      refine x_iinc_3 (nI (sel m k + 1)) cLine_takeSome_107 rfl (nI_inc (sel m k)) (Nat.le_of_ble_eq_true rfl) ?_
      refine x_iinc_4 (nI (k + 1)) cLine_takeSome_110 rfl (nI_inc k) (Nat.le_of_ble_eq_true rfl) ?_
      refine x_goto cLine_takeSome_113 ?_
      have hbt : m.testBit k = true := (bitI m hm k (by omega)).mp q53
      have e : sel m (k + 1) = sel m k + 1 := by simp only [sel]; rw [if_pos hbt]
      rw [← e]
      refine ih (k + 1) (by omega) _ (fun a h1 h2 h3 h4 => by rw [u2_n h4, u2_n h3, u2_n h2]; exact hf a h1 h2 h3 h4) (fun j h1 h2 => by rw [u2_n (by omega), u2_n (by omega), u2_n (by omega)]; exact hj j h1 h2) (fun i hi hb => ?_)
      rw [u2_n (show A + 1 ≠ A + 3 by omega), u2_n (show A + 1 ≠ A + 2 by omega), u2_n (show A + 2 ≠ A + 3 by omega), u2_g, u2_g, u2_n (show A + 2 ≠ A + 1 by omega), u2_g, u2_n (show A + 3 ≠ A + 2 by omega), u2_n (show A + 3 ≠ A + 1 by omega)]
      by_cases h : i = k
      · subst h
        simp
      · have h1 := sel_mono m i k (by omega) hb
        rw [if_neg (fun z => absurd z.2 (by omega)), if_neg (fun z => absurd z.2 (by omega)), if_neg (fun z => absurd z.2 (by omega))]
        exact hs i (by omega) hb
theorem s_takeSome {Po : Option Value → HS → Prop} {I : IT} {J : JT} {P : PT} {A B m c : Nat} (hA : isLn A) (hB : isLn B) (hd : A + 3 < B ∨ B + 3 < A) (hm : m < 32) (hc : I B 0 = nI c) (hc5 : c ≤ 5) (hq : ∀ I', TkOut I I' A B m c → Po none (hp I' J P)) : xj yLine_takeSome (mG yLine_takeSome Po) 0 [some (.ref A), some (.ref B), some (.int (nI m)), none, none] [] (hp I J P) 0 0 := by
  refine x_aload_0 cLine_takeSome_0 ?_
  refine x_aload_1 cLine_takeSome_1 ?_
  refine x_gI cLine_takeSome_2 fLine_42 hB.1 rfl ?_
  refine x_pI cLine_takeSome_5 fLine_42 hA.1 rfl ?_
  refine x_aload_0 cLine_takeSome_8 ?_
  refine x_aload_1 cLine_takeSome_9 ?_
  refine x_gI cLine_takeSome_10 fLine_45 hB.1 rfl ?_
  refine x_pI cLine_takeSome_13 fLine_45 hA.1 rfl ?_
  refine x_aload_0 cLine_takeSome_16 ?_
  refine x_aload_1 cLine_takeSome_17 ?_
  refine x_gI cLine_takeSome_18 fLine_48 hB.1 rfl ?_
  refine x_pI cLine_takeSome_21 fLine_48 hA.1 rfl ?_
  refine x_aload_0 cLine_takeSome_24 ?_
  refine x_aload_1 cLine_takeSome_25 ?_
  refine x_gI cLine_takeSome_26 fLine_9 hB.1 rfl ?_
  refine x_pI cLine_takeSome_29 fLine_9 hA.1 rfl ?_
  refine x_iconst 0 (by decide) cLine_takeSome_32 ?_
  refine x_istore_3 cLine_takeSome_33 rfl (Nat.le_of_ble_eq_true rfl) ?_
  refine x_iconst 0 (by decide) cLine_takeSome_34 ?_
  refine x_istore_4 cLine_takeSome_35 rfl (Nat.le_of_ble_eq_true rfl) ?_
  have hBA : B ≠ A := by omega
  refine s_takeSome_loop (I := I) hA hB hd hm hc hc5 hq c 0 (by omega) _ (fun a h1 _ _ _ => by rw [u2_n h1, u2_n h1, u2_n h1, u2_n h1]) (fun j h1 h2 => ?_) (fun i hi => absurd hi (Nat.not_lt_zero i))
  rcases (show j = 1 ∨ j = 2 ∨ j = 3 ∨ j = 4 by omega) with rfl | rfl | rfl | rfl <;> simp [u2_g, hBA]
/-- what Line.take leaves: a line copied -/
def CpOut (I I' : IT) (A B c : Nat) : Prop := (∀ a, a ≠ A → a ≠ A + 1 → a ≠ A + 2 → a ≠ A + 3 → I' a = I a) ∧ I' A 0 = nI c ∧ (∀ j, 1 ≤ j → j ≤ 4 → I' A j = I B j) ∧ ∀ k, k < c → I' (A + 1) k = I (B + 1) k ∧ I' (A + 2) k = I (B + 2) k ∧ I' (A + 3) k = I (B + 3) k
theorem s_take {Po : Option Value → HS → Prop} {I : IT} {J : JT} {P : PT} {A B c : Nat} (hA : isLn A) (hB : isLn B) (hd : A + 3 < B ∨ B + 3 < A) (hc : I B 0 = nI c) (hc5 : c ≤ 5) (hq : ∀ I', CpOut I I' A B c → Po none (hp I' J P)) : xj yLine_take (mG yLine_take Po) 0 [some (.ref A), some (.ref B)] [] (hp I J P) 0 0 := by
  refine x_aload_0 cLine_take_0 ?_
  refine x_aload_1 cLine_take_1 ?_
  refine x_bipush 31 (by decide) cLine_take_2 ?_
  refine x_v2 (ls0 := [some _, some _, some _, none, none]) cLine_take_4 kLine_38 okLine_takeSome ⟨(Nat.le_of_ble_eq_true rfl), (Nat.le_of_ble_eq_true rfl)⟩ (Nat.le_of_ble_eq_true rfl) rfl (Nat.le_of_ble_eq_true rfl) hA.1 ⟨_, rfl, rfl⟩ rfl rfl (Nat.zero_le _) (Nat.zero_le _) ?_
  refine s_takeSome (m := 31) hA hB hd (by decide) hc hc5 (fun I' hT => ?_)
  obtain ⟨t1, t2, t3, t4⟩ := hT
  dsimp only [pushR]
  refine x_return cLine_take_7 rfl (Nat.zero_le _) (Nat.zero_le _) ?_
  refine hq I' ⟨t1, by rw [t2, sel_31 c hc5], t3, fun k hk => ?_⟩
  have := t4 k hk (bit31 k (by omega))
  rw [sel_31 k (by omega)] at this
  exact this
end
section
theorem nI_m1 {c : Nat} (h : 0 < c) : nI c - 1 = nI (c - 1) := by
  obtain ⟨d, rfl⟩ : ∃ d, c = d + 1 := ⟨c - 1, by omega⟩
  exact nI_pred d
theorem nI_dec (n : Nat) : nI n + Int32.ofInt (-1) = nI n - 1 := by rw [Int32.sub_eq_add_neg]; rfl
theorem s_sight {Po : Option Value → HS → Prop} {I : IT} {J : JT} {P : PT} {c : Nat} (hc : I 83 2 = nI c) (hc0 : 0 < c) (hc5 : c ≤ 5) (hq : Po (some (.int (I 84 (c - 1) / 4))) (hp I J P)) : xj yFlight_sight (mG yFlight_sight Po) 0 [some (.ref 83)] [] (hp I J P) 0 0 := by
  refine x_aload_0 cFlight_sight_0 ?_
  refine x_gR (b := 84) cFlight_sight_1 fFlight_9 rfl rfl rfl ?_
  refine x_aload_0 cFlight_sight_4 ?_
  refine x_gI cFlight_sight_5 fFlight_24 rfl rfl ?_
  refine x_iconst 1 (by decide) cFlight_sight_8 ?_
  refine x_isub cFlight_sight_9 ?_
  refine x_t2 (ls0 := [some _, some _]) cFlight_sight_10 kFlight_31 okK_at ⟨(Nat.le_of_ble_eq_true rfl), (Nat.le_of_ble_eq_true rfl)⟩ (Nat.le_of_ble_eq_true rfl) rfl (Nat.le_of_ble_eq_true rfl) rfl rfl (Nat.zero_le _) (Nat.zero_le _) ?_
  refine s_at (c - 1) rfl (by rw [hc]; exact nI_m1 hc0) (by omega) (by decide) ?_
  dsimp only [pushR]
  refine x_iconst 4 (by decide) cFlight_sight_13 ?_
  refine x_idiv (by decide) cFlight_sight_14 ?_
  refine x_ireturn cFlight_sight_15 rfl rfl (Nat.zero_le _) (Nat.zero_le _) ?_
  exact hq
/-- whether a place is seen: of a flight's count, folds, last height, last place -/
def Vw (c : Nat) (f h p x : Int32) : Prop := 0 < c ∧ f = 0 ∧ absI (x - p) ≤ h / 4
theorem s_views {Po : Option Value → HS → Prop} {I : IT} {J : JT} {P : PT} {c : Nat} {x : Int32} (hc : I 83 2 = nI c) (hc5 : c ≤ 5) (h1 : Vw c (I 83 3) (I 84 (c - 1)) (I 85 (c - 1)) x → Po (some (.int 1)) (hp I J P)) (h0 : ¬ Vw c (I 83 3) (I 84 (c - 1)) (I 85 (c - 1)) x → Po (some (.int 0)) (hp I J P)) : xj yFlight_views (mG yFlight_views Po) 0 [some (.ref 83), some (.int x)] [] (hp I J P) 0 0 := by
  refine x_aload_0 cFlight_views_0 ?_
  refine x_gI cFlight_views_1 fFlight_24 rfl rfl ?_
  refine x_if_le cFlight_views_4 (fun q4 => ?_) (fun q4 => ?_)
  · refine x_iconst 0 (by decide) cFlight_views_14 ?_
    refine x_ireturn cFlight_views_15 rfl rfl (Nat.zero_le _) (Nat.zero_le _) ?_
    exact h0 (fun z => nI_nle z.1 (by omega) (by rw [← hc]; exact q4))
  · have hc0 : 0 < c := by
      rcases Nat.eq_zero_or_pos c with e | e
      · exact absurd (by rw [hc, e]; decide) q4
      · exact e
    refine x_aload_0 cFlight_views_7 ?_
    refine x_gI cFlight_views_8 fFlight_25 rfl rfl ?_
    refine x_if_eq cFlight_views_11 (fun q11 => ?_) (fun q11 => ?_)
    · refine x_iload_1 cFlight_views_16 ?_
      refine x_aload_0 cFlight_views_17 ?_
      refine x_gR (b := 85) cFlight_views_18 fFlight_15 rfl rfl rfl ?_
      refine x_aload_0 cFlight_views_21 ?_
      refine x_gI cFlight_views_22 fFlight_24 rfl rfl ?_
      refine x_iconst 1 (by decide) cFlight_views_25 ?_
      refine x_isub cFlight_views_26 ?_
      refine x_t2 (ls0 := [some _, some _]) cFlight_views_27 kFlight_31 okK_at ⟨(Nat.le_of_ble_eq_true rfl), (Nat.le_of_ble_eq_true rfl)⟩ (Nat.le_of_ble_eq_true rfl) rfl (Nat.le_of_ble_eq_true rfl) rfl rfl (Nat.zero_le _) (Nat.zero_le _) ?_
      refine s_at (c - 1) rfl (by rw [hc]; exact nI_m1 hc0) (by omega) (by decide) ?_
      dsimp only [pushR]
      refine x_isub cFlight_views_30 ?_
      refine x_s1 (ls0 := [some _]) cFlight_views_31 kFlight_56 okMath_abs ⟨(Nat.le_of_ble_eq_true rfl), (Nat.le_of_ble_eq_true rfl)⟩ (Nat.le_of_ble_eq_true rfl) rfl (Nat.le_of_ble_eq_true rfl) rfl rfl (Nat.zero_le _) (Nat.zero_le _) ?_
      refine s_abs ?_
      dsimp only [pushR]
      refine x_aload_0 cFlight_views_34 ?_
      refine x_v0 (ls0 := [some _]) cFlight_views_35 kFlight_67 okFlight_sight ⟨(Nat.le_of_ble_eq_true rfl), (Nat.le_of_ble_eq_true rfl)⟩ (Nat.le_of_ble_eq_true rfl) rfl (Nat.le_of_ble_eq_true rfl) rfl ⟨_, rfl, rfl⟩ rfl rfl (Nat.zero_le _) (Nat.zero_le _) ?_
      refine s_sight hc hc0 hc5 ?_
      dsimp only [pushR]
      refine x_icmp_gt cFlight_views_38 (fun q38 => ?_) (fun q38 => ?_)
      · refine x_iconst 0 (by decide) cFlight_views_45 ?_
        refine x_ireturn cFlight_views_46 rfl rfl (Nat.zero_le _) (Nat.zero_le _) ?_
        exact h0 (fun z => absurd z.2.2 (Int32.not_le.mpr q38))
      · refine x_iconst 1 (by decide) cFlight_views_41 ?_
        refine x_goto cFlight_views_42 ?_
        refine x_ireturn cFlight_views_46 rfl rfl (Nat.zero_le _) (Nat.zero_le _) ?_
        exact h1 ⟨hc0, q11, Int32.not_lt.mp q38⟩
    · refine x_iconst 0 (by decide) cFlight_views_14 ?_
      refine x_ireturn cFlight_views_15 rfl rfl (Nat.zero_le _) (Nat.zero_le _) ?_
      exact h0 (fun z => q11 z.2.1)
def maxI (a b : Int32) : Int32 := if a < b then b else a
def minI (a b : Int32) : Int32 := if b < a then b else a
def VwN (c : Nat) (f h p x : Int32) : Int32 := if 0 < c ∧ f = 0 then maxI 0 (minI x (p + h / 4) - maxI (-x) (p - h / 4) + 1) else 0
theorem s_viewsWithin {Po : Option Value → HS → Prop} {I : IT} {J : JT} {P : PT} {c : Nat} {x : Int32} (hc : I 83 2 = nI c) (hc5 : c ≤ 5) (hq : Po (some (.int (VwN c (I 83 3) (I 84 (c - 1)) (I 85 (c - 1)) x))) (hp I J P)) : xj yFlight_viewsWithin (mG yFlight_viewsWithin Po) 0 [some (.ref 83), some (.int x), none, none] [] (hp I J P) 0 0 := by
  unfold VwN at hq
  refine x_aload_0 cFlight_viewsWithin_0 ?_
  refine x_gI cFlight_viewsWithin_1 fFlight_24 rfl rfl ?_
  refine x_if_le cFlight_viewsWithin_4 (fun q4 => ?_) (fun q4 => ?_)
  · refine x_iconst 0 (by decide) cFlight_viewsWithin_14 ?_
    refine x_ireturn cFlight_viewsWithin_15 rfl rfl (Nat.zero_le _) (Nat.zero_le _) ?_
    rw [if_neg (fun z => nI_nle z.1 (by omega) (by rw [← hc]; exact q4))] at hq; exact hq
  · have hc0 : 0 < c := by
      rcases Nat.eq_zero_or_pos c with e | e
      · exact absurd (by rw [hc, e]; decide) q4
      · exact e
    refine x_aload_0 cFlight_viewsWithin_7 ?_
    refine x_gI cFlight_viewsWithin_8 fFlight_25 rfl rfl ?_
    refine x_if_eq cFlight_viewsWithin_11 (fun q11 => ?_) (fun q11 => ?_)
    · refine x_iload_1 cFlight_viewsWithin_16 ?_
      refine x_ineg cFlight_viewsWithin_17 ?_
      refine x_aload_0 cFlight_viewsWithin_18 ?_
      refine x_gR (b := 85) cFlight_viewsWithin_19 fFlight_15 rfl rfl rfl ?_
      refine x_aload_0 cFlight_viewsWithin_22 ?_
      refine x_gI cFlight_viewsWithin_23 fFlight_24 rfl rfl ?_
      refine x_iconst 1 (by decide) cFlight_viewsWithin_26 ?_
      refine x_isub cFlight_viewsWithin_27 ?_
      refine x_t2 (ls0 := [some _, some _]) cFlight_viewsWithin_28 kFlight_31 okK_at ⟨(Nat.le_of_ble_eq_true rfl), (Nat.le_of_ble_eq_true rfl)⟩ (Nat.le_of_ble_eq_true rfl) rfl (Nat.le_of_ble_eq_true rfl) rfl rfl (Nat.zero_le _) (Nat.zero_le _) ?_
      refine s_at (c - 1) rfl (by rw [hc]; exact nI_m1 hc0) (by omega) (by decide) ?_
      dsimp only [pushR]
      refine x_aload_0 cFlight_viewsWithin_31 ?_
      refine x_v0 (ls0 := [some _]) cFlight_viewsWithin_32 kFlight_67 okFlight_sight ⟨(Nat.le_of_ble_eq_true rfl), (Nat.le_of_ble_eq_true rfl)⟩ (Nat.le_of_ble_eq_true rfl) rfl (Nat.le_of_ble_eq_true rfl) rfl ⟨_, rfl, rfl⟩ rfl rfl (Nat.zero_le _) (Nat.zero_le _) ?_
      refine s_sight hc hc0 hc5 ?_
      dsimp only [pushR]
      refine x_isub cFlight_viewsWithin_35 ?_
      refine x_s2 (ls0 := [some _, some _]) cFlight_viewsWithin_36 kFlight_38 okMath_max ⟨(Nat.le_of_ble_eq_true rfl), (Nat.le_of_ble_eq_true rfl)⟩ (Nat.le_of_ble_eq_true rfl) rfl (Nat.le_of_ble_eq_true rfl) rfl rfl (Nat.zero_le _) (Nat.zero_le _) ?_
      refine s_max ?_
      dsimp only [pushR]
      refine x_istore_2 cFlight_viewsWithin_39 rfl (Nat.le_of_ble_eq_true rfl) ?_
      refine x_iload_1 cFlight_viewsWithin_40 ?_
      refine x_aload_0 cFlight_viewsWithin_41 ?_
      refine x_gR (b := 85) cFlight_viewsWithin_42 fFlight_15 rfl rfl rfl ?_
      refine x_aload_0 cFlight_viewsWithin_45 ?_
      refine x_gI cFlight_viewsWithin_46 fFlight_24 rfl rfl ?_
      refine x_iconst 1 (by decide) cFlight_viewsWithin_49 ?_
      refine x_isub cFlight_viewsWithin_50 ?_
      refine x_t2 (ls0 := [some _, some _]) cFlight_viewsWithin_51 kFlight_31 okK_at ⟨(Nat.le_of_ble_eq_true rfl), (Nat.le_of_ble_eq_true rfl)⟩ (Nat.le_of_ble_eq_true rfl) rfl (Nat.le_of_ble_eq_true rfl) rfl rfl (Nat.zero_le _) (Nat.zero_le _) ?_
      refine s_at (c - 1) rfl (by rw [hc]; exact nI_m1 hc0) (by omega) (by decide) ?_
      dsimp only [pushR]
      refine x_aload_0 cFlight_viewsWithin_54 ?_
      refine x_v0 (ls0 := [some _]) cFlight_viewsWithin_55 kFlight_67 okFlight_sight ⟨(Nat.le_of_ble_eq_true rfl), (Nat.le_of_ble_eq_true rfl)⟩ (Nat.le_of_ble_eq_true rfl) rfl (Nat.le_of_ble_eq_true rfl) rfl ⟨_, rfl, rfl⟩ rfl rfl (Nat.zero_le _) (Nat.zero_le _) ?_
      refine s_sight hc hc0 hc5 ?_
      dsimp only [pushR]
      refine x_iadd cFlight_viewsWithin_58 ?_
      refine x_s2 (ls0 := [some _, some _]) cFlight_viewsWithin_59 kFlight_71 okMath_min ⟨(Nat.le_of_ble_eq_true rfl), (Nat.le_of_ble_eq_true rfl)⟩ (Nat.le_of_ble_eq_true rfl) rfl (Nat.le_of_ble_eq_true rfl) rfl rfl (Nat.zero_le _) (Nat.zero_le _) ?_
      refine s_min ?_
      dsimp only [pushR]
      refine x_istore_3 cFlight_viewsWithin_62 rfl (Nat.le_of_ble_eq_true rfl) ?_
      refine x_iconst 0 (by decide) cFlight_viewsWithin_63 ?_
      refine x_iload_3 cFlight_viewsWithin_64 ?_
      refine x_iload_2 cFlight_viewsWithin_65 ?_
      refine x_isub cFlight_viewsWithin_66 ?_
      refine x_iconst 1 (by decide) cFlight_viewsWithin_67 ?_
      refine x_iadd cFlight_viewsWithin_68 ?_
      refine x_s2 (ls0 := [some _, some _]) cFlight_viewsWithin_69 kFlight_38 okMath_max ⟨(Nat.le_of_ble_eq_true rfl), (Nat.le_of_ble_eq_true rfl)⟩ (Nat.le_of_ble_eq_true rfl) rfl (Nat.le_of_ble_eq_true rfl) rfl rfl (Nat.zero_le _) (Nat.zero_le _) ?_
      refine s_max ?_
      dsimp only [pushR]
      refine x_ireturn cFlight_viewsWithin_72 rfl rfl (Nat.zero_le _) (Nat.zero_le _) ?_
      rw [if_pos ⟨hc0, q11⟩] at hq; exact hq
    · refine x_iconst 0 (by decide) cFlight_viewsWithin_14 ?_
      refine x_ireturn cFlight_viewsWithin_15 rfl rfl (Nat.zero_le _) (Nat.zero_le _) ?_
      rw [if_neg (fun z => q11 z.2)] at hq; exact hq
/-- a row of figures as a number -/
def val (by_ : Nat) (f : Nat → Nat) : Nat → Nat
  | 0 => 0
  | n + 1 => val by_ f n * by_ + f n
theorem val_ext {b : Nat} {f g : Nat → Nat} : ∀ n, (∀ k, k < n → f k = g k) → val b f n = val b g n
  | 0, _ => rfl
  | n + 1, h => by simp only [val]; rw [val_ext n (fun k hk => h k (by omega)), h n (by omega)]
theorem val_lt {b : Nat} {f : Nat → Nat} (hb : 0 < b) : ∀ n, (∀ k, k < n → f k < b) → val b f n < b ^ n
  | 0, _ => by simp [val]
  | n + 1, h => by
    have h1 := val_lt hb n (fun k hk => h k (by omega))
    have h2 := h n (by omega)
    simp only [val, Nat.pow_succ]
    have : (val b f n + 1) * b ≤ b ^ n * b := Nat.mul_le_mul_right b h1
    rw [Nat.add_mul, Nat.one_mul] at this
    omega
theorem val_dig {b : Nat} {f : Nat → Nat} (hb : 0 < b) : ∀ n, (∀ k, k < n → f k < b) → ∀ k, k < n → f k = val b f n / b ^ (n - 1 - k) % b := by
  intro n
  induction n with
  | zero => intro _ k hk; omega
  | succ n ih =>
    intro h k hk
    have hn := h n (by omega)
    by_cases hkn : k = n
    · subst hkn
      rw [show k + 1 - 1 - k = 0 by omega, Nat.pow_zero, Nat.div_one]
      simp only [val]
      rw [Nat.add_comm, Nat.mul_comm, Nat.add_mul_mod_self_left, Nat.mod_eq_of_lt hn]
    · rw [ih (fun j hj => h j (by omega)) k (by omega), show n + 1 - 1 - k = (n - 1 - k) + 1 by omega, Nat.pow_succ, Nat.mul_comm (b ^ (n - 1 - k)) b, ← Nat.div_div_eq_div_mul]
      congr 2
      simp only [val]
      rw [Nat.add_comm, Nat.mul_comm, Nat.add_mul_div_left _ _ hb, Nat.div_eq_of_lt hn, Nat.zero_add]
/-- the figures of the way, as numbers below b -/
def Fg (I : IT) (c b : Nat) (f : Nat → Nat) : Prop := ∀ k, k < c → I 87 k = nI (f k) ∧ f k < b
/-- the next row of figures: from the last kite on -/
def nxt (b : Nat) (f : Nat → Nat) : Nat → Nat → Nat
  | 0 => f
  | n + 1 => if f n + 1 < b then (fun k => if k = n then f n + 1 else f k) else nxt b (fun k => if k = n then 0 else f k) n
theorem nxt_hi {b : Nat} : ∀ (n : Nat) (f : Nat → Nat) (k : Nat), n ≤ k → nxt b f n k = f k
  | 0, f, k, _ => rfl
  | n + 1, f, k, h => by
    simp only [nxt]
    split
    · show (if k = n then f n + 1 else f k) = f k
      rw [if_neg (by omega)]
    · rw [nxt_hi n _ k (by omega), if_neg (by omega)]
theorem nxt_lt {b : Nat} (hb : 0 < b) : ∀ (n : Nat) (f : Nat → Nat) (c : Nat), (∀ k, k < c → f k < b) → ∀ k, k < c → nxt b f n k < b
  | 0, f, c, h, k, hk => h k hk
  | n + 1, f, c, h, k, hk => by
    simp only [nxt]
    split
    · show (if k = n then f n + 1 else f k) < b
      by_cases e : k = n
      · rw [if_pos e]; assumption
      · rw [if_neg e]; exact h k hk
    · refine nxt_lt hb n _ c (fun j hj => ?_) k hk
      show (if j = n then 0 else f j) < b
      by_cases e : j = n
      · rw [if_pos e]; exact hb
      · rw [if_neg e]; exact h j hj
theorem nxt_val {b : Nat} (hb : 0 < b) : ∀ (n : Nat) (f : Nat → Nat), (∀ k, k < n → f k < b) → val b f n + 1 < b ^ n → val b (nxt b f n) n = val b f n + 1
  | 0, f, h, hv => by simp [val] at hv
  | n + 1, f, h, hv => by
    have hn := h n (by omega)
    by_cases e : f n + 1 < b
    · have e1 : nxt b f (n + 1) = fun k => if k = n then f n + 1 else f k := by simp only [nxt, if_pos e]
      rw [e1]
      simp only [val, if_true]
      rw [val_ext (g := f) n (fun k hk => if_neg (by omega))]
      omega
    · have hfn : f n = b - 1 := by omega
      have e1 : nxt b f (n + 1) = nxt b (fun k => if k = n then 0 else f k) n := by simp only [nxt, if_neg e]
      rw [e1]
      simp only [val]
      rw [nxt_hi n _ n (Nat.le_refl n), if_pos rfl]
      have hv' : val b (fun k => if k = n then 0 else f k) n = val b f n := val_ext n (fun k hk => if_neg (by omega))
      simp only [val, Nat.pow_succ] at hv
      have h3 : val b f n + 1 < b ^ n := by
        apply Nat.lt_of_not_le
        intro hh
        have := Nat.mul_le_mul_right b hh
        rw [Nat.add_mul] at this
        omega
      rw [nxt_val hb n _ (fun k hk => by rw [if_neg (by omega)]; exact h k (by omega)) (by rw [hv']; exact h3), hv', Nat.add_mul, hfn]
      omega
theorem nI_top {a b : Nat} (h : ¬ a + 1 < b) (ha : a < b) : a = b - 1 := by omega
theorem s_Way_step_loop {Po : Option Value → HS → Prop} {I : IT} {J : JT} {P : PT} {c b : Nat} {g : Nat → Nat} (hc5 : c ≤ 5) (hb : 1 < b) (hb9 : b ≤ 9) (hh : I 86 2 = nI (b - 1)) (hq : ∀ I', (∀ a, a ≠ 87 → I' a = I a) → Fg I' c b g → Po none (hp I' J P)) : ∀ n, n ≤ c → ∀ I1 f, (∀ a, a ≠ 87 → I1 a = I a) → Fg I1 c b f → nxt b f n = g → xj yWay_step (mG yWay_step Po) 7 [some (.ref 86), some (.int (nI n - 1))] [] (hp I1 J P) 0 0 := by
  intro n
  induction n with
  | zero =>
    intro _ I1 f hf hF hn
    refine x_iload_1 cWay_step_7 ?_
    refine x_if_lt cWay_step_8 (fun q8 => ?_) (fun q8 => absurd q8 (fun z => z (by decide)))
    refine x_return cWay_step_60 rfl (Nat.zero_le _) (Nat.zero_le _) ?_
    exact hq I1 hf (by rw [← hn]; exact hF)
  | succ n ih =>
    intro hnc I1 f hf hF hn
    rw [show nI (n + 1) - 1 = nI n from nI_pred n]
    obtain ⟨hfn, hfb⟩ := hF n (by omega)
    refine x_iload_1 cWay_step_7 ?_
    refine x_if_lt cWay_step_8 (fun q8 => absurd q8 (nI_pos (by omega))) (fun q8 => ?_)
    refine x_aload_0 cWay_step_11 ?_
    refine x_gR (b := 87) cWay_step_12 fWay_9 rfl rfl rfl ?_
    refine x_iload_1 cWay_step_15 ?_
    refine x_t2 (ls0 := [some _, some _]) cWay_step_16 kWay_22 okK_at ⟨(Nat.le_of_ble_eq_true rfl), (Nat.le_of_ble_eq_true rfl)⟩ (Nat.le_of_ble_eq_true rfl) rfl (Nat.le_of_ble_eq_true rfl) rfl rfl (Nat.zero_le _) (Nat.zero_le _) ?_
    refine s_at n rfl rfl (by omega) (by decide) ?_
    dsimp only [pushR]
    refine x_top (nI (f n)) hfn ?_
    refine x_aload_0 cWay_step_19 ?_
    refine x_gI cWay_step_20 fWay_19 rfl rfl ?_
    refine x_icmp_ge cWay_step_23 (fun q23 => ?_) (fun q23 => ?_)
    · rw [hf 86 (by decide), hh] at q23
      have hge : ¬ f n + 1 < b := by
        have := (nI_leI (by omega) (by omega)).mp q23
        omega
      refine x_aload_0 cWay_step_45 ?_
      refine x_gR (b := 87) cWay_step_46 fWay_9 rfl rfl rfl ?_
      refine x_iload_1 cWay_step_49 ?_
      refine x_iconst 0 (by decide) cWay_step_50 ?_
      refine x_t3 (ls0 := [some _, some _, some _]) cWay_step_51 kWay_26 okK_put ⟨(Nat.le_of_ble_eq_true rfl), (Nat.le_of_ble_eq_true rfl)⟩ (Nat.le_of_ble_eq_true rfl) rfl (Nat.le_of_ble_eq_true rfl) rfl rfl (Nat.zero_le _) (Nat.zero_le _) ?_
      refine s_put n rfl rfl (by omega) (by decide) ?_
      dsimp only [pushR]
      refine x_iinc_1 (nI n - 1) cWay_step_54 rfl (nI_dec n) (Nat.le_of_ble_eq_true rfl) ?_
      refine x_goto cWay_step_57 ?_
      refine ih (by omega) _ (fun k => if k = n then 0 else f k) (fun a ha => by rw [u2_n ha]; exact hf a ha) (fun k hk => ?_) (by rw [← hn]; simp only [nxt, if_neg hge])
      rw [u2_g]
      dsimp only
      by_cases e : k = n
      · rw [if_pos ⟨rfl, e⟩, if_pos e]; exact ⟨rfl, by omega⟩
      · rw [if_neg (fun z => e z.2), if_neg e]; exact hF k hk
    · rw [hf 86 (by decide), hh] at q23
      have hlt : f n + 1 < b := by
        have := mt (nI_leI (a := b - 1) (b := f n) (by omega) (by omega)).mpr q23
        omega
      refine x_aload_0 cWay_step_26 ?_
      refine x_gR (b := 87) cWay_step_27 fWay_9 rfl rfl rfl ?_
      refine x_iload_1 cWay_step_30 ?_
      refine x_aload_0 cWay_step_31 ?_
      refine x_gR (b := 87) cWay_step_32 fWay_9 rfl rfl rfl ?_
      refine x_iload_1 cWay_step_35 ?_
      refine x_t2 (ls0 := [some _, some _]) cWay_step_36 kWay_22 okK_at ⟨(Nat.le_of_ble_eq_true rfl), (Nat.le_of_ble_eq_true rfl)⟩ (Nat.le_of_ble_eq_true rfl) rfl (Nat.le_of_ble_eq_true rfl) rfl rfl (Nat.zero_le _) (Nat.zero_le _) ?_
      refine s_at n rfl rfl (by omega) (by decide) ?_
      dsimp only [pushR]
      refine x_top (nI (f n)) hfn ?_
      refine x_iconst 1 (by decide) cWay_step_39 ?_
      refine x_iadd cWay_step_40 ?_
      refine x_top (nI (f n + 1)) (nI_1 _) ?_
      refine x_t3 (ls0 := [some _, some _, some _]) cWay_step_41 kWay_26 okK_put ⟨(Nat.le_of_ble_eq_true rfl), (Nat.le_of_ble_eq_true rfl)⟩ (Nat.le_of_ble_eq_true rfl) rfl (Nat.le_of_ble_eq_true rfl) rfl rfl (Nat.zero_le _) (Nat.zero_le _) ?_
      refine s_put n rfl rfl (by omega) (by decide) ?_
      dsimp only [pushR]
      refine x_return cWay_step_44 rfl (Nat.zero_le _) (Nat.zero_le _) ?_
      refine hq _ (fun a ha => by rw [u2_n ha]; exact hf a ha) (fun k hk => ?_)
      rw [← hn]
      simp only [nxt, if_pos hlt]
      rw [u2_g]
      by_cases e : k = n
      · rw [if_pos ⟨rfl, e⟩, if_pos e]; exact ⟨rfl, hlt⟩
      · rw [if_neg (fun z => e z.2), if_neg e]; exact hF k hk
theorem s_Way_step {Po : Option Value → HS → Prop} {I : IT} {J : JT} {P : PT} {c b : Nat} {f : Nat → Nat} (hc : I 86 1 = nI c) (hc5 : c ≤ 5) (hb : 1 < b) (hb9 : b ≤ 9) (hh : I 86 2 = nI (b - 1)) (hF : Fg I c b f) (hq : ∀ I', (∀ a, a ≠ 87 → I' a = I a) → Fg I' c b (nxt b f c) → Po none (hp I' J P)) : xj yWay_step (mG yWay_step Po) 0 [some (.ref 86), none] [] (hp I J P) 0 0 := by
  refine x_aload_0 cWay_step_0 ?_
  refine x_gI cWay_step_1 fWay_15 rfl rfl ?_
  refine x_iconst 1 (by decide) cWay_step_4 ?_
  refine x_isub cWay_step_5 ?_
  refine x_istore_1 cWay_step_6 rfl (Nat.le_of_ble_eq_true rfl) ?_
  rw [hc]
  exact s_Way_step_loop hc5 hb hb9 hh hq c (Nat.le_refl c) I f (fun _ _ => rfl) hF rfl
end
section
theorem s_append {Po : Option Value → HS → Prop} {I : IT} {J : JT} {P : PT} {n : Nat} {v : Int32} (hn : I 2 1 = nI n) (hn2 : n < 32) (hq : ∀ I', (∀ a, a ≠ 2 → a ≠ 3 → I' a = I a) → I' 2 1 = nI (n + 1) → I' 3 n = v → (∀ j, j ≠ n → I' 3 j = I 3 j) → Po (some (.int (nI (n + 1)))) (hp I' J P)) : xj yText_append (mG yText_append Po) 0 [some (.ref 2), some (.int v)] [] (hp I J P) 0 0 := by
  refine x_aload_0 cText_append_0 ?_
  refine x_gR (b := 3) cText_append_1 fText_9 rfl rfl rfl ?_
  refine x_aload_0 cText_append_4 ?_
  refine x_gI cText_append_5 fText_15 rfl rfl ?_
  refine x_iload_1 cText_append_8 ?_
  refine x_t3 (ls0 := [some _, some _, some _]) cText_append_9 kText_19 okK_put ⟨(Nat.le_of_ble_eq_true rfl), (Nat.le_of_ble_eq_true rfl)⟩ (Nat.le_of_ble_eq_true rfl) rfl (Nat.le_of_ble_eq_true rfl) rfl rfl (Nat.zero_le _) (Nat.zero_le _) ?_
  refine s_put n rfl hn (by omega) (by decide) ?_
  dsimp only [pushR]
  refine x_aload_0 cText_append_12 ?_
  refine x_dup rfl cText_append_13 ?_
  refine x_gI cText_append_14 fText_15 rfl rfl ?_
  refine x_iconst 1 (by decide) cText_append_17 ?_
  refine x_iadd cText_append_18 ?_
  refine x_pI cText_append_19 fText_15 rfl rfl ?_
  refine x_aload_0 cText_append_22 ?_
  refine x_gI cText_append_23 fText_15 rfl rfl ?_
  refine x_top (nI (n + 1)) (by rw [u2_ss, u2_n (by decide), hn, nI_1]) ?_
  refine x_ireturn cText_append_26 rfl rfl (Nat.zero_le _) (Nat.zero_le _) ?_
  refine hq _ (fun a h1 h2 => by rw [u2_n h1, u2_n h2]) (by rw [u2_ss, u2_n (by decide), hn, nI_1]) (by rw [u2_n (by decide), u2_ss]) (fun j hj => by rw [u2_n (by decide), u2_sn hj])
theorem s_figure {Po : Option Value → HS → Prop} {I : IT} {J : JT} {P : PT} {j : Nat} {i : Int32} (hi : i = nI j) (hj : j < 32) (hq : Po (some (.int (I 3 j - 48))) (hp I J P)) : xj yText_figure (mG yText_figure Po) 0 [some (.ref 2), some (.int i)] [] (hp I J P) 0 0 := by
  refine x_aload_0 cText_figure_0 ?_
  refine x_gR (b := 3) cText_figure_1 fText_9 rfl rfl rfl ?_
  refine x_iload_1 cText_figure_4 ?_
  refine x_t2 (ls0 := [some _, some _]) cText_figure_5 kText_23 okK_at ⟨(Nat.le_of_ble_eq_true rfl), (Nat.le_of_ble_eq_true rfl)⟩ (Nat.le_of_ble_eq_true rfl) rfl (Nat.le_of_ble_eq_true rfl) rfl rfl (Nat.zero_le _) (Nat.zero_le _) ?_
  refine s_at j rfl hi hj (by decide) ?_
  dsimp only [pushR]
  refine x_bipush 48 (by decide) cText_figure_8 ?_
  refine x_isub cText_figure_10 ?_
  refine x_ireturn cText_figure_11 rfl rfl (Nat.zero_le _) (Nat.zero_le _) ?_
  exact hq
/-- whether a byte can stand at its place of a STRING -/
def okR : Nat → Int32 → Prop
  | 0, v => v = 89
  | 1, v => 49 ≤ v ∧ v ≤ 57
  | 2, v => 48 ≤ v ∧ v ≤ 52
  | _, v => 48 ≤ v ∧ v ≤ 51
def okL (t : Nat → Int32) : Nat → Prop
  | 0 => t 0 = 75
  | 1 => 48 ≤ t 1 ∧ t 1 ≤ 52
  | 2 => 48 ≤ t 2 ∧ t 2 ≤ 52
  | 3 => 48 ≤ t 3 ∧ t 3 ≤ 53
  | 4 => 48 ≤ t 4 ∧ t 4 ≤ (if t 3 = 53 then 48 else 57)
  | 5 => 49 ≤ t 5 ∧ t 5 ≤ 57
  | p + 6 => p < 20 ∧ okR (p % 4) (t (p + 6))
theorem lts_of {a b : Int32} (h : ¬ b < a) : a ≤ b := Int32.not_lt.mp h
theorem nle_of {a b : Int32} (h : b < a) : ¬ a ≤ b := Int32.not_le.mpr h
theorem s_fitsPart {Po : Option Value → HS → Prop} {I : IT} {J : JT} {P : PT} {q : Nat} {v : Int32} (hq9 : q < 100) (h1 : (q < 20 ∧ okR (q % 4) v) → Po (some (.int 1)) (hp I J P)) (h0 : ¬ (q < 20 ∧ okR (q % 4) v) → Po (some (.int 0)) (hp I J P)) : xj yText_fitsPart (mG yText_fitsPart Po) 0 [some (.ref 2), some (.int (nI q)), some (.int v)] [] (hp I J P) 0 0 := by
  refine x_iload_1 cText_fitsPart_0 ?_
  refine x_bipush 20 (by decide) cText_fitsPart_1 ?_
  refine x_icmp_lt cText_fitsPart_3 (fun q3 => ?_) (fun q3 => ?_)
  · have hq20 : q < 20 := (nI_ltI (by omega) (by decide)).mp q3
    refine x_iload_1 cText_fitsPart_8 ?_
    refine x_iconst 4 (by decide) cText_fitsPart_9 ?_
    refine x_irem (by decide) cText_fitsPart_10 ?_
    refine x_top (nI (q % 4)) (pk_rem (d := 4) (by omega) (by decide) (by decide)) ?_
    rcases (show q % 4 = 0 ∨ q % 4 = 1 ∨ q % 4 = 2 ∨ q % 4 = 3 by omega) with e | e | e | e <;> rw [e] at h1 h0 ⊢
    · refine x_tblIn (nx := 0) (off := 25) (tg := 36) cText_fitsPart_11 (by decide) (by decide) (by decide) (by decide) ?_
      refine x_iload_2 cText_fitsPart_36 ?_
      refine x_bipush 89 (by decide) cText_fitsPart_37 ?_
      refine x_icmp_ne cText_fitsPart_39 (fun q39 => ?_) (fun q39 => ?_)
      · refine x_iconst 0 (by decide) cText_fitsPart_46 ?_
        refine x_ireturn cText_fitsPart_47 rfl rfl (Nat.zero_le _) (Nat.zero_le _) ?_
        exact h0 (fun z => q39 z.2)
      · refine x_iconst 1 (by decide) cText_fitsPart_42 ?_
        refine x_goto cText_fitsPart_43 ?_
        refine x_ireturn cText_fitsPart_47 rfl rfl (Nat.zero_le _) (Nat.zero_le _) ?_
        exact h1 ⟨hq20, q39⟩
    · refine x_tblIn (nx := 0) (off := 37) (tg := 48) cText_fitsPart_11 (by decide) (by decide) (by decide) (by decide) ?_
      refine x_iload_2 cText_fitsPart_48 ?_
      refine x_bipush 49 (by decide) cText_fitsPart_49 ?_
      refine x_icmp_lt cText_fitsPart_51 (fun q51 => ?_) (fun q51 => ?_)
      · refine x_iconst 0 (by decide) cText_fitsPart_64 ?_
        refine x_ireturn cText_fitsPart_65 rfl rfl (Nat.zero_le _) (Nat.zero_le _) ?_
        exact h0 (fun z => absurd z.2.1 (nle_of q51))
      · refine x_iload_2 cText_fitsPart_54 ?_
        refine x_bipush 57 (by decide) cText_fitsPart_55 ?_
        refine x_icmp_gt cText_fitsPart_57 (fun q57 => ?_) (fun q57 => ?_)
        · refine x_iconst 0 (by decide) cText_fitsPart_64 ?_
          refine x_ireturn cText_fitsPart_65 rfl rfl (Nat.zero_le _) (Nat.zero_le _) ?_
          exact h0 (fun z => absurd z.2.2 (nle_of q57))
        · refine x_iconst 1 (by decide) cText_fitsPart_60 ?_
          refine x_goto cText_fitsPart_61 ?_
          refine x_ireturn cText_fitsPart_65 rfl rfl (Nat.zero_le _) (Nat.zero_le _) ?_
          exact h1 ⟨hq20, lts_of q51, lts_of q57⟩
    · refine x_tblIn (nx := 0) (off := 55) (tg := 66) cText_fitsPart_11 (by decide) (by decide) (by decide) (by decide) ?_
      refine x_iload_2 cText_fitsPart_66 ?_
      refine x_bipush 48 (by decide) cText_fitsPart_67 ?_
      refine x_icmp_lt cText_fitsPart_69 (fun q69 => ?_) (fun q69 => ?_)
      · refine x_iconst 0 (by decide) cText_fitsPart_82 ?_
        refine x_ireturn cText_fitsPart_83 rfl rfl (Nat.zero_le _) (Nat.zero_le _) ?_
        exact h0 (fun z => absurd z.2.1 (nle_of q69))
      · refine x_iload_2 cText_fitsPart_72 ?_
        refine x_bipush 52 (by decide) cText_fitsPart_73 ?_
        refine x_icmp_gt cText_fitsPart_75 (fun q75 => ?_) (fun q75 => ?_)
        · refine x_iconst 0 (by decide) cText_fitsPart_82 ?_
          refine x_ireturn cText_fitsPart_83 rfl rfl (Nat.zero_le _) (Nat.zero_le _) ?_
          exact h0 (fun z => absurd z.2.2 (nle_of q75))
        · refine x_iconst 1 (by decide) cText_fitsPart_78 ?_
          refine x_goto cText_fitsPart_79 ?_
          refine x_ireturn cText_fitsPart_83 rfl rfl (Nat.zero_le _) (Nat.zero_le _) ?_
          exact h1 ⟨hq20, lts_of q69, lts_of q75⟩
    · refine x_tblOut (nx := 0) (tg := 84) cText_fitsPart_11 (by decide) (by decide) ?_
      refine x_iload_2 cText_fitsPart_84 ?_
      refine x_bipush 48 (by decide) cText_fitsPart_85 ?_
      refine x_icmp_lt cText_fitsPart_87 (fun q87 => ?_) (fun q87 => ?_)
      · refine x_iconst 0 (by decide) cText_fitsPart_100 ?_
        refine x_ireturn cText_fitsPart_101 rfl rfl (Nat.zero_le _) (Nat.zero_le _) ?_
        exact h0 (fun z => absurd z.2.1 (nle_of q87))
      · refine x_iload_2 cText_fitsPart_90 ?_
        refine x_bipush 51 (by decide) cText_fitsPart_91 ?_
        refine x_icmp_gt cText_fitsPart_93 (fun q93 => ?_) (fun q93 => ?_)
        · refine x_iconst 0 (by decide) cText_fitsPart_100 ?_
          refine x_ireturn cText_fitsPart_101 rfl rfl (Nat.zero_le _) (Nat.zero_le _) ?_
          exact h0 (fun z => absurd z.2.2 (nle_of q93))
        · refine x_iconst 1 (by decide) cText_fitsPart_96 ?_
          refine x_goto cText_fitsPart_97 ?_
          refine x_ireturn cText_fitsPart_101 rfl rfl (Nat.zero_le _) (Nat.zero_le _) ?_
          exact h1 ⟨hq20, lts_of q87, lts_of q93⟩
  · refine x_iconst 0 (by decide) cText_fitsPart_6 ?_
    refine x_ireturn cText_fitsPart_7 rfl rfl (Nat.zero_le _) (Nat.zero_le _) ?_
    exact h0 (fun z => q3 (nI_lt z.1 (by decide)))
theorem s_fits {Po : Option Value → HS → Prop} {I : IT} {J : JT} {P : PT} {p : Nat} (hp32 : p < 32) (h1 : okL (I 3) p → Po (some (.int 1)) (hp I J P)) (h0 : ¬ okL (I 3) p → Po (some (.int 0)) (hp I J P)) : xj yText_fits (mG yText_fits Po) 0 [some (.ref 2), some (.int (nI p)), some (.int (I 3 p))] [] (hp I J P) 0 0 := by
  refine x_iload_1 cText_fits_0 ?_
  rcases (show p = 0 ∨ p = 1 ∨ p = 2 ∨ p = 3 ∨ p = 4 ∨ p = 5 ∨ 6 ≤ p by omega) with rfl | rfl | rfl | rfl | rfl | rfl | hp6
  · refine x_tblIn (nx := 0) (off := 39) (tg := 40) cText_fits_1 (by decide) (by decide) (by decide) (by decide) ?_
    refine x_iload_2 cText_fits_40 ?_
    refine x_bipush 75 (by decide) cText_fits_41 ?_
    refine x_icmp_ne cText_fits_43 (fun q43 => ?_) (fun q43 => ?_)
    · refine x_iconst 0 (by decide) cText_fits_50 ?_
      refine x_ireturn cText_fits_51 rfl rfl (Nat.zero_le _) (Nat.zero_le _) ?_
      exact h0 q43
    · refine x_iconst 1 (by decide) cText_fits_46 ?_
      refine x_goto cText_fits_47 ?_
      refine x_ireturn cText_fits_51 rfl rfl (Nat.zero_le _) (Nat.zero_le _) ?_
      exact h1 q43
  · refine x_tblIn (nx := 0) (off := 51) (tg := 52) cText_fits_1 (by decide) (by decide) (by decide) (by decide) ?_
    refine x_iload_2 cText_fits_52 ?_
    refine x_bipush 48 (by decide) cText_fits_53 ?_
    refine x_icmp_lt cText_fits_55 (fun q55 => ?_) (fun q55 => ?_)
    · refine x_iconst 0 (by decide) cText_fits_68 ?_
      refine x_ireturn cText_fits_69 rfl rfl (Nat.zero_le _) (Nat.zero_le _) ?_
      exact h0 (fun z => absurd z.1 (nle_of q55))
    · refine x_iload_2 cText_fits_58 ?_
      refine x_bipush 52 (by decide) cText_fits_59 ?_
      refine x_icmp_gt cText_fits_61 (fun q61 => ?_) (fun q61 => ?_)
      · refine x_iconst 0 (by decide) cText_fits_68 ?_
        refine x_ireturn cText_fits_69 rfl rfl (Nat.zero_le _) (Nat.zero_le _) ?_
        exact h0 (fun z => absurd z.2 (nle_of q61))
      · refine x_iconst 1 (by decide) cText_fits_64 ?_
        refine x_goto cText_fits_65 ?_
        refine x_ireturn cText_fits_69 rfl rfl (Nat.zero_le _) (Nat.zero_le _) ?_
        exact h1 ⟨lts_of q55, lts_of q61⟩
  · refine x_tblIn (nx := 0) (off := 51) (tg := 52) cText_fits_1 (by decide) (by decide) (by decide) (by decide) ?_
    refine x_iload_2 cText_fits_52 ?_
    refine x_bipush 48 (by decide) cText_fits_53 ?_
    refine x_icmp_lt cText_fits_55 (fun q55 => ?_) (fun q55 => ?_)
    · refine x_iconst 0 (by decide) cText_fits_68 ?_
      refine x_ireturn cText_fits_69 rfl rfl (Nat.zero_le _) (Nat.zero_le _) ?_
      exact h0 (fun z => absurd z.1 (nle_of q55))
    · refine x_iload_2 cText_fits_58 ?_
      refine x_bipush 52 (by decide) cText_fits_59 ?_
      refine x_icmp_gt cText_fits_61 (fun q61 => ?_) (fun q61 => ?_)
      · refine x_iconst 0 (by decide) cText_fits_68 ?_
        refine x_ireturn cText_fits_69 rfl rfl (Nat.zero_le _) (Nat.zero_le _) ?_
        exact h0 (fun z => absurd z.2 (nle_of q61))
      · refine x_iconst 1 (by decide) cText_fits_64 ?_
        refine x_goto cText_fits_65 ?_
        refine x_ireturn cText_fits_69 rfl rfl (Nat.zero_le _) (Nat.zero_le _) ?_
        exact h1 ⟨lts_of q55, lts_of q61⟩
  · refine x_tblIn (nx := 0) (off := 69) (tg := 70) cText_fits_1 (by decide) (by decide) (by decide) (by decide) ?_
    refine x_iload_2 cText_fits_70 ?_
    refine x_bipush 48 (by decide) cText_fits_71 ?_
    refine x_icmp_lt cText_fits_73 (fun q73 => ?_) (fun q73 => ?_)
    · refine x_iconst 0 (by decide) cText_fits_86 ?_
      refine x_ireturn cText_fits_87 rfl rfl (Nat.zero_le _) (Nat.zero_le _) ?_
      exact h0 (fun z => absurd z.1 (nle_of q73))
    · refine x_iload_2 cText_fits_76 ?_
      refine x_bipush 53 (by decide) cText_fits_77 ?_
      refine x_icmp_gt cText_fits_79 (fun q79 => ?_) (fun q79 => ?_)
      · refine x_iconst 0 (by decide) cText_fits_86 ?_
        refine x_ireturn cText_fits_87 rfl rfl (Nat.zero_le _) (Nat.zero_le _) ?_
        exact h0 (fun z => absurd z.2 (nle_of q79))
      · refine x_iconst 1 (by decide) cText_fits_82 ?_
        refine x_goto cText_fits_83 ?_
        refine x_ireturn cText_fits_87 rfl rfl (Nat.zero_le _) (Nat.zero_le _) ?_
        exact h1 ⟨lts_of q73, lts_of q79⟩
  · refine x_tblIn (nx := 0) (off := 87) (tg := 88) cText_fits_1 (by decide) (by decide) (by decide) (by decide) ?_
    refine x_iload_2 cText_fits_88 ?_
    refine x_bipush 48 (by decide) cText_fits_89 ?_
    refine x_icmp_lt cText_fits_91 (fun q91 => ?_) (fun q91 => ?_)
    · refine x_iconst 0 (by decide) cText_fits_122 ?_
      refine x_ireturn cText_fits_123 rfl rfl (Nat.zero_le _) (Nat.zero_le _) ?_
      exact h0 (fun z => absurd z.1 (nle_of q91))
    · refine x_iload_2 cText_fits_94 ?_
      refine x_aload_0 cText_fits_95 ?_
      refine x_gR (b := 3) cText_fits_96 fText_9 rfl rfl rfl ?_
      refine x_iconst 3 (by decide) cText_fits_99 ?_
      refine x_t2 (ls0 := [some _, some _]) cText_fits_100 kText_23 okK_at ⟨(Nat.le_of_ble_eq_true rfl), (Nat.le_of_ble_eq_true rfl)⟩ (Nat.le_of_ble_eq_true rfl) rfl (Nat.le_of_ble_eq_true rfl) rfl rfl (Nat.zero_le _) (Nat.zero_le _) ?_
      refine s_at 3 rfl rfl (by decide) (by decide) ?_
      dsimp only [pushR]
      refine x_bipush 53 (by decide) cText_fits_103 ?_
      refine x_icmp_ne cText_fits_105 (fun q105 => ?_) (fun q105 => ?_)
      · refine x_bipush 57 (by decide) cText_fits_113 ?_
        refine x_icmp_gt cText_fits_115 (fun q115 => ?_) (fun q115 => ?_)
        · refine x_iconst 0 (by decide) cText_fits_122 ?_
          refine x_ireturn cText_fits_123 rfl rfl (Nat.zero_le _) (Nat.zero_le _) ?_
          exact h0 (fun z => by have z2 := z.2; rw [if_neg q105] at z2; exact absurd z2 (nle_of q115))
        · refine x_iconst 1 (by decide) cText_fits_118 ?_
          refine x_goto cText_fits_119 ?_
          refine x_ireturn cText_fits_123 rfl rfl (Nat.zero_le _) (Nat.zero_le _) ?_
          exact h1 ⟨lts_of q91, by rw [if_neg q105]; exact lts_of q115⟩
      · refine x_bipush 48 (by decide) cText_fits_108 ?_
        refine x_goto cText_fits_110 ?_
        refine x_icmp_gt cText_fits_115 (fun q115 => ?_) (fun q115 => ?_)
        · refine x_iconst 0 (by decide) cText_fits_122 ?_
          refine x_ireturn cText_fits_123 rfl rfl (Nat.zero_le _) (Nat.zero_le _) ?_
          exact h0 (fun z => by have z2 := z.2; rw [if_pos q105] at z2; exact absurd z2 (nle_of q115))
        · refine x_iconst 1 (by decide) cText_fits_118 ?_
          refine x_goto cText_fits_119 ?_
          refine x_ireturn cText_fits_123 rfl rfl (Nat.zero_le _) (Nat.zero_le _) ?_
          exact h1 ⟨lts_of q91, by rw [if_pos q105]; exact lts_of q115⟩
  · refine x_tblIn (nx := 0) (off := 123) (tg := 124) cText_fits_1 (by decide) (by decide) (by decide) (by decide) ?_
    refine x_iload_2 cText_fits_124 ?_
    refine x_bipush 49 (by decide) cText_fits_125 ?_
    refine x_icmp_lt cText_fits_127 (fun q127 => ?_) (fun q127 => ?_)
    · refine x_iconst 0 (by decide) cText_fits_140 ?_
      refine x_ireturn cText_fits_141 rfl rfl (Nat.zero_le _) (Nat.zero_le _) ?_
      exact h0 (fun z => absurd z.1 (nle_of q127))
    · refine x_iload_2 cText_fits_130 ?_
      refine x_bipush 57 (by decide) cText_fits_131 ?_
      refine x_icmp_gt cText_fits_133 (fun q133 => ?_) (fun q133 => ?_)
      · refine x_iconst 0 (by decide) cText_fits_140 ?_
        refine x_ireturn cText_fits_141 rfl rfl (Nat.zero_le _) (Nat.zero_le _) ?_
        exact h0 (fun z => absurd z.2 (nle_of q133))
      · refine x_iconst 1 (by decide) cText_fits_136 ?_
        refine x_goto cText_fits_137 ?_
        refine x_ireturn cText_fits_141 rfl rfl (Nat.zero_le _) (Nat.zero_le _) ?_
        exact h1 ⟨lts_of q127, lts_of q133⟩
  · obtain ⟨q, rfl⟩ : ∃ q, p = q + 6 := ⟨p - 6, by omega⟩
    refine x_tblOut (nx := 0) (tg := 142) cText_fits_1 (Or.inr (by rw [nI_toInt (by omega)]; omega)) (by decide) ?_
    refine x_aload_0 cText_fits_142 ?_
    refine x_iload_1 cText_fits_143 ?_
    refine x_bipush 6 (by decide) cText_fits_144 ?_
    refine x_isub cText_fits_146 ?_
    refine x_top (nI q) (pk_sub (a := q + 6) (b := 6) (by omega)) ?_
    refine x_iload_2 cText_fits_147 ?_
    refine x_v2 (ls0 := [some _, some _, some _]) cText_fits_148 kText_31 okText_fitsPart ⟨(Nat.le_of_ble_eq_true rfl), (Nat.le_of_ble_eq_true rfl)⟩ (Nat.le_of_ble_eq_true rfl) rfl (Nat.le_of_ble_eq_true rfl) rfl ⟨_, rfl, rfl⟩ rfl rfl (Nat.zero_le _) (Nat.zero_le _) ?_
    refine s_fitsPart (by omega) (fun z => ?_) (fun z => ?_)
    · dsimp only [pushR]
      refine x_ireturn cText_fits_151 rfl rfl (Nat.zero_le _) (Nat.zero_le _) ?_
      exact h1 z
    · dsimp only [pushR]
      refine x_ireturn cText_fits_151 rfl rfl (Nat.zero_le _) (Nat.zero_le _) ?_
      exact h0 z
/-- a text that is at its end -/
def ended (n : Nat) : Prop := 6 ≤ n ∧ (n - 6) % 4 = 0
theorem s_firstFault_loop {Po : Option Value → HS → Prop} {I : IT} {J : JT} {P : PT} {n : Nat} (hn : I 2 1 = nI n) (hn2 : n ≤ 32) (h1 : ∀ p, p < n → ¬ okL (I 3) p → (∀ j, j < p → okL (I 3) j) → Po (some (.int (nI p))) (hp I J P)) (h2 : (∀ j, j < n → okL (I 3) j) → ended n → Po (some (.int (-9))) (hp I J P)) (h3 : (∀ j, j < n → okL (I 3) j) → ¬ ended n → Po (some (.int (nI n))) (hp I J P)) : ∀ m k, k + m = n → (∀ j, j < k → okL (I 3) j) → xj yText_firstFault (mG yText_firstFault Po) 2 [some (.ref 2), some (.int (nI k))] [] (hp I J P) 0 0 := by
  intro m
  induction m with
  | zero =>
    intro k hk ha
    obtain rfl : k = n := by omega
    refine x_iload_1 cText_firstFault_2 ?_
    refine x_aload_0 cText_firstFault_3 ?_
    refine x_gI cText_firstFault_4 fText_15 rfl rfl ?_
    refine x_icmp_ge cText_firstFault_7 (fun q7 => ?_) (fun q7 => absurd q7 (fun z => z (by rw [hn]; exact Int32.le_refl _)))
    refine x_aload_0 cText_firstFault_34 ?_
    refine x_gI cText_firstFault_35 fText_15 rfl rfl ?_
    refine x_bipush 6 (by decide) cText_firstFault_38 ?_
    refine x_icmp_lt cText_firstFault_40 (fun q40 => ?_) (fun q40 => ?_)
    · have hne : ¬ ended k := fun z => by
        rw [hn] at q40
        exact absurd ((nI_ltI (by omega) (by decide)).mp q40) (Nat.not_lt.mpr z.1)
      refine x_iconst 0 (by decide) cText_firstFault_59 ?_
      refine x_istore_1 cText_firstFault_60 rfl (Nat.le_of_ble_eq_true rfl) ?_
      refine x_iload_1 cText_firstFault_61 ?_
      refine x_if_eq cText_firstFault_62 (fun _ => ?_) (fun q => absurd rfl q)
      refine x_aload_0 cText_firstFault_70 ?_
      refine x_gI cText_firstFault_71 fText_15 rfl rfl ?_
      try refine x_top (nI k) hn ?_
      refine x_ireturn cText_firstFault_74 rfl rfl (Nat.zero_le _) (Nat.zero_le _) ?_
      exact h3 ha hne
    · have h6 : 6 ≤ k := by
        rw [hn] at q40
        exact Nat.not_lt.mp (fun z => q40 (nI_lt z (by decide)))
      refine x_aload_0 cText_firstFault_43 ?_
      refine x_gI cText_firstFault_44 fText_15 rfl rfl ?_
      refine x_bipush 6 (by decide) cText_firstFault_47 ?_
      refine x_isub cText_firstFault_49 ?_
      refine x_iconst 4 (by decide) cText_firstFault_50 ?_
      refine x_irem (by decide) cText_firstFault_51 ?_
      refine x_top (nI ((k - 6) % 4)) (by rw [hn, show nI k - 6 = nI (k - 6) from pk_sub (b := 6) h6]; exact pk_rem (d := 4) (by omega) (by decide) (by decide)) ?_
      refine x_if_ne cText_firstFault_52 (fun q52 => ?_) (fun q52 => ?_)
      · have hne : ¬ ended k := fun z => q52 (by rw [z.2]; rfl)
        refine x_iconst 0 (by decide) cText_firstFault_59 ?_
        refine x_istore_1 cText_firstFault_60 rfl (Nat.le_of_ble_eq_true rfl) ?_
        refine x_iload_1 cText_firstFault_61 ?_
        refine x_if_eq cText_firstFault_62 (fun _ => ?_) (fun q => absurd rfl q)
        refine x_aload_0 cText_firstFault_70 ?_
        refine x_gI cText_firstFault_71 fText_15 rfl rfl ?_
        try refine x_top (nI k) hn ?_
        refine x_ireturn cText_firstFault_74 rfl rfl (Nat.zero_le _) (Nat.zero_le _) ?_
        exact h3 ha hne
      · have hen : ended k := ⟨h6, (nI_eq (by omega) (by decide)).mp q52⟩
        refine x_iconst 1 (by decide) cText_firstFault_55 ?_
        refine x_goto cText_firstFault_56 ?_
        refine x_istore_1 cText_firstFault_60 rfl (Nat.le_of_ble_eq_true rfl) ?_
        refine x_iload_1 cText_firstFault_61 ?_
        refine x_if_eq cText_firstFault_62 (fun q => absurd q (by decide)) (fun _ => ?_)
        refine x_bipush (-9) (by decide) cText_firstFault_65 ?_
        refine x_goto cText_firstFault_67 ?_
        try refine x_top (nI k) hn ?_
        refine x_ireturn cText_firstFault_74 rfl rfl (Nat.zero_le _) (Nat.zero_le _) ?_
        exact h2 ha hen
  | succ m ih =>
    intro k hk ha
    have hkn : k < n := by omega
    refine x_iload_1 cText_firstFault_2 ?_
    refine x_aload_0 cText_firstFault_3 ?_
    refine x_gI cText_firstFault_4 fText_15 rfl rfl ?_
    refine x_icmp_ge cText_firstFault_7 (fun q7 => absurd q7 (by rw [hn]; exact nI_ge hkn (by omega))) (fun q7 => ?_)
    refine x_aload_0 cText_firstFault_10 ?_
    refine x_iload_1 cText_firstFault_11 ?_
    refine x_aload_0 cText_firstFault_12 ?_
    refine x_gR (b := 3) cText_firstFault_13 fText_9 rfl rfl rfl ?_
    refine x_iload_1 cText_firstFault_16 ?_
    refine x_t2 (ls0 := [some _, some _]) cText_firstFault_17 kText_23 okK_at ⟨(Nat.le_of_ble_eq_true rfl), (Nat.le_of_ble_eq_true rfl)⟩ (Nat.le_of_ble_eq_true rfl) rfl (Nat.le_of_ble_eq_true rfl) rfl rfl (Nat.zero_le _) (Nat.zero_le _) ?_
    refine s_at k rfl rfl (by omega) (by decide) ?_
    dsimp only [pushR]
    refine x_v2 (ls0 := [some _, some _, some _]) cText_firstFault_20 kText_27 okText_fits ⟨(Nat.le_of_ble_eq_true rfl), (Nat.le_of_ble_eq_true rfl)⟩ (Nat.le_of_ble_eq_true rfl) rfl (Nat.le_of_ble_eq_true rfl) rfl ⟨_, rfl, rfl⟩ rfl rfl (Nat.zero_le _) (Nat.zero_le _) ?_
    refine s_fits (by omega) (fun z => ?_) (fun z => ?_)
    · dsimp only [pushR]
      refine x_if_ne cText_firstFault_23 (fun q23 => ?_) (fun q23 => absurd q23 (by decide))
      refine x_iinc_1 (nI (k + 1)) cText_firstFault_28 rfl (nI_inc k) (Nat.le_of_ble_eq_true rfl) ?_
      refine x_goto cText_firstFault_31 ?_
      exact ih (k + 1) (by omega) (fun j hj => by
        by_cases e : j < k
        · exact ha j e
        · obtain rfl : j = k := by omega
          exact z)
    · dsimp only [pushR]
      refine x_if_ne cText_firstFault_23 (fun q23 => absurd rfl q23) (fun q23 => ?_)
      refine x_iload_1 cText_firstFault_26 ?_
      refine x_ireturn cText_firstFault_27 rfl rfl (Nat.zero_le _) (Nat.zero_le _) ?_
      exact h1 k hkn z ha
theorem s_firstFault {Po : Option Value → HS → Prop} {I : IT} {J : JT} {P : PT} {n : Nat} (hn : I 2 1 = nI n) (hn2 : n ≤ 32) (h1 : ∀ p, p < n → ¬ okL (I 3) p → (∀ j, j < p → okL (I 3) j) → Po (some (.int (nI p))) (hp I J P)) (h2 : (∀ j, j < n → okL (I 3) j) → ended n → Po (some (.int (-9))) (hp I J P)) (h3 : (∀ j, j < n → okL (I 3) j) → ¬ ended n → Po (some (.int (nI n))) (hp I J P)) : xj yText_firstFault (mG yText_firstFault Po) 0 [some (.ref 2), none] [] (hp I J P) 0 0 := by
  refine x_iconst 0 (by decide) cText_firstFault_0 ?_
  refine x_istore_1 cText_firstFault_1 rfl (Nat.le_of_ble_eq_true rfl) ?_
  exact s_firstFault_loop hn hn2 h1 h2 h3 n 0 (by omega) (fun j hj => absurd hj (Nat.not_lt_zero j))
end
section
/-- what Text.tell leaves -/
def TlOut (I I' : IT) (c : Nat) : Prop := (∀ a, a ≠ 4 → a ≠ 5 → a ≠ 6 → a ≠ 7 → I' a = I a) ∧ I' 4 0 = nI c ∧ I' 4 1 = I 3 1 - 48 - 2 ∧ I' 4 2 = I 3 2 - 48 - 2 ∧ I' 4 3 = 10 * (I 3 3 - 48) + (I 3 4 - 48) ∧ I' 4 4 = I 3 5 - 48 ∧ ∀ k, k < c → I' 5 k = I 3 (7 + 4 * k) - 48 ∧ I' 6 k = I 3 (8 + 4 * k) - 48 - 2 ∧ I' 7 k = I 3 (9 + 4 * k) - 48
theorem s_tell_loop {Po : Option Value → HS → Prop} {I : IT} {J : JT} {P : PT} {c : Nat} (hc5 : c ≤ 5) (hq : ∀ I', TlOut I I' c → Po none (hp I' J P)) : ∀ n k, k + n = c → ∀ I', (∀ a, a ≠ 4 → a ≠ 5 → a ≠ 6 → a ≠ 7 → I' a = I a) → I' 4 0 = nI c → I' 4 1 = I 3 1 - 48 - 2 → I' 4 2 = I 3 2 - 48 - 2 → I' 4 3 = 10 * (I 3 3 - 48) + (I 3 4 - 48) → I' 4 4 = I 3 5 - 48 → (∀ i, i < k → I' 5 i = I 3 (7 + 4 * i) - 48 ∧ I' 6 i = I 3 (8 + 4 * i) - 48 - 2 ∧ I' 7 i = I 3 (9 + 4 * i) - 48) → ∀ g, xj yText_tell (mG yText_tell Po) 68 [some (.ref 2), some (.ref 4), some (.int (nI k)), g] [] (hp I' J P) 0 0 := by
  intro n
  induction n with
  | zero =>
    intro k hk I' hf h0 h1 h2 h3 h4 ha g
    obtain rfl : k = c := by omega
    refine x_iload_2 cText_tell_68 ?_
    refine x_aload_1 cText_tell_69 ?_
    refine x_gI cText_tell_70 fText_58 rfl rfl ?_
    refine x_icmp_ge cText_tell_73 (fun q73 => ?_) (fun q73 => absurd q73 (fun z => z (by rw [h0]; exact Int32.le_refl _)))
    refine x_return cText_tell_136 rfl (Nat.zero_le _) (Nat.zero_le _) ?_
    exact hq I' ⟨hf, h0, h1, h2, h3, h4, ha⟩
  | succ n ih =>
    intro k hk I' hf h0 h1 h2 h3 h4 ha g
    have hkc : k < c := by omega
    have hI3 : I' 3 = I 3 := hf 3 (by decide) (by decide) (by decide) (by decide)
    refine x_iload_2 cText_tell_68 ?_
    refine x_aload_1 cText_tell_69 ?_
    refine x_gI cText_tell_70 fText_58 rfl rfl ?_
    refine x_icmp_ge cText_tell_73 (fun q73 => absurd q73 (by rw [h0]; exact nI_ge hkc (by omega))) (fun q73 => ?_)
    refine x_bipush 6 (by decide) cText_tell_76 ?_
    refine x_iconst 4 (by decide) cText_tell_78 ?_
    refine x_iload_2 cText_tell_79 ?_
    refine x_imul cText_tell_80 ?_
    refine x_iadd cText_tell_81 ?_
    refine x_top (nI (6 + 4 * k)) (by rw [show (4 : Int32) * nI k = nI (4 * k) from pk_mul 4 k]; exact nI_add 6 (4 * k)) ?_
    refine x_istore_3 cText_tell_82 rfl (Nat.le_of_ble_eq_true rfl) ?_
    refine x_aload_1 cText_tell_83 ?_
    refine x_gR (b := 5) cText_tell_84 fText_61 rfl rfl rfl ?_
    refine x_iload_2 cText_tell_87 ?_
    refine x_aload_0 cText_tell_88 ?_
    refine x_iload_3 cText_tell_89 ?_
    refine x_iconst 1 (by decide) cText_tell_90 ?_
    refine x_iadd cText_tell_91 ?_
    refine x_v1 (ls0 := [some _, some _]) cText_tell_92 kText_34 okText_figure ⟨(Nat.le_of_ble_eq_true rfl), (Nat.le_of_ble_eq_true rfl)⟩ (Nat.le_of_ble_eq_true rfl) rfl (Nat.le_of_ble_eq_true rfl) rfl ⟨_, rfl, rfl⟩ rfl rfl (Nat.zero_le _) (Nat.zero_le _) ?_
    refine s_figure (j := 7 + 4 * k) (by rw [show nI (6 + 4 * k) + 1 = nI (6 + 4 * k + 1) from nI_1 _]; congr 1; omega) (by omega) ?_
    dsimp only [pushR]
    rw [hI3]
    refine x_t3 (ls0 := [some _, some _, some _]) cText_tell_95 kText_19 okK_put ⟨(Nat.le_of_ble_eq_true rfl), (Nat.le_of_ble_eq_true rfl)⟩ (Nat.le_of_ble_eq_true rfl) rfl (Nat.le_of_ble_eq_true rfl) rfl rfl (Nat.zero_le _) (Nat.zero_le _) ?_
    refine s_put k rfl rfl (by omega) (by decide) ?_
    dsimp only [pushR]
    refine x_aload_1 cText_tell_98 ?_
    refine x_gR (b := 6) cText_tell_99 fText_64 rfl rfl rfl ?_
    refine x_iload_2 cText_tell_102 ?_
    refine x_aload_0 cText_tell_103 ?_
    refine x_iload_3 cText_tell_104 ?_
    refine x_iconst 2 (by decide) cText_tell_105 ?_
    refine x_iadd cText_tell_106 ?_
    refine x_v1 (ls0 := [some _, some _]) cText_tell_107 kText_34 okText_figure ⟨(Nat.le_of_ble_eq_true rfl), (Nat.le_of_ble_eq_true rfl)⟩ (Nat.le_of_ble_eq_true rfl) rfl (Nat.le_of_ble_eq_true rfl) rfl ⟨_, rfl, rfl⟩ rfl rfl (Nat.zero_le _) (Nat.zero_le _) ?_
    refine s_figure (j := 8 + 4 * k) (by rw [show nI (6 + 4 * k) + 2 = nI (6 + 4 * k + 2) from nI_add _ 2]; congr 1; omega) (by omega) ?_
    dsimp only [pushR]
    rw [u2_n (show 3 ≠ 5 by decide), hI3]
    refine x_iconst 2 (by decide) cText_tell_110 ?_
    refine x_isub cText_tell_111 ?_
    refine x_t3 (ls0 := [some _, some _, some _]) cText_tell_112 kText_19 okK_put ⟨(Nat.le_of_ble_eq_true rfl), (Nat.le_of_ble_eq_true rfl)⟩ (Nat.le_of_ble_eq_true rfl) rfl (Nat.le_of_ble_eq_true rfl) rfl rfl (Nat.zero_le _) (Nat.zero_le _) ?_
    refine s_put k rfl rfl (by omega) (by decide) ?_
    dsimp only [pushR]
    refine x_aload_1 cText_tell_115 ?_
    refine x_gR (b := 7) cText_tell_116 fText_67 rfl rfl rfl ?_
    refine x_iload_2 cText_tell_119 ?_
    refine x_aload_0 cText_tell_120 ?_
    refine x_iload_3 cText_tell_121 ?_
    refine x_iconst 3 (by decide) cText_tell_122 ?_
    refine x_iadd cText_tell_123 ?_
    refine x_v1 (ls0 := [some _, some _]) cText_tell_124 kText_34 okText_figure ⟨(Nat.le_of_ble_eq_true rfl), (Nat.le_of_ble_eq_true rfl)⟩ (Nat.le_of_ble_eq_true rfl) rfl (Nat.le_of_ble_eq_true rfl) rfl ⟨_, rfl, rfl⟩ rfl rfl (Nat.zero_le _) (Nat.zero_le _) ?_
    refine s_figure (j := 9 + 4 * k) (by rw [show nI (6 + 4 * k) + 3 = nI (6 + 4 * k + 3) from nI_add _ 3]; congr 1; omega) (by omega) ?_
    dsimp only [pushR]
    rw [u2_n (show 3 ≠ 6 by decide), u2_n (show 3 ≠ 5 by decide), hI3]
    refine x_t3 (ls0 := [some _, some _, some _]) cText_tell_127 kText_19 okK_put ⟨(Nat.le_of_ble_eq_true rfl), (Nat.le_of_ble_eq_true rfl)⟩ (Nat.le_of_ble_eq_true rfl) rfl (Nat.le_of_ble_eq_true rfl) rfl rfl (Nat.zero_le _) (Nat.zero_le _) ?_
    refine s_put k rfl rfl (by omega) (by decide) ?_
    dsimp only [pushR]
    refine x_iinc_2 (nI (k + 1)) cText_tell_130 rfl (nI_inc k) (Nat.le_of_ble_eq_true rfl) ?_
    refine x_goto cText_tell_133 ?_
    refine ih (k + 1) (by omega) _ (fun a e1 e2 e3 e4 => by rw [u2_n e4, u2_n e3, u2_n e2]; exact hf a e1 e2 e3 e4) (by rw [u2_n (by decide), u2_n (by decide), u2_n (by decide)]; exact h0) (by rw [u2_n (by decide), u2_n (by decide), u2_n (by decide)]; exact h1) (by rw [u2_n (by decide), u2_n (by decide), u2_n (by decide)]; exact h2) (by rw [u2_n (by decide), u2_n (by decide), u2_n (by decide)]; exact h3) (by rw [u2_n (by decide), u2_n (by decide), u2_n (by decide)]; exact h4) (fun i hi => ?_) _
    rw [u2_n (show 5 ≠ 7 by decide), u2_n (show 5 ≠ 6 by decide), u2_g, u2_n (show 6 ≠ 7 by decide), u2_g, u2_n (show 6 ≠ 5 by decide), u2_g, u2_n (show 7 ≠ 6 by decide), u2_n (show 7 ≠ 5 by decide)]
    by_cases e : i = k
    · subst e; simp
    · rw [if_neg (fun z => e z.2), if_neg (fun z => e z.2), if_neg (fun z => e z.2)]
      exact ha i (by omega)
theorem s_tell {Po : Option Value → HS → Prop} {I : IT} {J : JT} {P : PT} {n : Nat} (hn : I 2 1 = nI n) (h6 : 6 ≤ n) (hn2 : n ≤ 26) (hq : ∀ I', TlOut I I' ((n - 6) / 4) → Po none (hp I' J P)) : xj yText_tell (mG yText_tell Po) 0 [some (.ref 2), some (.ref 4), none, none] [] (hp I J P) 0 0 := by
  refine x_aload_1 cText_tell_0 ?_
  refine x_aload_0 cText_tell_1 ?_
  refine x_iconst 1 (by decide) cText_tell_2 ?_
  refine x_v1 (ls0 := [some _, some _]) cText_tell_3 kText_34 okText_figure ⟨(Nat.le_of_ble_eq_true rfl), (Nat.le_of_ble_eq_true rfl)⟩ (Nat.le_of_ble_eq_true rfl) rfl (Nat.le_of_ble_eq_true rfl) rfl ⟨_, rfl, rfl⟩ rfl rfl (Nat.zero_le _) (Nat.zero_le _) ?_
  refine s_figure (j := 1) rfl (by decide) ?_
  dsimp only [pushR]
  refine x_iconst 2 (by decide) cText_tell_6 ?_
  refine x_isub cText_tell_7 ?_
  refine x_pI cText_tell_8 fText_38 rfl rfl ?_
  refine x_aload_1 cText_tell_11 ?_
  refine x_aload_0 cText_tell_12 ?_
  refine x_iconst 2 (by decide) cText_tell_13 ?_
  refine x_v1 (ls0 := [some _, some _]) cText_tell_14 kText_34 okText_figure ⟨(Nat.le_of_ble_eq_true rfl), (Nat.le_of_ble_eq_true rfl)⟩ (Nat.le_of_ble_eq_true rfl) rfl (Nat.le_of_ble_eq_true rfl) rfl ⟨_, rfl, rfl⟩ rfl rfl (Nat.zero_le _) (Nat.zero_le _) ?_
  refine s_figure (j := 2) rfl (by decide) ?_
  dsimp only [pushR]
  rw [u2_n (show 3 ≠ 4 by decide)]
  refine x_iconst 2 (by decide) cText_tell_17 ?_
  refine x_isub cText_tell_18 ?_
  refine x_pI cText_tell_19 fText_43 rfl rfl ?_
  refine x_aload_1 cText_tell_22 ?_
  refine x_bipush 10 (by decide) cText_tell_23 ?_
  refine x_aload_0 cText_tell_25 ?_
  refine x_iconst 3 (by decide) cText_tell_26 ?_
  refine x_v1 (ls0 := [some _, some _]) cText_tell_27 kText_34 okText_figure ⟨(Nat.le_of_ble_eq_true rfl), (Nat.le_of_ble_eq_true rfl)⟩ (Nat.le_of_ble_eq_true rfl) rfl (Nat.le_of_ble_eq_true rfl) rfl ⟨_, rfl, rfl⟩ rfl rfl (Nat.zero_le _) (Nat.zero_le _) ?_
  refine s_figure (j := 3) rfl (by decide) ?_
  dsimp only [pushR]
  rw [u2_n (show 3 ≠ 4 by decide), u2_n (show 3 ≠ 4 by decide)]
  refine x_imul cText_tell_30 ?_
  refine x_aload_0 cText_tell_31 ?_
  refine x_iconst 4 (by decide) cText_tell_32 ?_
  refine x_v1 (ls0 := [some _, some _]) cText_tell_33 kText_34 okText_figure ⟨(Nat.le_of_ble_eq_true rfl), (Nat.le_of_ble_eq_true rfl)⟩ (Nat.le_of_ble_eq_true rfl) rfl (Nat.le_of_ble_eq_true rfl) rfl ⟨_, rfl, rfl⟩ rfl rfl (Nat.zero_le _) (Nat.zero_le _) ?_
  refine s_figure (j := 4) rfl (by decide) ?_
  dsimp only [pushR]
  rw [u2_n (show 3 ≠ 4 by decide), u2_n (show 3 ≠ 4 by decide)]
  refine x_iadd cText_tell_36 ?_
  refine x_pI cText_tell_37 fText_46 rfl rfl ?_
  refine x_aload_1 cText_tell_40 ?_
  refine x_aload_0 cText_tell_41 ?_
  refine x_iconst 5 (by decide) cText_tell_42 ?_
  refine x_v1 (ls0 := [some _, some _]) cText_tell_43 kText_34 okText_figure ⟨(Nat.le_of_ble_eq_true rfl), (Nat.le_of_ble_eq_true rfl)⟩ (Nat.le_of_ble_eq_true rfl) rfl (Nat.le_of_ble_eq_true rfl) rfl ⟨_, rfl, rfl⟩ rfl rfl (Nat.zero_le _) (Nat.zero_le _) ?_
  refine s_figure (j := 5) rfl (by decide) ?_
  dsimp only [pushR]
  rw [u2_n (show 3 ≠ 4 by decide), u2_n (show 3 ≠ 4 by decide), u2_n (show 3 ≠ 4 by decide)]
  refine x_pI cText_tell_46 fText_49 rfl rfl ?_
  refine x_aload_1 cText_tell_49 ?_
  refine x_iconst 5 (by decide) cText_tell_50 ?_
  refine x_aload_0 cText_tell_51 ?_
  refine x_gI cText_tell_52 fText_15 rfl rfl ?_
  refine x_bipush 6 (by decide) cText_tell_55 ?_
  refine x_isub cText_tell_57 ?_
  refine x_iconst 4 (by decide) cText_tell_58 ?_
  refine x_idiv (by decide) cText_tell_59 ?_
  refine x_top (nI ((n - 6) / 4)) (by rw [u2_n (show 2 ≠ 4 by decide), u2_n (show 2 ≠ 4 by decide), u2_n (show 2 ≠ 4 by decide), u2_n (show 2 ≠ 4 by decide), hn, show nI n - 6 = nI (n - 6) from pk_sub (b := 6) h6]; exact pk_div (d := 4) (by omega) (by decide) (by decide)) ?_
  refine x_s2 (ls0 := [some _, some _]) cText_tell_60 kText_52 okMath_min ⟨(Nat.le_of_ble_eq_true rfl), (Nat.le_of_ble_eq_true rfl)⟩ (Nat.le_of_ble_eq_true rfl) rfl (Nat.le_of_ble_eq_true rfl) rfl rfl (Nat.zero_le _) (Nat.zero_le _) ?_
  refine s_min ?_
  dsimp only [pushR]
  refine x_top (nI ((n - 6) / 4)) (by
    by_cases e : (n - 6) / 4 < 5
    · rw [if_pos (show nI ((n - 6) / 4) < (5 : Int32) from nI_lt (b := 5) e (by decide))]
    · rw [if_neg (fun (z : nI ((n - 6) / 4) < (5 : Int32)) => e ((nI_ltI (b := 5) (by omega) (by decide)).mp z)), show (n - 6) / 4 = 5 by omega]; rfl) ?_
  refine x_pI cText_tell_63 fText_58 rfl rfl ?_
  refine x_iconst 0 (by decide) cText_tell_66 ?_
  refine x_istore_2 cText_tell_67 rfl (Nat.le_of_ble_eq_true rfl) ?_
  refine s_tell_loop (I := I) (c := (n - 6) / 4) (by omega) hq ((n - 6) / 4) 0 (by omega) _ (fun a e1 _ _ _ => by rw [u2_n e1, u2_n e1, u2_n e1, u2_n e1, u2_n e1]) ?_ ?_ ?_ ?_ ?_ (fun i hi => absurd hi (Nat.not_lt_zero i)) _ <;> simp [u2_g]
/-- the rows of the past: each a line of its own -/
def RowsOk (P : PT) : Prop := (∀ j, j < 14 → ∃ i, i < 14 ∧ P 9 j = 10 + 4 * i) ∧ ∀ i j, i < 14 → j < 14 → P 9 i = P 9 j → i = j
theorem RowsOk.ln {P : PT} (h : RowsOk P) {j : Nat} (hj : j < 14) : isLn (P 9 j) ∧ 10 ≤ P 9 j ∧ P 9 j ≤ 62 := by
  obtain ⟨i, hi, e⟩ := h.1 j hj
  rw [e]
  exact ⟨ln_row i hi, by omega, by omega⟩
theorem RowsOk.apart {P : PT} (h : RowsOk P) {i j : Nat} (hi : i < 14) (hj : j < 14) (hij : i ≠ j) : P 9 i + 3 < P 9 j ∨ P 9 j + 3 < P 9 i := by
  obtain ⟨a, ha, e⟩ := h.1 i hi
  obtain ⟨b, hb, e2⟩ := h.1 j hj
  have : P 9 i ≠ P 9 j := fun z => hij (h.2 i j hi hj z)
  omega
/-- the first row's line goes to the end -/
def rotP (P : PT) : PT := fun a => if a = 9 then (fun j => if j < 13 then P 9 (j + 1) else if j = 13 then P 9 0 else P 9 j) else P a
theorem RowsOk.rot {P : PT} (h : RowsOk P) : RowsOk (rotP P) := by
  have e : ∀ j, j < 14 → rotP P 9 j = P 9 (if j < 13 then j + 1 else 0) := fun j hj => by
    show (if j < 13 then P 9 (j + 1) else if j = 13 then P 9 0 else P 9 j) = _
    by_cases q : j < 13
    · rw [if_pos q, if_pos q]
    · rw [if_neg q, if_neg q, if_pos (by omega)]
  refine ⟨fun j hj => ?_, fun i j hi hj z => ?_⟩
  · rw [e j hj]
    exact h.1 _ (by split <;> omega)
  · rw [e i hi, e j hj] at z
    have := h.2 _ _ (by split <;> omega) (by split <;> omega) z
    split at this <;> split at this <;> omega
theorem uP_g (P : PT) (a j v b i : Nat) : uP P a j v b i = if b = a ∧ i = j then v else P b i := by
  by_cases h : b = a
  · subst h
    by_cases h2 : i = j <;> simp [uP, h2]
  · simp [uP, h]
theorem s_forget {Po : Option Value → HS → Prop} {I : IT} {J : JT} {P : PT} (hq : Po none (hp (u2 I 8 1 0) J P)) : xj yPast_forget (mG yPast_forget Po) 0 [some (.ref 8)] [] (hp I J P) 0 0 := by
  refine x_aload_0 cPast_forget_0 ?_
  refine x_iconst 0 (by decide) cPast_forget_1 ?_
  refine x_pI cPast_forget_2 fPast_19 rfl rfl ?_
  refine x_return cPast_forget_5 rfl (Nat.zero_le _) (Nat.zero_le _) ?_
  exact hq
theorem s_forgetFirst_loop {Po : Option Value → HS → Prop} {I : IT} {J : JT} {P : PT} (hR : RowsOk P) (hq : Po none (hp (u2 I 8 1 13) J (rotP P))) : ∀ n k, k + n = 14 → 1 ≤ k → ∀ P', (∀ a, a ≠ 9 → P' a = P a) → (∀ j, j + 1 < k → P' 9 j = P 9 (j + 1)) → (∀ j, k ≤ j + 1 → P' 9 j = P 9 j) → xj yPast_forgetFirst (mG yPast_forgetFirst Po) 18 [some (.ref 8), some (.ref (P 9 0)), some (.int (nI k))] [] (hp I J P') 0 0 := by
  intro n
  induction n with
  | zero =>
    intro k hk h1 P' hf ha hb
    obtain rfl : k = 14 := by omega
    have hL := hR.ln (j := 0) (by decide)
    refine x_iload_2 cPast_forgetFirst_18 ?_
    refine x_aload_0 cPast_forgetFirst_19 ?_
    refine x_gR (b := 9) cPast_forgetFirst_20 fPast_13 rfl rfl rfl ?_
    refine x_l3 (14) cPast_forgetFirst_23 rfl rfl ?_
    refine x_icmp_ge cPast_forgetFirst_24 (fun q24 => ?_) (fun q24 => absurd q24 (fun z => z (by decide)))
    refine x_aload_0 cPast_forgetFirst_47 ?_
    refine x_gR (b := 9) cPast_forgetFirst_48 fPast_13 rfl rfl rfl ?_
    refine x_aload_0 cPast_forgetFirst_51 ?_
    refine x_gR (b := 9) cPast_forgetFirst_52 fPast_13 rfl rfl rfl ?_
    refine x_l3 (14) cPast_forgetFirst_55 rfl rfl ?_
    refine x_iconst 1 (by decide) cPast_forgetFirst_56 ?_
    refine x_isub cPast_forgetFirst_57 ?_
    refine x_aload_1 cPast_forgetFirst_58 ?_
    refine x_rs (13) cPast_forgetFirst_59 rfl rfl (by decide) (by decide) hL.1.1 ?_
    refine x_aload_0 cPast_forgetFirst_60 ?_
    refine x_aload_0 cPast_forgetFirst_61 ?_
    refine x_gR (b := 9) cPast_forgetFirst_62 fPast_13 rfl rfl rfl ?_
    refine x_l3 (14) cPast_forgetFirst_65 rfl rfl ?_
    refine x_iconst 1 (by decide) cPast_forgetFirst_66 ?_
    refine x_isub cPast_forgetFirst_67 ?_
    refine x_pI cPast_forgetFirst_68 fPast_19 rfl rfl ?_
    refine x_return cPast_forgetFirst_71 rfl (Nat.zero_le _) (Nat.zero_le _) ?_
    have e : uP P' 9 13 (P 9 0) = rotP P := by
      funext a j
      rw [uP_g]
      by_cases h9 : a = 9
      · subst h9
        show _ = (if j < 13 then P 9 (j + 1) else if j = 13 then P 9 0 else P 9 j)
        by_cases q : j < 13
        · rw [if_neg (fun z => absurd z.2 (by omega)), if_pos q, ha j (by omega)]
        · by_cases q2 : j = 13
          · rw [if_pos ⟨rfl, q2⟩, if_neg q, if_pos q2]
          · rw [if_neg (fun z => q2 z.2), if_neg q, if_neg q2, hb j (by omega)]
      · rw [if_neg (fun z => h9 z.1), hf a h9]
        show _ = (if a = 9 then _ else P a) j
        rw [if_neg h9]
    rw [e]
    exact hq
  | succ n ih =>
    intro k hk h1 P' hf ha hb
    have hL := hR.ln (j := k) (by omega)
    have ek : P' 9 k = P 9 k := hb k (by omega)
    refine x_iload_2 cPast_forgetFirst_18 ?_
    refine x_aload_0 cPast_forgetFirst_19 ?_
    refine x_gR (b := 9) cPast_forgetFirst_20 fPast_13 rfl rfl rfl ?_
    refine x_l3 (14) cPast_forgetFirst_23 rfl rfl ?_
    refine x_icmp_ge cPast_forgetFirst_24 (fun q24 => absurd q24 (nI_ge (show k < 14 by omega) (by decide))) (fun q24 => ?_)
    refine x_aload_0 cPast_forgetFirst_27 ?_
    refine x_gR (b := 9) cPast_forgetFirst_28 fPast_13 rfl rfl rfl ?_
    refine x_iload_2 cPast_forgetFirst_31 ?_
    refine x_iconst 1 (by decide) cPast_forgetFirst_32 ?_
    refine x_isub cPast_forgetFirst_33 ?_
    refine x_aload_0 cPast_forgetFirst_34 ?_
    refine x_gR (b := 9) cPast_forgetFirst_35 fPast_13 rfl rfl rfl ?_
    refine x_iload_2 cPast_forgetFirst_38 ?_
    refine x_rl (k) cPast_forgetFirst_39 rfl rfl (by omega) (by decide) ek (by omega) ?_
    refine x_rs (k - 1) cPast_forgetFirst_40 rfl (pk_sub (b := 1) h1) (by omega) (by decide) hL.1.1 ?_
    refine x_iinc_2 (nI (k + 1)) cPast_forgetFirst_41 rfl (nI_inc k) (Nat.le_of_ble_eq_true rfl) ?_
    refine x_goto cPast_forgetFirst_44 ?_
    refine ih (k + 1) (by omega) (by omega) _ (fun a h9 => ?_) (fun j hj => ?_) (fun j hj => ?_)
    · funext j
      rw [uP_g, if_neg (fun z => h9 z.1), hf a h9]
    · rw [uP_g]
      by_cases e : j = k - 1
      · subst e
        rw [if_pos ⟨rfl, rfl⟩, show k - 1 + 1 = k by omega]
      · rw [if_neg (fun z => e z.2)]
        exact ha j (by omega)
    · rw [uP_g, if_neg (fun z => absurd z.2 (by omega))]
      exact hb j (by omega)
theorem s_forgetFirst {Po : Option Value → HS → Prop} {I : IT} {J : JT} {P : PT} (hR : RowsOk P) (hq : Po none (hp (u2 I 8 1 13) J (rotP P))) : xj yPast_forgetFirst (mG yPast_forgetFirst Po) 0 [some (.ref 8), none, none] [] (hp I J P) 0 0 := by
  have hL := hR.ln (j := 0) (by decide)
  refine x_aload_0 cPast_forgetFirst_0 ?_
  refine x_gR (b := 9) cPast_forgetFirst_1 fPast_13 rfl rfl rfl ?_
  refine x_l3 (14) cPast_forgetFirst_4 rfl rfl ?_
  refine x_if_ne cPast_forgetFirst_5 (fun q5 => ?_) (fun q5 => absurd q5 (by decide))
  refine x_aload_0 cPast_forgetFirst_9 ?_
  refine x_gR (b := 9) cPast_forgetFirst_10 fPast_13 rfl rfl rfl ?_
  refine x_iconst 0 (by decide) cPast_forgetFirst_13 ?_
  refine x_rl (0) cPast_forgetFirst_14 rfl rfl (by decide) (by decide) rfl (by omega) ?_
  refine x_astore_1 cPast_forgetFirst_15 rfl (Nat.le_of_ble_eq_true rfl) ?_
  refine x_iconst 1 (by decide) cPast_forgetFirst_16 ?_
  refine x_istore_2 cPast_forgetFirst_17 rfl (Nat.le_of_ble_eq_true rfl) ?_
  exact s_forgetFirst_loop hR hq 13 1 (by omega) (by omega) P (fun _ _ => rfl) (fun j hj => absurd hj (by omega)) (fun _ _ => rfl)
/-- what Past.remember leaves: behind n acts the line of the cell 4 in the row n -/
def RmOut (I I' : IT) (P' : PT) (c n : Nat) : Prop := (∀ a, a ≠ 8 → a ≠ P' 9 n → a ≠ P' 9 n + 1 → a ≠ P' 9 n + 2 → a ≠ P' 9 n + 3 → I' a = I a) ∧ I' 8 1 = nI (n + 1) ∧ I' (P' 9 n) 0 = nI c ∧ (∀ j, 1 ≤ j → j ≤ 4 → I' (P' 9 n) j = I 4 j) ∧ ∀ k, k < c → I' (P' 9 n + 1) k = I 5 k ∧ I' (P' 9 n + 2) k = I 6 k ∧ I' (P' 9 n + 3) k = I 7 k
theorem s_remember16 {Po : Option Value → HS → Prop} {I : IT} {J : JT} {P : PT} {c n : Nat} (hR : RowsOk P) (hn : I 8 1 = nI n) (hn14 : n < 14) (hc : I 4 0 = nI c) (hc5 : c ≤ 5) (hq : ∀ I', RmOut I I' P c n → Po none (hp I' J P)) : xj yPast_remember (mG yPast_remember Po) 16 [some (.ref 8), some (.ref 4)] [] (hp I J P) 0 0 := by
  have hL := hR.ln hn14
  refine x_aload_0 cPast_remember_16 ?_
  refine x_gI cPast_remember_17 fPast_19 rfl rfl ?_
  refine x_if_lt cPast_remember_20 (fun q20 => absurd q20 (by rw [hn]; exact nI_pos (by omega))) (fun q20 => ?_)
  refine x_aload_0 cPast_remember_23 ?_
  refine x_gI cPast_remember_24 fPast_19 rfl rfl ?_
  refine x_aload_0 cPast_remember_27 ?_
  refine x_gR (b := 9) cPast_remember_28 fPast_13 rfl rfl rfl ?_
  refine x_l3 (14) cPast_remember_31 rfl rfl ?_
  refine x_icmp_ge cPast_remember_32 (fun q32 => absurd q32 (by rw [hn]; exact nI_ge hn14 (by decide))) (fun q32 => ?_)
  refine x_aload_0 cPast_remember_35 ?_
  refine x_gR (b := 9) cPast_remember_36 fPast_13 rfl rfl rfl ?_
  refine x_aload_0 cPast_remember_39 ?_
  refine x_gI cPast_remember_40 fPast_19 rfl rfl ?_
  refine x_rl (n) cPast_remember_43 rfl hn hn14 (by decide) rfl (by omega) ?_
  refine x_ifnull cPast_remember_44 ?_
  refine x_aload_0 cPast_remember_47 ?_
  refine x_gR (b := 9) cPast_remember_48 fPast_13 rfl rfl rfl ?_
  refine x_aload_0 cPast_remember_51 ?_
  refine x_gI cPast_remember_52 fPast_19 rfl rfl ?_
  refine x_rl (n) cPast_remember_55 rfl hn hn14 (by decide) rfl (by omega) ?_
  refine x_aload_1 cPast_remember_56 ?_
  refine x_v1 (ls0 := [some _, some _]) cPast_remember_57 kPast_26 okLine_take ⟨(Nat.le_of_ble_eq_true rfl), (Nat.le_of_ble_eq_true rfl)⟩ (Nat.le_of_ble_eq_true rfl) rfl (Nat.le_of_ble_eq_true rfl) hL.1.1 ⟨_, rfl, rfl⟩ rfl rfl (Nat.zero_le _) (Nat.zero_le _) ?_
  refine s_take (A := P 9 n) (B := 4) hL.1 ln_4 (by omega) hc hc5 (fun I1 hT => ?_)
  obtain ⟨t1, t2, t3, t4⟩ := hT
  dsimp only [pushR]
  refine x_aload_0 cPast_remember_60 ?_
  refine x_dup rfl cPast_remember_61 ?_
  refine x_gI cPast_remember_62 fPast_19 rfl rfl ?_
  refine x_iconst 1 (by decide) cPast_remember_65 ?_
  refine x_iadd cPast_remember_66 ?_
  refine x_top (nI (n + 1)) (by rw [t1 8 (by omega) (by omega) (by omega) (by omega), hn, nI_1]) ?_
  refine x_pI cPast_remember_67 fPast_19 rfl rfl ?_
  refine x_return cPast_remember_70 rfl (Nat.zero_le _) (Nat.zero_le _) ?_
  refine hq _ ⟨fun a e0 e1 e2 e3 e4 => by rw [u2_n e0]; exact t1 a e1 e2 e3 e4, by rw [u2_ss], by rw [u2_n (by omega)]; exact t2, fun j h1 h2 => by rw [u2_n (by omega)]; exact t3 j h1 h2, fun k hk => ?_⟩
  rw [u2_n (by omega), u2_n (by omega), u2_n (by omega)]
  exact t4 k hk
theorem s_remember {Po : Option Value → HS → Prop} {I : IT} {J : JT} {P : PT} {c n : Nat} (hR : RowsOk P) (hn : I 8 1 = nI n) (hn14 : n ≤ 14) (hc : I 4 0 = nI c) (hc5 : c ≤ 5) (h1 : n < 14 → ∀ I', RmOut I I' P c n → Po none (hp I' J P)) (h2 : n = 14 → ∀ I', RmOut I I' (rotP P) c 13 → Po none (hp I' J (rotP P))) : xj yPast_remember (mG yPast_remember Po) 0 [some (.ref 8), some (.ref 4)] [] (hp I J P) 0 0 := by
  refine x_aload_0 cPast_remember_0 ?_
  refine x_gI cPast_remember_1 fPast_19 rfl rfl ?_
  refine x_aload_0 cPast_remember_4 ?_
  refine x_gR (b := 9) cPast_remember_5 fPast_13 rfl rfl rfl ?_
  refine x_l3 (14) cPast_remember_8 rfl rfl ?_
  refine x_icmp_lt cPast_remember_9 (fun q9 => ?_) (fun q9 => ?_)
  · have h14 : n < 14 := by
      rw [hn] at q9
      exact (nI_ltI (by omega) (by decide)).mp q9
    exact s_remember16 hR hn h14 hc hc5 (h1 h14)
  · have h14 : n = 14 := by
      rw [hn] at q9
      rcases Nat.lt_or_ge n 14 with z | z
      · exact absurd (nI_lt z (by decide)) q9
      · omega
    refine x_aload_0 cPast_remember_12 ?_
    refine x_v0 (ls0 := [some _, none, none]) cPast_remember_13 kPast_23 okPast_forgetFirst ⟨(Nat.le_of_ble_eq_true rfl), (Nat.le_of_ble_eq_true rfl)⟩ (Nat.le_of_ble_eq_true rfl) rfl (Nat.le_of_ble_eq_true rfl) rfl ⟨_, rfl, rfl⟩ rfl rfl (Nat.zero_le _) (Nat.zero_le _) ?_
    refine s_forgetFirst hR ?_
    dsimp only [pushR]
    exact s_remember16 (I := u2 I 8 1 13) (n := 13) hR.rot (by rw [u2_ss]; rfl) (by decide) (by rw [u2_n (by decide)]; exact hc) hc5 (fun I' hO => h2 h14 I' (by
      obtain ⟨a1, a2, a3, a4, a5⟩ := hO
      refine ⟨fun a e0 e1 e2 e3 e4 => by rw [a1 a e0 e1 e2 e3 e4, u2_n e0], a2, a3, fun j q1 q2 => by rw [a4 j q1 q2, u2_n (by decide)], fun k hk => ?_⟩
      have := a5 k hk
      rw [u2_n (by decide), u2_n (by decide), u2_n (by decide)] at this
      exact this))
theorem s_giveBack {Po : Option Value → HS → Prop} {I : IT} {J : JT} {P : PT} {c n : Nat} (hR : RowsOk P) (hn : I 8 1 = nI (n + 1)) (hn14 : n < 14) (hc : I (P 9 n) 0 = nI c) (hc5 : c ≤ 5) (hq : ∀ I', CpOut (u2 I 8 1 (nI n)) I' 4 (P 9 n) c → Po none (hp I' J P)) : xj yPast_giveBack (mG yPast_giveBack Po) 0 [some (.ref 8), some (.ref 4), none] [] (hp I J P) 0 0 := by
  have hL := hR.ln hn14
  refine x_aload_0 cPast_giveBack_0 ?_
  refine x_gI cPast_giveBack_1 fPast_19 rfl rfl ?_
  refine x_iconst 1 (by decide) cPast_giveBack_4 ?_
  refine x_isub cPast_giveBack_5 ?_
  refine x_top (nI n) (by rw [hn]; exact nI_pred n) ?_
  refine x_istore_2 cPast_giveBack_6 rfl (Nat.le_of_ble_eq_true rfl) ?_
  refine x_iload_2 cPast_giveBack_7 ?_
  refine x_if_lt cPast_giveBack_8 (fun q8 => absurd q8 (nI_pos (by omega))) (fun q8 => ?_)
  refine x_iload_2 cPast_giveBack_11 ?_
  refine x_aload_0 cPast_giveBack_12 ?_
  refine x_gR (b := 9) cPast_giveBack_13 fPast_13 rfl rfl rfl ?_
  refine x_l3 (14) cPast_giveBack_16 rfl rfl ?_
  refine x_icmp_ge cPast_giveBack_17 (fun q17 => absurd q17 (nI_ge hn14 (by decide))) (fun q17 => ?_)
  refine x_aload_0 cPast_giveBack_20 ?_
  refine x_gR (b := 9) cPast_giveBack_21 fPast_13 rfl rfl rfl ?_
  refine x_iload_2 cPast_giveBack_24 ?_
  refine x_rl (n) cPast_giveBack_25 rfl rfl hn14 (by decide) rfl (by omega) ?_
  refine x_ifnull cPast_giveBack_26 ?_
  refine x_aload_1 cPast_giveBack_29 ?_
  refine x_aload_0 cPast_giveBack_30 ?_
  refine x_gR (b := 9) cPast_giveBack_31 fPast_13 rfl rfl rfl ?_
  refine x_iload_2 cPast_giveBack_34 ?_
  refine x_rl (n) cPast_giveBack_35 rfl rfl hn14 (by decide) rfl (by omega) ?_
  refine x_v1 (ls0 := [some _, some _]) cPast_giveBack_36 kPast_26 okLine_take ⟨(Nat.le_of_ble_eq_true rfl), (Nat.le_of_ble_eq_true rfl)⟩ (Nat.le_of_ble_eq_true rfl) rfl (Nat.le_of_ble_eq_true rfl) rfl ⟨_, rfl, rfl⟩ rfl rfl (Nat.zero_le _) (Nat.zero_le _) ?_
  refine s_take (A := 4) (B := P 9 n) ln_4 hL.1 (by omega) hc hc5 (fun I1 hT => ?_)
  obtain ⟨t1, t2, t3, t4⟩ := hT
  dsimp only [pushR]
  refine x_aload_0 cPast_giveBack_39 ?_
  refine x_iload_2 cPast_giveBack_40 ?_
  refine x_pI cPast_giveBack_41 fPast_19 rfl rfl ?_
  refine x_return cPast_giveBack_44 rfl (Nat.zero_le _) (Nat.zero_le _) ?_
  refine hq _ ⟨fun a e1 e2 e3 e4 => ?_, by rw [u2_n (by decide)]; exact t2, fun j h1 h2 => by rw [u2_n (by decide), u2_n (by omega)]; exact t3 j h1 h2, fun k hk => ?_⟩
  · by_cases e : a = 8
    · subst e; rw [u2_s, u2_s, t1 8 (by decide) (by decide) (by decide) (by decide)]
    · rw [u2_n e, u2_n e]; exact t1 a e1 e2 e3 e4
  · rw [u2_n (by decide), u2_n (by omega), u2_n (by decide), u2_n (by omega), u2_n (by decide), u2_n (by omega)]
    exact t4 k hk
end
section
/-- the class keeps all but its room for questions -/
def SameC (I I' : IT) : Prop := ∀ a, (a < 79 ∨ 89 < a) → I' a = I a
theorem SameC.rf {I : IT} : SameC I I := fun _ _ => rfl
def RWrite (I I' : IT) (n : Nat) (v r : Int32) : Prop :=
  ((v < 0 ∨ 255 < v) → r = -2 ∧ I' = I) ∧ (¬ (v < 0 ∨ 255 < v) → (n = 32 → r = -4 ∧ I' = I) ∧ (n < 32 → r = nI (n + 1) ∧ (∀ a, a ≠ 2 → a ≠ 3 → I' a = I a) ∧ I' 2 1 = nI (n + 1) ∧ I' 3 n = v ∧ ∀ j, j ≠ n → I' 3 j = I 3 j))
theorem k_write {Po : Option Value → HS → Prop} {I : IT} {J : JT} {P : PT} {n : Nat} {v : Int32} (hn : I 2 1 = nI n) (hn2 : n ≤ 32) (hq : ∀ (r : Int32) (I' : IT), RWrite I I' n v r → Po (some (.int r)) (hp I' J P)) : xj yK_write (mG yK_write Po) 0 [some (.ref 1), some (.int v)] [] (hp I J P) 0 0 := by
  refine x_iload_1 cK_write_0 ?_
  refine x_if_lt cK_write_1 (fun q1 => ?_) (fun q1 => ?_)
  · refine x_bipush (-2) (by decide) cK_write_11 ?_
    refine x_ireturn cK_write_13 rfl rfl (Nat.zero_le _) (Nat.zero_le _) ?_
    exact hq _ _ ⟨fun _ => ⟨rfl, rfl⟩, fun z => absurd (Or.inl q1) z⟩
  · refine x_iload_1 cK_write_4 ?_
    refine x_sipush 255 (by decide) cK_write_5 ?_
    refine x_icmp_le cK_write_8 (fun q8 => ?_) (fun q8 => ?_)
    · refine x_aload_0 cK_write_14 ?_
      refine x_gR (b := 2) cK_write_15 fK_10 rfl rfl rfl ?_
      refine x_gI cK_write_18 fK_84 rfl rfl ?_
      refine x_bipush 32 (by decide) cK_write_21 ?_
      refine x_icmp_lt cK_write_23 (fun q23 => ?_) (fun q23 => ?_)
      · refine x_aload_0 cK_write_29 ?_
        refine x_gR (b := 2) cK_write_30 fK_10 rfl rfl rfl ?_
        refine x_iload_1 cK_write_33 ?_
        refine x_v1 (ls0 := [some _, some _]) cK_write_34 kK_88 okText_append ⟨(Nat.le_of_ble_eq_true rfl), (Nat.le_of_ble_eq_true rfl)⟩ (Nat.le_of_ble_eq_true rfl) rfl (Nat.le_of_ble_eq_true rfl) rfl ⟨_, rfl, rfl⟩ rfl rfl (Nat.zero_le _) (Nat.zero_le _) ?_
        refine s_append (n := n) hn (by rw [hn] at q23; exact (nI_ltI (by omega) (by decide)).mp q23) (fun I' f1 f2 f3 f4 => ?_)
        dsimp only [pushR]
        refine x_ireturn cK_write_37 rfl rfl (Nat.zero_le _) (Nat.zero_le _) ?_
        exact hq _ _ ⟨fun z => absurd z (fun w => w.elim q1 (fun w => absurd w (Int32.not_lt.mpr q8))), fun _ => ⟨fun z => by subst z; exact absurd (by rw [hn]; rfl) (Int32.ne_of_lt q23), fun _ => ⟨rfl, f1, f2, f3, f4⟩⟩⟩
      · refine x_bipush (-4) (by decide) cK_write_26 ?_
        refine x_ireturn cK_write_28 rfl rfl (Nat.zero_le _) (Nat.zero_le _) ?_
        exact hq _ _ ⟨fun z => absurd z (fun w => w.elim q1 (fun w => absurd w (Int32.not_lt.mpr q8))), fun _ => ⟨fun _ => ⟨rfl, rfl⟩, fun z => absurd (by rw [hn]; exact nI_lt z (by decide)) q23⟩⟩
    · refine x_bipush (-2) (by decide) cK_write_11 ?_
      refine x_ireturn cK_write_13 rfl rfl (Nat.zero_le _) (Nat.zero_le _) ?_
      exact hq _ _ ⟨fun _ => ⟨rfl, rfl⟩, fun z => absurd (Or.inr (Int32.not_le.mp q8)) z⟩
theorem k_wipe {Po : Option Value → HS → Prop} {I : IT} {J : JT} {P : PT}   (hq : ∀ (r : Int32) (I' : IT), r = I 2 1 ∧ I' = u2 I 2 1 0 → Po (some (.int r)) (hp I' J P)) : xj yK_wipe (mG yK_wipe Po) 0 [some (.ref 1), none] [] (hp I J P) 0 0 := by
  refine x_aload_0 cK_wipe_0 ?_
  refine x_gR (b := 2) cK_wipe_1 fK_10 rfl rfl rfl ?_
  refine x_gI cK_wipe_4 fK_84 rfl rfl ?_
  refine x_istore_1 cK_wipe_7 rfl (Nat.le_of_ble_eq_true rfl) ?_
  refine x_aload_0 cK_wipe_8 ?_
  refine x_gR (b := 2) cK_wipe_9 fK_10 rfl rfl rfl ?_
  refine x_iconst 0 (by decide) cK_wipe_12 ?_
  refine x_pI cK_wipe_13 fK_84 rfl rfl ?_
  refine x_iload_1 cK_wipe_16 ?_
  refine x_ireturn cK_wipe_17 rfl rfl (Nat.zero_le _) (Nat.zero_le _) ?_
  exact hq _ _ ⟨rfl, rfl⟩
def RFault (t : Nat → Int32) (n : Nat) (r : Int32) : Prop :=
  (∀ p, p < n → ¬ okL t p → (∀ j, j < p → okL t j) → r = nI p) ∧ ((∀ j, j < n → okL t j) → (ended n → r = -9) ∧ (¬ ended n → r = nI n))
theorem fault_first {t : Nat → Int32} {n p : Nat} (hp : p < n) (h1 : ¬ okL t p) (h2 : ∀ j, j < p → okL t j) : RFault t n (nI p) :=
  ⟨fun q hq h3 h4 => by
    rcases Nat.lt_trichotomy p q with h | h | h
    · exact absurd (h4 p h) h1
    · rw [h]
    · exact absurd (h2 q h) h3, fun h => absurd (h p hp) h1⟩
theorem fault_none {t : Nat → Int32} {n : Nat} (h : ∀ j, j < n → okL t j) (he : ended n) : RFault t n (-9) := ⟨fun p hp h1 _ => absurd (h p hp) h1, fun _ => ⟨fun _ => rfl, fun z => absurd he z⟩⟩
theorem fault_end {t : Nat → Int32} {n : Nat} (h : ∀ j, j < n → okL t j) (he : ¬ ended n) : RFault t n (nI n) := ⟨fun p hp h1 _ => absurd (h p hp) h1, fun _ => ⟨fun z => absurd z he, fun _ => rfl⟩⟩
theorem fault_one {t t' : Nat → Int32} {n : Nat} {r r' : Int32} (e : ∀ j, j < n → t j = t' j) (hk : ∀ p, p < n → (okL t p ↔ okL t' p)) (h : RFault t n r) (h' : RFault t' n r') : r = r' := by
  by_cases ha : ∀ j, j < n → okL t j
  · have ha' : ∀ j, j < n → okL t' j := fun j hj => (hk j hj).mp (ha j hj)
    by_cases he : ended n
    · rw [(h.2 ha).1 he, (h'.2 ha').1 he]
    · rw [(h.2 ha).2 he, (h'.2 ha').2 he]
  · have hex : ∃ p, p < n ∧ ¬ okL t p := by
      apply Classical.byContradiction
      intro z
      exact ha (fun j hj => Classical.byContradiction fun w => z ⟨j, hj, w⟩)
    obtain ⟨p, ⟨hp, h1⟩, hm⟩ := pk_least (fun p => p < n ∧ ¬ okL t p) hex
    have h2 : ∀ j, j < p → okL t j := fun j hj => Classical.byContradiction fun w => hm j hj ⟨by omega, w⟩
    rw [h.1 p hp h1 h2, h'.1 p hp (fun z => h1 ((hk p hp).mpr z)) (fun j hj => (hk j (by omega)).mp (h2 j hj))]
theorem k_fault {Po : Option Value → HS → Prop} {I : IT} {J : JT} {P : PT} {n : Nat} (hn : I 2 1 = nI n) (hn2 : n ≤ 32) (hq : ∀ (r : Int32) (I' : IT), RFault (I 3) n r ∧ I' = I → Po (some (.int r)) (hp I' J P)) : xj yK_fault (mG yK_fault Po) 0 [some (.ref 1)] [] (hp I J P) 0 0 := by
  refine x_aload_0 cK_fault_0 ?_
  refine x_gR (b := 2) cK_fault_1 fK_10 rfl rfl rfl ?_
  refine x_v0 (ls0 := [some _, none]) cK_fault_4 kK_92 okText_firstFault ⟨(Nat.le_of_ble_eq_true rfl), (Nat.le_of_ble_eq_true rfl)⟩ (Nat.le_of_ble_eq_true rfl) rfl (Nat.le_of_ble_eq_true rfl) rfl ⟨_, rfl, rfl⟩ rfl rfl (Nat.zero_le _) (Nat.zero_le _) ?_
  refine s_firstFault hn hn2 (fun p a1 a2 a3 => ?_) (fun a1 a2 => ?_) (fun a1 a2 => ?_)
  · dsimp only [pushR]
    refine x_ireturn cK_fault_7 rfl rfl (Nat.zero_le _) (Nat.zero_le _) ?_
    exact hq _ _ ⟨fault_first a1 a2 a3, rfl⟩
  · dsimp only [pushR]
    refine x_ireturn cK_fault_7 rfl rfl (Nat.zero_le _) (Nat.zero_le _) ?_
    exact hq _ _ ⟨fault_none a1 a2, rfl⟩
  · dsimp only [pushR]
    refine x_ireturn cK_fault_7 rfl rfl (Nat.zero_le _) (Nat.zero_le _) ?_
    exact hq _ _ ⟨fault_end a1 a2, rfl⟩
theorem s_forgetKept {Po : Option Value → HS → Prop} {I : IT} {J : JT} {P : PT} (hq : Po none (hp (u2 (u2 I 75 0 0) 75 1 0) J P)) : xj yK_forgetKept (mG yK_forgetKept Po) 0 [some (.ref 1), none] [] (hp I J P) 0 0 := by
  refine x_iconst 0 (by decide) cK_forgetKept_0 ?_
  refine x_istore_1 cK_forgetKept_1 rfl (Nat.le_of_ble_eq_true rfl) ?_
  refine x_iload_1 cK_forgetKept_2 ?_
  refine x_aload_0 cK_forgetKept_3 ?_
  refine x_gR (b := 75) cK_forgetKept_4 fK_38 rfl rfl rfl ?_
  refine x_l2 (2) cK_forgetKept_7 rfl rfl ?_
  refine x_icmp_ge cK_forgetKept_8 (fun q8 => absurd q8 (by decide)) (fun q8 => ?_)
  refine x_aload_0 cK_forgetKept_11 ?_
  refine x_gR (b := 75) cK_forgetKept_12 fK_38 rfl rfl rfl ?_
  refine x_iload_1 cK_forgetKept_15 ?_
  refine x_iconst 0 (by decide) cK_forgetKept_16 ?_
  refine x_zs (0) cK_forgetKept_17 rfl rfl (by decide) (by decide) rfl ?_
  refine x_iinc_1 (nI 1) cK_forgetKept_18 rfl rfl (Nat.le_of_ble_eq_true rfl) ?_
  refine x_goto cK_forgetKept_21 ?_
  refine x_iload_1 cK_forgetKept_2 ?_
  refine x_aload_0 cK_forgetKept_3 ?_
  refine x_gR (b := 75) cK_forgetKept_4 fK_38 rfl rfl rfl ?_
  refine x_l2 (2) cK_forgetKept_7 rfl rfl ?_
  refine x_icmp_ge cK_forgetKept_8 (fun q8 => absurd q8 (by decide)) (fun q8 => ?_)
  refine x_aload_0 cK_forgetKept_11 ?_
  refine x_gR (b := 75) cK_forgetKept_12 fK_38 rfl rfl rfl ?_
  refine x_iload_1 cK_forgetKept_15 ?_
  refine x_iconst 0 (by decide) cK_forgetKept_16 ?_
  refine x_zs (1) cK_forgetKept_17 rfl rfl (by decide) (by decide) rfl ?_
  refine x_iinc_1 (nI 2) cK_forgetKept_18 rfl rfl (Nat.le_of_ble_eq_true rfl) ?_
  refine x_goto cK_forgetKept_21 ?_
  refine x_iload_1 cK_forgetKept_2 ?_
  refine x_aload_0 cK_forgetKept_3 ?_
  refine x_gR (b := 75) cK_forgetKept_4 fK_38 rfl rfl rfl ?_
  refine x_l2 (2) cK_forgetKept_7 rfl rfl ?_
  refine x_icmp_ge cK_forgetKept_8 (fun q8 => ?_) (fun q8 => absurd q8 (fun z => z (by decide)))
  refine x_return cK_forgetKept_24 rfl (Nat.zero_le _) (Nat.zero_le _) ?_
  exact hq
theorem k_fly {Po : Option Value → HS → Prop} {I : IT} {J : JT} {P : PT} {n : Nat} (hn : I 2 1 = nI n) (hn2 : n ≤ 32) (hq : ∀ (r : Int32) (I' : IT), ((¬ ((∀ j, j < n → okL (I 3) j) ∧ ended n)) → r = -3 ∧ I' = I) ∧ (((∀ j, j < n → okL (I 3) j) ∧ ended n) → n ≤ 26 → r = nI ((n - 6) / 4) ∧ ∃ I1, TlOut I I1 ((n - 6) / 4) ∧ I' = u2 (u2 (u2 I1 8 1 0) 75 0 0) 75 1 0) → Po (some (.int r)) (hp I' J P)) : xj yK_fly (mG yK_fly Po) 0 [some (.ref 1)] [] (hp I J P) 0 0 := by
  refine x_aload_0 cK_fly_0 ?_
  refine x_gR (b := 2) cK_fly_1 fK_10 rfl rfl rfl ?_
  refine x_v0 (ls0 := [some _, none]) cK_fly_4 kK_92 okText_firstFault ⟨(Nat.le_of_ble_eq_true rfl), (Nat.le_of_ble_eq_true rfl)⟩ (Nat.le_of_ble_eq_true rfl) rfl (Nat.le_of_ble_eq_true rfl) rfl ⟨_, rfl, rfl⟩ rfl rfl (Nat.zero_le _) (Nat.zero_le _) ?_
  have okle : (∀ j, j < n → okL (I 3) j) → n ≤ 26 := fun z => by
    apply Nat.le_of_not_lt
    intro w
    exact absurd (z 26 w).1 (by decide)
  refine s_firstFault hn hn2 (fun p a1 a2 a3 => ?_) (fun a1 a2 => ?_) (fun a1 a2 => ?_)
  · dsimp only [pushR]
    refine x_bipush (-9) (by decide) cK_fly_7 ?_
    refine x_icmp_eq cK_fly_9 (fun q9 => ?_) (fun q9 => ?_)
    · exact absurd q9 (by intro z; exact absurd (congrArg Int32.toInt z) (by rw [nI_toInt (by omega), show ((-9 : Int32)).toInt = -9 from rfl]; omega))
    · refine x_bipush (-3) (by decide) cK_fly_12 ?_
      refine x_ireturn cK_fly_14 rfl rfl (Nat.zero_le _) (Nat.zero_le _) ?_
      exact hq _ _ ⟨fun _ => ⟨rfl, rfl⟩, fun z => absurd (z.1 p a1) a2⟩
  · dsimp only [pushR]
    refine x_bipush (-9) (by decide) cK_fly_7 ?_
    refine x_icmp_eq cK_fly_9 (fun q9 => ?_) (fun q9 => ?_)
    · refine x_aload_0 cK_fly_15 ?_
      refine x_gR (b := 2) cK_fly_16 fK_10 rfl rfl rfl ?_
      refine x_aload_0 cK_fly_19 ?_
      refine x_gR (b := 4) cK_fly_20 fK_19 rfl rfl rfl ?_
      refine x_v1 (ls0 := [some _, some _, none, none]) cK_fly_23 kK_96 okText_tell ⟨(Nat.le_of_ble_eq_true rfl), (Nat.le_of_ble_eq_true rfl)⟩ (Nat.le_of_ble_eq_true rfl) rfl (Nat.le_of_ble_eq_true rfl) rfl ⟨_, rfl, rfl⟩ rfl rfl (Nat.zero_le _) (Nat.zero_le _) ?_
      refine s_tell hn a2.1 (okle a1) (fun I1 hT => ?_)
      dsimp only [pushR]
      refine x_aload_0 cK_fly_26 ?_
      refine x_gR (b := 8) cK_fly_27 fK_26 rfl rfl rfl ?_
      refine x_v0 (ls0 := [some _]) cK_fly_30 kK_100 okPast_forget ⟨(Nat.le_of_ble_eq_true rfl), (Nat.le_of_ble_eq_true rfl)⟩ (Nat.le_of_ble_eq_true rfl) rfl (Nat.le_of_ble_eq_true rfl) rfl ⟨_, rfl, rfl⟩ rfl rfl (Nat.zero_le _) (Nat.zero_le _) ?_
      refine s_forget ?_
      dsimp only [pushR]
      refine x_aload_0 cK_fly_33 ?_
      refine x_v0 (ls0 := [some _, none]) cK_fly_34 kK_103 okK_forgetKept ⟨(Nat.le_of_ble_eq_true rfl), (Nat.le_of_ble_eq_true rfl)⟩ (Nat.le_of_ble_eq_true rfl) rfl (Nat.le_of_ble_eq_true rfl) rfl ⟨_, rfl, rfl⟩ rfl rfl (Nat.zero_le _) (Nat.zero_le _) ?_
      refine s_forgetKept ?_
      dsimp only [pushR]
      refine x_aload_0 cK_fly_37 ?_
      refine x_gR (b := 4) cK_fly_38 fK_19 rfl rfl rfl ?_
      refine x_gI cK_fly_41 fK_106 rfl rfl ?_
      refine x_ireturn cK_fly_44 rfl rfl (Nat.zero_le _) (Nat.zero_le _) ?_
      exact hq _ _ ⟨fun z => absurd ⟨a1, a2⟩ z, fun _ _ => ⟨by rw [u2_n (by decide), u2_n (by decide), u2_n (by decide)]; exact hT.2.1, I1, hT, rfl⟩⟩
    · exact absurd rfl q9
  · dsimp only [pushR]
    refine x_bipush (-9) (by decide) cK_fly_7 ?_
    refine x_icmp_eq cK_fly_9 (fun q9 => ?_) (fun q9 => ?_)
    · exact absurd q9 (by intro z; exact absurd (congrArg Int32.toInt z) (by rw [nI_toInt (by omega), show ((-9 : Int32)).toInt = -9 from rfl]; omega))
    · refine x_bipush (-3) (by decide) cK_fly_12 ?_
      refine x_ireturn cK_fly_14 rfl rfl (Nat.zero_le _) (Nat.zero_le _) ?_
      exact hq _ _ ⟨fun _ => ⟨rfl, rfl⟩, fun z => absurd z.2 a2⟩
end
section
/-- an act is remembered -/
def RmAny (I I' : IT) (P P' : PT) (c n : Nat) : Prop := (n < 14 ∧ P' = P ∧ RmOut I I' P c n) ∨ (n = 14 ∧ P' = rotP P ∧ RmOut I I' (rotP P) c 13)
theorem RmAny.keeps {I I' : IT} {P P' : PT} {c n : Nat} (hR : RowsOk P) (h : RmAny I I' P P' c n) {a : Nat} (h8 : a ≠ 8) (ha : a < 10 ∨ 66 ≤ a) : I' a = I a := by
  rcases h with ⟨h1, -, h2⟩ | ⟨h1, -, h2⟩
  · have := hR.ln h1
    exact h2.1 a h8 (by omega) (by omega) (by omega) (by omega)
  · have := hR.rot.ln (j := 13) (by decide)
    exact h2.1 a h8 (by omega) (by omega) (by omega) (by omega)
def RLetOut (I I' : IT) (P P' : PT) (c n : Nat) (i d r : Int32) : Prop :=
  ((¬ ∃ j, j < c ∧ i = nI j) → r = -1 ∧ I' = I ∧ P' = P) ∧ ∀ j, j < c → i = nI j →
    ((d = 0 ∨ ¬ (-9 ≤ d ∧ d ≤ 9)) → r = -2 ∧ I' = I ∧ P' = P) ∧ (¬ (d = 0 ∨ ¬ (-9 ≤ d ∧ d ≤ 9)) →
      (¬ (1 ≤ I 5 j + d ∧ I 5 j + d ≤ 30) → r = -3 ∧ I' = I ∧ P' = P) ∧ ((1 ≤ I 5 j + d ∧ I 5 j + d ≤ 30) → r = I 5 j + d ∧ ∃ I1, RmAny I I1 P P' c n ∧ I' = u2 I1 5 j (I 5 j + d)))
def RSet (I I' : IT) (P P' : PT) (c n : Nat) (i d r : Int32) : Prop :=
  ((¬ ∃ j, j < c ∧ i = nI j) → r = -1 ∧ I' = I ∧ P' = P) ∧ ∀ j, j < c → i = nI j →
    (¬ (-2 ≤ d ∧ d ≤ 2) → r = -2 ∧ I' = I ∧ P' = P) ∧ ((-2 ≤ d ∧ d ≤ 2) →
      (I 6 j = d → r = -3 ∧ I' = I ∧ P' = P) ∧ (¬ I 6 j = d → r = I 6 j + 2 ∧ ∃ I1, RmAny I I1 P P' c n ∧ I' = u2 I1 6 j d))
def RCut (I I' : IT) (P P' : PT) (c n : Nat) (i r : Int32) : Prop :=
  ((¬ ∃ j, j < c ∧ i = nI j) → r = -1 ∧ I' = I ∧ P' = P) ∧ ∀ j, j < c → i = nI j → r = nI j ∧ ∃ I1, RmAny I I1 P P' c n ∧ I' = u2 I1 4 0 (nI j)
def RTurn (I I' : IT) (P P' : PT) (c n : Nat) (l h r : Int32) : Prop :=
  (¬ ((-2 ≤ l ∧ l ≤ 2) ∧ (-2 ≤ h ∧ h ≤ 2)) → r = -2 ∧ I' = I ∧ P' = P) ∧ (((-2 ≤ l ∧ l ≤ 2) ∧ (-2 ≤ h ∧ h ≤ 2)) →
    ((l = I 4 1 ∧ h = I 4 2) → r = -3 ∧ I' = I ∧ P' = P) ∧ (¬ (l = I 4 1 ∧ h = I 4 2) → r = 10 * (I 4 1 + 2) + I 4 2 + 2 ∧ ∃ I1, RmAny I I1 P P' c n ∧ I' = u2 (u2 I1 4 1 l) 4 2 h))
theorem nI_one {c j k : Nat} {i : Int32} (hc : c ≤ 5) (hj : j < c) (e : i = nI j) (hk : k < c) (e2 : i = nI k) : k = j := (nI_eq (by omega) (by omega)).mp (e2.symm.trans e)
theorem k_letOut {Po : Option Value → HS → Prop} {I : IT} {J : JT} {P : PT} {c n : Nat} {i d : Int32} (hc : I 4 0 = nI c) (hc5 : c ≤ 5) (hR : RowsOk P) (hn : I 8 1 = nI n) (hn14 : n ≤ 14) (hq : ∀ (r : Int32) (I' : IT) (P' : PT), RLetOut I I' P P' c n i d r → Po (some (.int r)) (hp I' J P')) : xj yK_letOut (mG yK_letOut Po) 0 [some (.ref 1), some (.int i), some (.int d), none] [] (hp I J P) 0 0 := by
  refine x_aload_0 cK_letOut_0 ?_
  refine x_gR (b := 4) cK_letOut_1 fK_19 rfl rfl rfl ?_
  refine x_iload_1 cK_letOut_4 ?_
  refine x_v1 (ls0 := [some _, some _]) cK_letOut_5 kK_132 okLine_has ⟨(Nat.le_of_ble_eq_true rfl), (Nat.le_of_ble_eq_true rfl)⟩ (Nat.le_of_ble_eq_true rfl) rfl (Nat.le_of_ble_eq_true rfl) rfl ⟨_, rfl, rfl⟩ rfl rfl (Nat.zero_le _) (Nat.zero_le _) ?_
  refine s_has ln_4 hc hc5 (fun j hj ej => ?_) (fun hno => ?_)
  · dsimp only [pushR]
    refine x_if_ne cK_letOut_8 (fun _ => ?_) (fun q => absurd q (by decide))
    refine x_iload_2 cK_letOut_13 ?_
    refine x_if_eq cK_letOut_14 (fun q14 => ?_) (fun q14 => ?_)
    · refine x_bipush (-2) (by decide) cK_letOut_26 ?_
      refine x_ireturn cK_letOut_28 rfl rfl (Nat.zero_le _) (Nat.zero_le _) ?_
      refine hq _ _ _ ⟨fun z => absurd ⟨j, hj, ej⟩ z, ?_⟩
      intro k hk ek
      obtain rfl := nI_one hc5 hj ej hk ek
      exact ⟨fun _ => ⟨rfl, rfl, rfl⟩, fun z => absurd (Or.inl q14) z⟩
    · refine x_iload_2 cK_letOut_17 ?_
      refine x_bipush 9 (by decide) cK_letOut_18 ?_
      refine x_s2 (ls0 := [some _, some _]) cK_letOut_20 kK_156 okK_within ⟨(Nat.le_of_ble_eq_true rfl), (Nat.le_of_ble_eq_true rfl)⟩ (Nat.le_of_ble_eq_true rfl) rfl (Nat.le_of_ble_eq_true rfl) rfl rfl (Nat.zero_le _) (Nat.zero_le _) ?_
      refine s_within (fun hw => ?_) (fun hw => ?_)
      · dsimp only [pushR]
        refine x_if_ne cK_letOut_23 (fun _ => ?_) (fun q => absurd q (by decide))
        refine x_aload_0 cK_letOut_29 ?_
        refine x_gR (b := 4) cK_letOut_30 fK_19 rfl rfl rfl ?_
        refine x_gR (b := 5) cK_letOut_33 fK_136 rfl rfl rfl ?_
        refine x_iload_1 cK_letOut_36 ?_
        refine x_s2 (ls0 := [some _, some _]) cK_letOut_37 kK_140 okK_at ⟨(Nat.le_of_ble_eq_true rfl), (Nat.le_of_ble_eq_true rfl)⟩ (Nat.le_of_ble_eq_true rfl) rfl (Nat.le_of_ble_eq_true rfl) rfl rfl (Nat.zero_le _) (Nat.zero_le _) ?_
        refine s_at j rfl ej (by omega) (by decide) ?_
        dsimp only [pushR]
        refine x_iload_2 cK_letOut_40 ?_
        refine x_iadd cK_letOut_41 ?_
        refine x_istore_3 cK_letOut_42 rfl (Nat.le_of_ble_eq_true rfl) ?_
        refine x_iload_3 cK_letOut_43 ?_
        refine x_iconst 1 (by decide) cK_letOut_44 ?_
        refine x_icmp_lt cK_letOut_45 (fun q45 => ?_) (fun q45 => ?_)
        · refine x_bipush (-3) (by decide) cK_letOut_54 ?_
          refine x_ireturn cK_letOut_56 rfl rfl (Nat.zero_le _) (Nat.zero_le _) ?_
          refine hq _ _ _ ⟨fun z => absurd ⟨j, hj, ej⟩ z, ?_⟩
          intro k hk ek
          obtain rfl := nI_one hc5 hj ej hk ek
          exact ⟨fun z => z.elim (fun w => absurd w q14) (fun w => absurd hw w), fun _ => ⟨fun _ => ⟨rfl, rfl, rfl⟩, fun z => absurd z.1 (nle_of q45)⟩⟩
        · refine x_iload_3 cK_letOut_48 ?_
          refine x_bipush 30 (by decide) cK_letOut_49 ?_
          refine x_icmp_le cK_letOut_51 (fun q51 => ?_) (fun q51 => ?_)
          · refine x_aload_0 cK_letOut_57 ?_
            refine x_gR (b := 8) cK_letOut_58 fK_26 rfl rfl rfl ?_
            refine x_aload_0 cK_letOut_61 ?_
            refine x_gR (b := 4) cK_letOut_62 fK_19 rfl rfl rfl ?_
            refine x_v1 (ls0 := [some _, some _]) cK_letOut_65 kK_160 okPast_remember ⟨(Nat.le_of_ble_eq_true rfl), (Nat.le_of_ble_eq_true rfl)⟩ (Nat.le_of_ble_eq_true rfl) rfl (Nat.le_of_ble_eq_true rfl) rfl ⟨_, rfl, rfl⟩ rfl rfl (Nat.zero_le _) (Nat.zero_le _) ?_
            refine s_remember hR hn hn14 hc hc5 (fun hlt I1 hO => ?_) (fun heq I1 hO => ?_)
            · dsimp only [pushR]
              have hM : RmAny I I1 P P c n := Or.inl ⟨hlt, rfl, hO⟩
              refine x_aload_0 cK_letOut_68 ?_
              refine x_gR (b := 4) cK_letOut_69 fK_19 rfl rfl rfl ?_
              refine x_gR (b := 5) cK_letOut_72 fK_136 rfl rfl rfl ?_
              refine x_iload_1 cK_letOut_75 ?_
              refine x_iload_3 cK_letOut_76 ?_
              refine x_s3 (ls0 := [some _, some _, some _]) cK_letOut_77 kK_163 okK_put ⟨(Nat.le_of_ble_eq_true rfl), (Nat.le_of_ble_eq_true rfl)⟩ (Nat.le_of_ble_eq_true rfl) rfl (Nat.le_of_ble_eq_true rfl) rfl rfl (Nat.zero_le _) (Nat.zero_le _) ?_
              refine s_put j rfl ej (by omega) (by decide) ?_
              dsimp only [pushR]
              refine x_iload_3 cK_letOut_80 ?_
              refine x_ireturn cK_letOut_81 rfl rfl (Nat.zero_le _) (Nat.zero_le _) ?_
              refine hq _ _ _ ⟨fun z => absurd ⟨j, hj, ej⟩ z, ?_⟩
              intro k hk ek
              obtain rfl := nI_one hc5 hj ej hk ek
              exact ⟨fun z => z.elim (fun w => absurd w q14) (fun w => absurd hw w), fun _ => ⟨fun z => absurd ⟨lts_of q45, q51⟩ z, fun _ => ⟨rfl, I1, hM, rfl⟩⟩⟩
            · dsimp only [pushR]
              have hM : RmAny I I1 P (rotP P) c n := Or.inr ⟨heq, rfl, hO⟩
              refine x_aload_0 cK_letOut_68 ?_
              refine x_gR (b := 4) cK_letOut_69 fK_19 rfl rfl rfl ?_
              refine x_gR (b := 5) cK_letOut_72 fK_136 rfl rfl rfl ?_
              refine x_iload_1 cK_letOut_75 ?_
              refine x_iload_3 cK_letOut_76 ?_
              refine x_s3 (ls0 := [some _, some _, some _]) cK_letOut_77 kK_163 okK_put ⟨(Nat.le_of_ble_eq_true rfl), (Nat.le_of_ble_eq_true rfl)⟩ (Nat.le_of_ble_eq_true rfl) rfl (Nat.le_of_ble_eq_true rfl) rfl rfl (Nat.zero_le _) (Nat.zero_le _) ?_
              refine s_put j rfl ej (by omega) (by decide) ?_
              dsimp only [pushR]
              refine x_iload_3 cK_letOut_80 ?_
              refine x_ireturn cK_letOut_81 rfl rfl (Nat.zero_le _) (Nat.zero_le _) ?_
              refine hq _ _ _ ⟨fun z => absurd ⟨j, hj, ej⟩ z, ?_⟩
              intro k hk ek
              obtain rfl := nI_one hc5 hj ej hk ek
              exact ⟨fun z => z.elim (fun w => absurd w q14) (fun w => absurd hw w), fun _ => ⟨fun z => absurd ⟨lts_of q45, q51⟩ z, fun _ => ⟨rfl, I1, hM, rfl⟩⟩⟩
          · refine x_bipush (-3) (by decide) cK_letOut_54 ?_
            refine x_ireturn cK_letOut_56 rfl rfl (Nat.zero_le _) (Nat.zero_le _) ?_
            refine hq _ _ _ ⟨fun z => absurd ⟨j, hj, ej⟩ z, ?_⟩
            intro k hk ek
            obtain rfl := nI_one hc5 hj ej hk ek
            exact ⟨fun z => z.elim (fun w => absurd w q14) (fun w => absurd hw w), fun _ => ⟨fun _ => ⟨rfl, rfl, rfl⟩, fun z => absurd z.2 q51⟩⟩
      · dsimp only [pushR]
        refine x_if_ne cK_letOut_23 (fun q => absurd rfl q) (fun _ => ?_)
        refine x_bipush (-2) (by decide) cK_letOut_26 ?_
        refine x_ireturn cK_letOut_28 rfl rfl (Nat.zero_le _) (Nat.zero_le _) ?_
        refine hq _ _ _ ⟨fun z => absurd ⟨j, hj, ej⟩ z, ?_⟩
        intro k hk ek
        obtain rfl := nI_one hc5 hj ej hk ek
        exact ⟨fun _ => ⟨rfl, rfl, rfl⟩, fun z => absurd (Or.inr hw) z⟩
  · dsimp only [pushR]
    refine x_if_ne cK_letOut_8 (fun q => absurd rfl q) (fun _ => ?_)
    refine x_iconst (-1) (by decide) cK_letOut_11 ?_
    refine x_ireturn cK_letOut_12 rfl rfl (Nat.zero_le _) (Nat.zero_le _) ?_
    exact hq _ _ _ ⟨fun _ => ⟨rfl, rfl, rfl⟩, fun j hj e => absurd ⟨j, hj, e⟩ hno⟩
theorem k_set {Po : Option Value → HS → Prop} {I : IT} {J : JT} {P : PT} {c n : Nat} {i d : Int32} (hc : I 4 0 = nI c) (hc5 : c ≤ 5) (hR : RowsOk P) (hn : I 8 1 = nI n) (hn14 : n ≤ 14) (hq : ∀ (r : Int32) (I' : IT) (P' : PT), RSet I I' P P' c n i d r → Po (some (.int r)) (hp I' J P')) : xj yK_set (mG yK_set Po) 0 [some (.ref 1), some (.int i), some (.int d), none] [] (hp I J P) 0 0 := by
  refine x_aload_0 cK_set_0 ?_
  refine x_gR (b := 4) cK_set_1 fK_19 rfl rfl rfl ?_
  refine x_iload_1 cK_set_4 ?_
  refine x_v1 (ls0 := [some _, some _]) cK_set_5 kK_132 okLine_has ⟨(Nat.le_of_ble_eq_true rfl), (Nat.le_of_ble_eq_true rfl)⟩ (Nat.le_of_ble_eq_true rfl) rfl (Nat.le_of_ble_eq_true rfl) rfl ⟨_, rfl, rfl⟩ rfl rfl (Nat.zero_le _) (Nat.zero_le _) ?_
  refine s_has ln_4 hc hc5 (fun j hj ej => ?_) (fun hno => ?_)
  · dsimp only [pushR]
    refine x_if_ne cK_set_8 (fun _ => ?_) (fun q => absurd q (by decide))
    refine x_iload_2 cK_set_13 ?_
    refine x_iconst 2 (by decide) cK_set_14 ?_
    refine x_s2 (ls0 := [some _, some _]) cK_set_15 kK_156 okK_within ⟨(Nat.le_of_ble_eq_true rfl), (Nat.le_of_ble_eq_true rfl)⟩ (Nat.le_of_ble_eq_true rfl) rfl (Nat.le_of_ble_eq_true rfl) rfl rfl (Nat.zero_le _) (Nat.zero_le _) ?_
    refine s_within (fun hw => ?_) (fun hw => ?_)
    · dsimp only [pushR]
      refine x_if_ne cK_set_18 (fun _ => ?_) (fun q => absurd q (by decide))
      refine x_aload_0 cK_set_24 ?_
      refine x_gR (b := 4) cK_set_25 fK_19 rfl rfl rfl ?_
      refine x_gR (b := 6) cK_set_28 fK_144 rfl rfl rfl ?_
      refine x_iload_1 cK_set_31 ?_
      refine x_s2 (ls0 := [some _, some _]) cK_set_32 kK_140 okK_at ⟨(Nat.le_of_ble_eq_true rfl), (Nat.le_of_ble_eq_true rfl)⟩ (Nat.le_of_ble_eq_true rfl) rfl (Nat.le_of_ble_eq_true rfl) rfl rfl (Nat.zero_le _) (Nat.zero_le _) ?_
      refine s_at j rfl ej (by omega) (by decide) ?_
      dsimp only [pushR]
      refine x_istore_3 cK_set_35 rfl (Nat.le_of_ble_eq_true rfl) ?_
      refine x_iload_3 cK_set_36 ?_
      refine x_iload_2 cK_set_37 ?_
      refine x_icmp_ne cK_set_38 (fun q38 => ?_) (fun q38 => ?_)
      · refine x_aload_0 cK_set_44 ?_
        refine x_gR (b := 8) cK_set_45 fK_26 rfl rfl rfl ?_
        refine x_aload_0 cK_set_48 ?_
        refine x_gR (b := 4) cK_set_49 fK_19 rfl rfl rfl ?_
        refine x_v1 (ls0 := [some _, some _]) cK_set_52 kK_160 okPast_remember ⟨(Nat.le_of_ble_eq_true rfl), (Nat.le_of_ble_eq_true rfl)⟩ (Nat.le_of_ble_eq_true rfl) rfl (Nat.le_of_ble_eq_true rfl) rfl ⟨_, rfl, rfl⟩ rfl rfl (Nat.zero_le _) (Nat.zero_le _) ?_
        refine s_remember hR hn hn14 hc hc5 (fun hlt I1 hO => ?_) (fun heq I1 hO => ?_)
        · dsimp only [pushR]
          have hM : RmAny I I1 P P c n := Or.inl ⟨hlt, rfl, hO⟩
          refine x_aload_0 cK_set_55 ?_
          refine x_gR (b := 4) cK_set_56 fK_19 rfl rfl rfl ?_
          refine x_gR (b := 6) cK_set_59 fK_144 rfl rfl rfl ?_
          refine x_iload_1 cK_set_62 ?_
          refine x_iload_2 cK_set_63 ?_
          refine x_s3 (ls0 := [some _, some _, some _]) cK_set_64 kK_163 okK_put ⟨(Nat.le_of_ble_eq_true rfl), (Nat.le_of_ble_eq_true rfl)⟩ (Nat.le_of_ble_eq_true rfl) rfl (Nat.le_of_ble_eq_true rfl) rfl rfl (Nat.zero_le _) (Nat.zero_le _) ?_
          refine s_put j rfl ej (by omega) (by decide) ?_
          dsimp only [pushR]
          refine x_iload_3 cK_set_67 ?_
          refine x_iconst 2 (by decide) cK_set_68 ?_
          refine x_iadd cK_set_69 ?_
          refine x_ireturn cK_set_70 rfl rfl (Nat.zero_le _) (Nat.zero_le _) ?_
          refine hq _ _ _ ⟨fun z => absurd ⟨j, hj, ej⟩ z, ?_⟩
          intro k hk ek
          obtain rfl := nI_one hc5 hj ej hk ek
          exact ⟨fun z => absurd hw z, fun _ => ⟨fun z => absurd z q38, fun _ => ⟨rfl, I1, hM, rfl⟩⟩⟩
        · dsimp only [pushR]
          have hM : RmAny I I1 P (rotP P) c n := Or.inr ⟨heq, rfl, hO⟩
          refine x_aload_0 cK_set_55 ?_
          refine x_gR (b := 4) cK_set_56 fK_19 rfl rfl rfl ?_
          refine x_gR (b := 6) cK_set_59 fK_144 rfl rfl rfl ?_
          refine x_iload_1 cK_set_62 ?_
          refine x_iload_2 cK_set_63 ?_
          refine x_s3 (ls0 := [some _, some _, some _]) cK_set_64 kK_163 okK_put ⟨(Nat.le_of_ble_eq_true rfl), (Nat.le_of_ble_eq_true rfl)⟩ (Nat.le_of_ble_eq_true rfl) rfl (Nat.le_of_ble_eq_true rfl) rfl rfl (Nat.zero_le _) (Nat.zero_le _) ?_
          refine s_put j rfl ej (by omega) (by decide) ?_
          dsimp only [pushR]
          refine x_iload_3 cK_set_67 ?_
          refine x_iconst 2 (by decide) cK_set_68 ?_
          refine x_iadd cK_set_69 ?_
          refine x_ireturn cK_set_70 rfl rfl (Nat.zero_le _) (Nat.zero_le _) ?_
          refine hq _ _ _ ⟨fun z => absurd ⟨j, hj, ej⟩ z, ?_⟩
          intro k hk ek
          obtain rfl := nI_one hc5 hj ej hk ek
          exact ⟨fun z => absurd hw z, fun _ => ⟨fun z => absurd z q38, fun _ => ⟨rfl, I1, hM, rfl⟩⟩⟩
      · refine x_bipush (-3) (by decide) cK_set_41 ?_
        refine x_ireturn cK_set_43 rfl rfl (Nat.zero_le _) (Nat.zero_le _) ?_
        refine hq _ _ _ ⟨fun z => absurd ⟨j, hj, ej⟩ z, ?_⟩
        intro k hk ek
        obtain rfl := nI_one hc5 hj ej hk ek
        exact ⟨fun z => absurd hw z, fun _ => ⟨fun _ => ⟨rfl, rfl, rfl⟩, fun z => absurd q38 z⟩⟩
    · dsimp only [pushR]
      refine x_if_ne cK_set_18 (fun q => absurd rfl q) (fun _ => ?_)
      refine x_bipush (-2) (by decide) cK_set_21 ?_
      refine x_ireturn cK_set_23 rfl rfl (Nat.zero_le _) (Nat.zero_le _) ?_
      refine hq _ _ _ ⟨fun z => absurd ⟨j, hj, ej⟩ z, ?_⟩
      intro k hk ek
      obtain rfl := nI_one hc5 hj ej hk ek
      exact ⟨fun _ => ⟨rfl, rfl, rfl⟩, fun z => absurd z hw⟩
  · dsimp only [pushR]
    refine x_if_ne cK_set_8 (fun q => absurd rfl q) (fun _ => ?_)
    refine x_iconst (-1) (by decide) cK_set_11 ?_
    refine x_ireturn cK_set_12 rfl rfl (Nat.zero_le _) (Nat.zero_le _) ?_
    exact hq _ _ _ ⟨fun _ => ⟨rfl, rfl, rfl⟩, fun j hj e => absurd ⟨j, hj, e⟩ hno⟩
theorem k_cut {Po : Option Value → HS → Prop} {I : IT} {J : JT} {P : PT} {c n : Nat} {i : Int32} (hc : I 4 0 = nI c) (hc5 : c ≤ 5) (hR : RowsOk P) (hn : I 8 1 = nI n) (hn14 : n ≤ 14) (hq : ∀ (r : Int32) (I' : IT) (P' : PT), RCut I I' P P' c n i r → Po (some (.int r)) (hp I' J P')) : xj yK_cut (mG yK_cut Po) 0 [some (.ref 1), some (.int i)] [] (hp I J P) 0 0 := by
  refine x_aload_0 cK_cut_0 ?_
  refine x_gR (b := 4) cK_cut_1 fK_19 rfl rfl rfl ?_
  refine x_iload_1 cK_cut_4 ?_
  refine x_v1 (ls0 := [some _, some _]) cK_cut_5 kK_132 okLine_has ⟨(Nat.le_of_ble_eq_true rfl), (Nat.le_of_ble_eq_true rfl)⟩ (Nat.le_of_ble_eq_true rfl) rfl (Nat.le_of_ble_eq_true rfl) rfl ⟨_, rfl, rfl⟩ rfl rfl (Nat.zero_le _) (Nat.zero_le _) ?_
  refine s_has ln_4 hc hc5 (fun j hj ej => ?_) (fun hno => ?_)
  · dsimp only [pushR]
    refine x_if_ne cK_cut_8 (fun _ => ?_) (fun q => absurd q (by decide))
    refine x_aload_0 cK_cut_13 ?_
    refine x_gR (b := 8) cK_cut_14 fK_26 rfl rfl rfl ?_
    refine x_aload_0 cK_cut_17 ?_
    refine x_gR (b := 4) cK_cut_18 fK_19 rfl rfl rfl ?_
    refine x_v1 (ls0 := [some _, some _]) cK_cut_21 kK_160 okPast_remember ⟨(Nat.le_of_ble_eq_true rfl), (Nat.le_of_ble_eq_true rfl)⟩ (Nat.le_of_ble_eq_true rfl) rfl (Nat.le_of_ble_eq_true rfl) rfl ⟨_, rfl, rfl⟩ rfl rfl (Nat.zero_le _) (Nat.zero_le _) ?_
    refine s_remember hR hn hn14 hc hc5 (fun hlt I1 hO => ?_) (fun heq I1 hO => ?_)
    · dsimp only [pushR]
      have hM : RmAny I I1 P P c n := Or.inl ⟨hlt, rfl, hO⟩
      refine x_aload_0 cK_cut_24 ?_
      refine x_gR (b := 4) cK_cut_25 fK_19 rfl rfl rfl ?_
      refine x_iload_1 cK_cut_28 ?_
      refine x_pI cK_cut_29 fK_106 rfl rfl ?_
      refine x_aload_0 cK_cut_32 ?_
      refine x_gR (b := 4) cK_cut_33 fK_19 rfl rfl rfl ?_
      refine x_gI cK_cut_36 fK_106 rfl rfl ?_
      refine x_ireturn cK_cut_39 rfl rfl (Nat.zero_le _) (Nat.zero_le _) ?_
      rw [u2_ss]
      refine hq _ _ _ ⟨fun z => absurd ⟨j, hj, ej⟩ z, ?_⟩
      intro k hk ek
      obtain rfl := nI_one hc5 hj ej hk ek
      exact ⟨ej, I1, hM, by rw [ej]⟩
    · dsimp only [pushR]
      have hM : RmAny I I1 P (rotP P) c n := Or.inr ⟨heq, rfl, hO⟩
      refine x_aload_0 cK_cut_24 ?_
      refine x_gR (b := 4) cK_cut_25 fK_19 rfl rfl rfl ?_
      refine x_iload_1 cK_cut_28 ?_
      refine x_pI cK_cut_29 fK_106 rfl rfl ?_
      refine x_aload_0 cK_cut_32 ?_
      refine x_gR (b := 4) cK_cut_33 fK_19 rfl rfl rfl ?_
      refine x_gI cK_cut_36 fK_106 rfl rfl ?_
      refine x_ireturn cK_cut_39 rfl rfl (Nat.zero_le _) (Nat.zero_le _) ?_
      rw [u2_ss]
      refine hq _ _ _ ⟨fun z => absurd ⟨j, hj, ej⟩ z, ?_⟩
      intro k hk ek
      obtain rfl := nI_one hc5 hj ej hk ek
      exact ⟨ej, I1, hM, by rw [ej]⟩
  · dsimp only [pushR]
    refine x_if_ne cK_cut_8 (fun q => absurd rfl q) (fun _ => ?_)
    refine x_iconst (-1) (by decide) cK_cut_11 ?_
    refine x_ireturn cK_cut_12 rfl rfl (Nat.zero_le _) (Nat.zero_le _) ?_
    exact hq _ _ _ ⟨fun _ => ⟨rfl, rfl, rfl⟩, fun j hj e => absurd ⟨j, hj, e⟩ hno⟩
theorem k_turn {Po : Option Value → HS → Prop} {I : IT} {J : JT} {P : PT} {c n : Nat} {l h : Int32} (hc : I 4 0 = nI c) (hc5 : c ≤ 5) (hR : RowsOk P) (hn : I 8 1 = nI n) (hn14 : n ≤ 14) (hq : ∀ (r : Int32) (I' : IT) (P' : PT), RTurn I I' P P' c n l h r → Po (some (.int r)) (hp I' J P')) : xj yK_turn (mG yK_turn Po) 0 [some (.ref 1), some (.int l), some (.int h), none] [] (hp I J P) 0 0 := by
  refine x_iload_1 cK_turn_0 ?_
  refine x_iconst 2 (by decide) cK_turn_1 ?_
  refine x_s2 (ls0 := [some _, some _]) cK_turn_2 kK_156 okK_within ⟨(Nat.le_of_ble_eq_true rfl), (Nat.le_of_ble_eq_true rfl)⟩ (Nat.le_of_ble_eq_true rfl) rfl (Nat.le_of_ble_eq_true rfl) rfl rfl (Nat.zero_le _) (Nat.zero_le _) ?_
  refine s_within (fun hw => ?_) (fun hw => ?_)
  · dsimp only [pushR]
    refine x_if_eq cK_turn_5 (fun q => absurd q (by decide)) (fun _ => ?_)
    refine x_iload_2 cK_turn_8 ?_
    refine x_iconst 2 (by decide) cK_turn_9 ?_
    refine x_s2 (ls0 := [some _, some _]) cK_turn_10 kK_156 okK_within ⟨(Nat.le_of_ble_eq_true rfl), (Nat.le_of_ble_eq_true rfl)⟩ (Nat.le_of_ble_eq_true rfl) rfl (Nat.le_of_ble_eq_true rfl) rfl rfl (Nat.zero_le _) (Nat.zero_le _) ?_
    refine s_within (fun hw2 => ?_) (fun hw2 => ?_)
    · dsimp only [pushR]
      refine x_if_ne cK_turn_13 (fun _ => ?_) (fun q => absurd q (by decide))
      refine x_iload_1 cK_turn_19 ?_
      refine x_aload_0 cK_turn_20 ?_
      refine x_gR (b := 4) cK_turn_21 fK_19 rfl rfl rfl ?_
      refine x_gI cK_turn_24 fK_109 rfl rfl ?_
      refine x_icmp_ne cK_turn_27 (fun q27 => ?_) (fun q27 => ?_)
      · refine x_aload_0 cK_turn_44 ?_
        refine x_gR (b := 4) cK_turn_45 fK_19 rfl rfl rfl ?_
        refine x_gI cK_turn_48 fK_109 rfl rfl ?_
        refine x_aload_0 cK_turn_51 ?_
        refine x_gR (b := 4) cK_turn_52 fK_19 rfl rfl rfl ?_
        refine x_gI cK_turn_55 fK_112 rfl rfl ?_
        refine x_s2 (ls0 := [some _, some _]) cK_turn_58 kK_167 okK_toldTogether ⟨(Nat.le_of_ble_eq_true rfl), (Nat.le_of_ble_eq_true rfl)⟩ (Nat.le_of_ble_eq_true rfl) rfl (Nat.le_of_ble_eq_true rfl) rfl rfl (Nat.zero_le _) (Nat.zero_le _) ?_
        refine s_toldTogether ?_
        dsimp only [pushR]
        refine x_istore_3 cK_turn_61 rfl (Nat.le_of_ble_eq_true rfl) ?_
        refine x_aload_0 cK_turn_62 ?_
        refine x_gR (b := 8) cK_turn_63 fK_26 rfl rfl rfl ?_
        refine x_aload_0 cK_turn_66 ?_
        refine x_gR (b := 4) cK_turn_67 fK_19 rfl rfl rfl ?_
        refine x_v1 (ls0 := [some _, some _]) cK_turn_70 kK_160 okPast_remember ⟨(Nat.le_of_ble_eq_true rfl), (Nat.le_of_ble_eq_true rfl)⟩ (Nat.le_of_ble_eq_true rfl) rfl (Nat.le_of_ble_eq_true rfl) rfl ⟨_, rfl, rfl⟩ rfl rfl (Nat.zero_le _) (Nat.zero_le _) ?_
        refine s_remember hR hn hn14 hc hc5 (fun hlt I1 hO => ?_) (fun heq I1 hO => ?_)
        · dsimp only [pushR]
          have hM : RmAny I I1 P P c n := Or.inl ⟨hlt, rfl, hO⟩
          refine x_aload_0 cK_turn_73 ?_
          refine x_gR (b := 4) cK_turn_74 fK_19 rfl rfl rfl ?_
          refine x_iload_1 cK_turn_77 ?_
          refine x_pI cK_turn_78 fK_109 rfl rfl ?_
          refine x_aload_0 cK_turn_81 ?_
          refine x_gR (b := 4) cK_turn_82 fK_19 rfl rfl rfl ?_
          refine x_iload_2 cK_turn_85 ?_
          refine x_pI cK_turn_86 fK_112 rfl rfl ?_
          refine x_iload_3 cK_turn_89 ?_
          refine x_ireturn cK_turn_90 rfl rfl (Nat.zero_le _) (Nat.zero_le _) ?_
          exact hq _ _ _ ⟨fun z => absurd ⟨hw, hw2⟩ z, fun _ => ⟨fun z => absurd z.1 q27, fun _ => ⟨rfl, I1, hM, rfl⟩⟩⟩
        · dsimp only [pushR]
          have hM : RmAny I I1 P (rotP P) c n := Or.inr ⟨heq, rfl, hO⟩
          refine x_aload_0 cK_turn_73 ?_
          refine x_gR (b := 4) cK_turn_74 fK_19 rfl rfl rfl ?_
          refine x_iload_1 cK_turn_77 ?_
          refine x_pI cK_turn_78 fK_109 rfl rfl ?_
          refine x_aload_0 cK_turn_81 ?_
          refine x_gR (b := 4) cK_turn_82 fK_19 rfl rfl rfl ?_
          refine x_iload_2 cK_turn_85 ?_
          refine x_pI cK_turn_86 fK_112 rfl rfl ?_
          refine x_iload_3 cK_turn_89 ?_
          refine x_ireturn cK_turn_90 rfl rfl (Nat.zero_le _) (Nat.zero_le _) ?_
          exact hq _ _ _ ⟨fun z => absurd ⟨hw, hw2⟩ z, fun _ => ⟨fun z => absurd z.1 q27, fun _ => ⟨rfl, I1, hM, rfl⟩⟩⟩
      · refine x_iload_2 cK_turn_30 ?_
        refine x_aload_0 cK_turn_31 ?_
        refine x_gR (b := 4) cK_turn_32 fK_19 rfl rfl rfl ?_
        refine x_gI cK_turn_35 fK_112 rfl rfl ?_
        refine x_icmp_ne cK_turn_38 (fun q38 => ?_) (fun q38 => ?_)
        · refine x_aload_0 cK_turn_44 ?_
          refine x_gR (b := 4) cK_turn_45 fK_19 rfl rfl rfl ?_
          refine x_gI cK_turn_48 fK_109 rfl rfl ?_
          refine x_aload_0 cK_turn_51 ?_
          refine x_gR (b := 4) cK_turn_52 fK_19 rfl rfl rfl ?_
          refine x_gI cK_turn_55 fK_112 rfl rfl ?_
          refine x_s2 (ls0 := [some _, some _]) cK_turn_58 kK_167 okK_toldTogether ⟨(Nat.le_of_ble_eq_true rfl), (Nat.le_of_ble_eq_true rfl)⟩ (Nat.le_of_ble_eq_true rfl) rfl (Nat.le_of_ble_eq_true rfl) rfl rfl (Nat.zero_le _) (Nat.zero_le _) ?_
          refine s_toldTogether ?_
          dsimp only [pushR]
          refine x_istore_3 cK_turn_61 rfl (Nat.le_of_ble_eq_true rfl) ?_
          refine x_aload_0 cK_turn_62 ?_
          refine x_gR (b := 8) cK_turn_63 fK_26 rfl rfl rfl ?_
          refine x_aload_0 cK_turn_66 ?_
          refine x_gR (b := 4) cK_turn_67 fK_19 rfl rfl rfl ?_
          refine x_v1 (ls0 := [some _, some _]) cK_turn_70 kK_160 okPast_remember ⟨(Nat.le_of_ble_eq_true rfl), (Nat.le_of_ble_eq_true rfl)⟩ (Nat.le_of_ble_eq_true rfl) rfl (Nat.le_of_ble_eq_true rfl) rfl ⟨_, rfl, rfl⟩ rfl rfl (Nat.zero_le _) (Nat.zero_le _) ?_
          refine s_remember hR hn hn14 hc hc5 (fun hlt I1 hO => ?_) (fun heq I1 hO => ?_)
          · dsimp only [pushR]
            have hM : RmAny I I1 P P c n := Or.inl ⟨hlt, rfl, hO⟩
            refine x_aload_0 cK_turn_73 ?_
            refine x_gR (b := 4) cK_turn_74 fK_19 rfl rfl rfl ?_
            refine x_iload_1 cK_turn_77 ?_
            refine x_pI cK_turn_78 fK_109 rfl rfl ?_
            refine x_aload_0 cK_turn_81 ?_
            refine x_gR (b := 4) cK_turn_82 fK_19 rfl rfl rfl ?_
            refine x_iload_2 cK_turn_85 ?_
            refine x_pI cK_turn_86 fK_112 rfl rfl ?_
            refine x_iload_3 cK_turn_89 ?_
            refine x_ireturn cK_turn_90 rfl rfl (Nat.zero_le _) (Nat.zero_le _) ?_
            exact hq _ _ _ ⟨fun z => absurd ⟨hw, hw2⟩ z, fun _ => ⟨fun z => absurd z.2 q38, fun _ => ⟨rfl, I1, hM, rfl⟩⟩⟩
          · dsimp only [pushR]
            have hM : RmAny I I1 P (rotP P) c n := Or.inr ⟨heq, rfl, hO⟩
            refine x_aload_0 cK_turn_73 ?_
            refine x_gR (b := 4) cK_turn_74 fK_19 rfl rfl rfl ?_
            refine x_iload_1 cK_turn_77 ?_
            refine x_pI cK_turn_78 fK_109 rfl rfl ?_
            refine x_aload_0 cK_turn_81 ?_
            refine x_gR (b := 4) cK_turn_82 fK_19 rfl rfl rfl ?_
            refine x_iload_2 cK_turn_85 ?_
            refine x_pI cK_turn_86 fK_112 rfl rfl ?_
            refine x_iload_3 cK_turn_89 ?_
            refine x_ireturn cK_turn_90 rfl rfl (Nat.zero_le _) (Nat.zero_le _) ?_
            exact hq _ _ _ ⟨fun z => absurd ⟨hw, hw2⟩ z, fun _ => ⟨fun z => absurd z.2 q38, fun _ => ⟨rfl, I1, hM, rfl⟩⟩⟩
        · refine x_bipush (-3) (by decide) cK_turn_41 ?_
          refine x_ireturn cK_turn_43 rfl rfl (Nat.zero_le _) (Nat.zero_le _) ?_
          exact hq _ _ _ ⟨fun z => absurd ⟨hw, hw2⟩ z, fun _ => ⟨fun _ => ⟨rfl, rfl, rfl⟩, fun z => absurd ⟨q27, q38⟩ z⟩⟩
    · dsimp only [pushR]
      refine x_if_ne cK_turn_13 (fun q => absurd rfl q) (fun _ => ?_)
      refine x_bipush (-2) (by decide) cK_turn_16 ?_
      refine x_ireturn cK_turn_18 rfl rfl (Nat.zero_le _) (Nat.zero_le _) ?_
      exact hq _ _ _ ⟨fun _ => ⟨rfl, rfl, rfl⟩, fun z => absurd z.2 hw2⟩
  · dsimp only [pushR]
    refine x_if_eq cK_turn_5 (fun _ => ?_) (fun q => absurd rfl q)
    refine x_bipush (-2) (by decide) cK_turn_16 ?_
    refine x_ireturn cK_turn_18 rfl rfl (Nat.zero_le _) (Nat.zero_le _) ?_
    exact hq _ _ _ ⟨fun _ => ⟨rfl, rfl, rfl⟩, fun z => absurd z.1 hw⟩
def RUndo (I I' : IT) (P : PT) (n : Nat) (r : Int32) : Prop := (n = 0 → r = -3 ∧ I' = I) ∧ ∀ m, n = m + 1 → r = nI m ∧ ∃ c, c ≤ 5 ∧ I (P 9 m) 0 = nI c ∧ CpOut (u2 I 8 1 (nI m)) I' 4 (P 9 m) c
theorem k_undo {Po : Option Value → HS → Prop} {I : IT} {J : JT} {P : PT} {n : Nat} (hR : RowsOk P) (hn : I 8 1 = nI n) (hn14 : n ≤ 14) (hcs : ∀ j, j < n → ∃ c, c ≤ 5 ∧ I (P 9 j) 0 = nI c) (hq : ∀ (r : Int32) (I' : IT), RUndo I I' P n r → Po (some (.int r)) (hp I' J P)) : xj yK_undo (mG yK_undo Po) 0 [some (.ref 1)] [] (hp I J P) 0 0 := by
  refine x_aload_0 cK_undo_0 ?_
  refine x_gR (b := 8) cK_undo_1 fK_26 rfl rfl rfl ?_
  refine x_gI cK_undo_4 fK_130 rfl rfl ?_
  refine x_if_gt cK_undo_7 (fun q7 => ?_) (fun q7 => ?_)
  · have h0 : 0 < n := by
      rcases Nat.eq_zero_or_pos n with e | e
      · exact absurd q7 (by rw [hn, e]; decide)
      · exact e
    obtain ⟨m, rfl⟩ : ∃ m, n = m + 1 := ⟨n - 1, by omega⟩
    obtain ⟨c, hc5, hc⟩ := hcs m (by omega)
    refine x_aload_0 cK_undo_13 ?_
    refine x_gR (b := 8) cK_undo_14 fK_26 rfl rfl rfl ?_
    refine x_aload_0 cK_undo_17 ?_
    refine x_gR (b := 4) cK_undo_18 fK_19 rfl rfl rfl ?_
    refine x_v1 (ls0 := [some _, some _, none]) cK_undo_21 kK_171 okPast_giveBack ⟨(Nat.le_of_ble_eq_true rfl), (Nat.le_of_ble_eq_true rfl)⟩ (Nat.le_of_ble_eq_true rfl) rfl (Nat.le_of_ble_eq_true rfl) rfl ⟨_, rfl, rfl⟩ rfl rfl (Nat.zero_le _) (Nat.zero_le _) ?_
    refine s_giveBack hR hn (by omega) hc hc5 (fun I1 hC => ?_)
    dsimp only [pushR]
    refine x_aload_0 cK_undo_24 ?_
    refine x_gR (b := 8) cK_undo_25 fK_26 rfl rfl rfl ?_
    refine x_gI cK_undo_28 fK_130 rfl rfl ?_
    refine x_ireturn cK_undo_31 rfl rfl (Nat.zero_le _) (Nat.zero_le _) ?_
    refine hq _ _ ⟨fun z => absurd z (by omega), fun m' e => ?_⟩
    obtain rfl : m' = m := by omega
    refine ⟨?_, c, hc5, hc, hC⟩
    rw [hC.1 8 (by decide) (by decide) (by decide) (by decide), u2_ss]
  · have h0 : n = 0 := by
      rcases Nat.eq_zero_or_pos n with e | e
      · exact e
      · exact absurd (by rw [hn]; exact nI_lt (a := 0) e (by omega)) q7
    refine x_bipush (-3) (by decide) cK_undo_10 ?_
    refine x_ireturn cK_undo_12 rfl rfl (Nat.zero_le _) (Nat.zero_le _) ?_
    exact hq _ _ ⟨fun _ => ⟨rfl, rfl⟩, fun m e => absurd (h0.symm.trans e) (by omega)⟩
end
