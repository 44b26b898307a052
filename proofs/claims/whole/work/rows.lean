section
-- ===== PART A: goes FIRST, ahead of the names: the tables' words, and 'selects' of the private methods out of them =====
/-- a private method of a class that the tables say can be made, by its rows of tables_1 -/
def lw_okq (q : MethodName × Nat) : Prop := (q.1.cls ≠ "java/lang/invoke/MethodHandle" ∧ q.1.cls ≠ "java/lang/invoke/VarHandle") ∧ Cond.instantiable q.1.cls q.2 ∈ tables_1 ∧ Cond.privateMethod q.1 ∈ tables_1 ∧ Cond.instanceMethod q.1 ∈ tables_1
theorem lw_p0 : lw_okq (⟨"KiteYards$Text", "fits", "(II)Z"⟩, 2) := ⟨⟨by decide +kernel, by decide +kernel⟩, List.mem_of_getElem? (i := 22) (by decide +kernel), List.mem_of_getElem? (i := 266) (by decide +kernel), List.mem_of_getElem? (i := 267) (by decide +kernel)⟩
theorem lw_p1 : lw_okq (⟨"KiteYards$Text", "fitsPart", "(II)Z"⟩, 2) := ⟨⟨by decide +kernel, by decide +kernel⟩, List.mem_of_getElem? (i := 22) (by decide +kernel), List.mem_of_getElem? (i := 270) (by decide +kernel), List.mem_of_getElem? (i := 271) (by decide +kernel)⟩
theorem lw_p2 : lw_okq (⟨"KiteYards$Text", "figure", "(I)I"⟩, 2) := ⟨⟨by decide +kernel, by decide +kernel⟩, List.mem_of_getElem? (i := 22) (by decide +kernel), List.mem_of_getElem? (i := 282) (by decide +kernel), List.mem_of_getElem? (i := 283) (by decide +kernel)⟩
theorem lw_p3 : lw_okq (⟨"KiteYards", "forgetKept", "()V"⟩, 12) := ⟨⟨by decide +kernel, by decide +kernel⟩, List.mem_of_getElem? (i := 14) (by decide +kernel), List.mem_of_getElem? (i := 293) (by decide +kernel), List.mem_of_getElem? (i := 294) (by decide +kernel)⟩
theorem lw_p4 : lw_okq (⟨"KiteYards$Past", "forgetFirst", "()V"⟩, 2) := ⟨⟨by decide +kernel, by decide +kernel⟩, List.mem_of_getElem? (i := 92) (by decide +kernel), List.mem_of_getElem? (i := 337) (by decide +kernel), List.mem_of_getElem? (i := 338) (by decide +kernel)⟩
theorem lw_p5 : lw_okq (⟨"KiteYards$Flight", "sight", "()I"⟩, 4) := ⟨⟨by decide +kernel, by decide +kernel⟩, List.mem_of_getElem? (i := 132) (by decide +kernel), List.mem_of_getElem? (i := 382) (by decide +kernel), List.mem_of_getElem? (i := 383) (by decide +kernel)⟩
theorem lw_p6 : lw_okq (⟨"KiteYards", "seekYards", "(I)V"⟩, 12) := ⟨⟨by decide +kernel, by decide +kernel⟩, List.mem_of_getElem? (i := 14) (by decide +kernel), List.mem_of_getElem? (i := 393) (by decide +kernel), List.mem_of_getElem? (i := 394) (by decide +kernel)⟩
theorem lw_p7 : lw_okq (⟨"KiteYards", "letOutByWay", "()Z"⟩, 12) := ⟨⟨by decide +kernel, by decide +kernel⟩, List.mem_of_getElem? (i := 14) (by decide +kernel), List.mem_of_getElem? (i := 419) (by decide +kernel), List.mem_of_getElem? (i := 420) (by decide +kernel)⟩
theorem lw_p8 : lw_okq (⟨"KiteYards", "trialViews", "(I)Z"⟩, 12) := ⟨⟨by decide +kernel, by decide +kernel⟩, List.mem_of_getElem? (i := 14) (by decide +kernel), List.mem_of_getElem? (i := 423) (by decide +kernel), List.mem_of_getElem? (i := 424) (by decide +kernel)⟩
theorem lw_p9 : lw_okq (⟨"KiteYards", "seekBridles", "(I)V"⟩, 12) := ⟨⟨by decide +kernel, by decide +kernel⟩, List.mem_of_getElem? (i := 14) (by decide +kernel), List.mem_of_getElem? (i := 444) (by decide +kernel), List.mem_of_getElem? (i := 445) (by decide +kernel)⟩
theorem lw_p10 : lw_okq (⟨"KiteYards", "setByWay", "()I"⟩, 12) := ⟨⟨by decide +kernel, by decide +kernel⟩, List.mem_of_getElem? (i := 14) (by decide +kernel), List.mem_of_getElem? (i := 448) (by decide +kernel), List.mem_of_getElem? (i := 449) (by decide +kernel)⟩
theorem lw_p11 : lw_okq (⟨"KiteYards", "viewOf", "(I)I"⟩, 12) := ⟨⟨by decide +kernel, by decide +kernel⟩, List.mem_of_getElem? (i := 14) (by decide +kernel), List.mem_of_getElem? (i := 473) (by decide +kernel), List.mem_of_getElem? (i := 474) (by decide +kernel)⟩
theorem lw_p12 : lw_okq (⟨"KiteYards", "seekWinds", "()I"⟩, 12) := ⟨⟨by decide +kernel, by decide +kernel⟩, List.mem_of_getElem? (i := 14) (by decide +kernel), List.mem_of_getElem? (i := 535) (by decide +kernel), List.mem_of_getElem? (i := 536) (by decide +kernel)⟩
theorem lw_p13 : lw_okq (⟨"KiteYards", "seekRests", "(IIII)V"⟩, 12) := ⟨⟨by decide +kernel, by decide +kernel⟩, List.mem_of_getElem? (i := 14) (by decide +kernel), List.mem_of_getElem? (i := 556) (by decide +kernel), List.mem_of_getElem? (i := 557) (by decide +kernel)⟩
theorem lw_p14 : lw_okq (⟨"KiteYards", "isNearest", "(II)Z"⟩, 12) := ⟨⟨by decide +kernel, by decide +kernel⟩, List.mem_of_getElem? (i := 14) (by decide +kernel), List.mem_of_getElem? (i := 560) (by decide +kernel), List.mem_of_getElem? (i := 561) (by decide +kernel)⟩
theorem lw_p15 : lw_okq (⟨"KiteYards", "distanceBy", "(III)I"⟩, 12) := ⟨⟨by decide +kernel, by decide +kernel⟩, List.mem_of_getElem? (i := 14) (by decide +kernel), List.mem_of_getElem? (i := 564) (by decide +kernel), List.mem_of_getElem? (i := 565) (by decide +kernel)⟩
def lw_privs_1 : List (MethodName × Nat) := [(⟨"KiteYards$Text", "fits", "(II)Z"⟩, 2), (⟨"KiteYards$Text", "fitsPart", "(II)Z"⟩, 2), (⟨"KiteYards$Text", "figure", "(I)I"⟩, 2), (⟨"KiteYards", "forgetKept", "()V"⟩, 12), (⟨"KiteYards$Past", "forgetFirst", "()V"⟩, 2), (⟨"KiteYards$Flight", "sight", "()I"⟩, 4), (⟨"KiteYards", "seekYards", "(I)V"⟩, 12), (⟨"KiteYards", "letOutByWay", "()Z"⟩, 12), (⟨"KiteYards", "trialViews", "(I)Z"⟩, 12), (⟨"KiteYards", "seekBridles", "(I)V"⟩, 12), (⟨"KiteYards", "setByWay", "()I"⟩, 12), (⟨"KiteYards", "viewOf", "(I)I"⟩, 12), (⟨"KiteYards", "seekWinds", "()I"⟩, 12), (⟨"KiteYards", "seekRests", "(IIII)V"⟩, 12), (⟨"KiteYards", "isNearest", "(II)Z"⟩, 12), (⟨"KiteYards", "distanceBy", "(III)I"⟩, 12)]
theorem lw_r1 : ∀ q ∈ lw_privs_1, lw_okq q := List.forall_mem_cons.mpr ⟨lw_p0, List.forall_mem_cons.mpr ⟨lw_p1, List.forall_mem_cons.mpr ⟨lw_p2, List.forall_mem_cons.mpr ⟨lw_p3, List.forall_mem_cons.mpr ⟨lw_p4, List.forall_mem_cons.mpr ⟨lw_p5, List.forall_mem_cons.mpr ⟨lw_p6, List.forall_mem_cons.mpr ⟨lw_p7, List.forall_mem_cons.mpr ⟨lw_p8, List.forall_mem_cons.mpr ⟨lw_p9, List.forall_mem_cons.mpr ⟨lw_p10, List.forall_mem_cons.mpr ⟨lw_p11, List.forall_mem_cons.mpr ⟨lw_p12, List.forall_mem_cons.mpr ⟨lw_p13, List.forall_mem_cons.mpr ⟨lw_p14, List.forall_mem_cons.mpr ⟨lw_p15, fun _ h => absurd h List.not_mem_nil⟩⟩⟩⟩⟩⟩⟩⟩⟩⟩⟩⟩⟩⟩⟩⟩
theorem lw_p16 : lw_okq (⟨"KiteYards", "calmIn", "(II)I"⟩, 12) := ⟨⟨by decide +kernel, by decide +kernel⟩, List.mem_of_getElem? (i := 14) (by decide +kernel), List.mem_of_getElem? (i := 572) (by decide +kernel), List.mem_of_getElem? (i := 573) (by decide +kernel)⟩
theorem lw_p17 : lw_okq (⟨"KiteYards", "slotLine", "(I)LKiteYards$Line;"⟩, 12) := ⟨⟨by decide +kernel, by decide +kernel⟩, List.mem_of_getElem? (i := 14) (by decide +kernel), List.mem_of_getElem? (i := 591) (by decide +kernel), List.mem_of_getElem? (i := 592) (by decide +kernel)⟩
theorem lw_p18 : lw_okq (⟨"KiteYardsModel", "readString", "()I"⟩, 38) := ⟨⟨by decide +kernel, by decide +kernel⟩, List.mem_of_getElem? (i := 599) (by decide +kernel), List.mem_of_getElem? (i := 736) (by decide +kernel), List.mem_of_getElem? (i := 737) (by decide +kernel)⟩
theorem lw_p19 : lw_okq (⟨"KiteYardsModel", "readHead", "()Z"⟩, 38) := ⟨⟨by decide +kernel, by decide +kernel⟩, List.mem_of_getElem? (i := 599) (by decide +kernel), List.mem_of_getElem? (i := 740) (by decide +kernel), List.mem_of_getElem? (i := 741) (by decide +kernel)⟩
theorem lw_p20 : lw_okq (⟨"KiteYardsModel", "figure", "(II)I"⟩, 38) := ⟨⟨by decide +kernel, by decide +kernel⟩, List.mem_of_getElem? (i := 599) (by decide +kernel), List.mem_of_getElem? (i := 744) (by decide +kernel), List.mem_of_getElem? (i := 745) (by decide +kernel)⟩
theorem lw_p21 : lw_okq (⟨"KiteYardsModel", "layPage", "()V"⟩, 38) := ⟨⟨by decide +kernel, by decide +kernel⟩, List.mem_of_getElem? (i := 599) (by decide +kernel), List.mem_of_getElem? (i := 756) (by decide +kernel), List.mem_of_getElem? (i := 757) (by decide +kernel)⟩
theorem lw_p22 : lw_okq (⟨"KiteYardsModel", "lay", "([I[I)V"⟩, 38) := ⟨⟨by decide +kernel, by decide +kernel⟩, List.mem_of_getElem? (i := 599) (by decide +kernel), List.mem_of_getElem? (i := 760) (by decide +kernel), List.mem_of_getElem? (i := 761) (by decide +kernel)⟩
theorem lw_p23 : lw_okq (⟨"KiteYardsModel", "yardsFrom", "(I)I"⟩, 38) := ⟨⟨by decide +kernel, by decide +kernel⟩, List.mem_of_getElem? (i := 599) (by decide +kernel), List.mem_of_getElem? (i := 767) (by decide +kernel), List.mem_of_getElem? (i := 768) (by decide +kernel)⟩
theorem lw_p24 : lw_okq (⟨"KiteYardsModel", "noKite", "(I)Z"⟩, 38) := ⟨⟨by decide +kernel, by decide +kernel⟩, List.mem_of_getElem? (i := 599) (by decide +kernel), List.mem_of_getElem? (i := 775) (by decide +kernel), List.mem_of_getElem? (i := 776) (by decide +kernel)⟩
theorem lw_p25 : lw_okq (⟨"KiteYardsModel", "note", "()V"⟩, 38) := ⟨⟨by decide +kernel, by decide +kernel⟩, List.mem_of_getElem? (i := 599) (by decide +kernel), List.mem_of_getElem? (i := 786) (by decide +kernel), List.mem_of_getElem? (i := 787) (by decide +kernel)⟩
theorem lw_p26 : lw_okq (⟨"KiteYardsModel", "doesSee", "([II)Z"⟩, 38) := ⟨⟨by decide +kernel, by decide +kernel⟩, List.mem_of_getElem? (i := 599) (by decide +kernel), List.mem_of_getElem? (i := 814) (by decide +kernel), List.mem_of_getElem? (i := 815) (by decide +kernel)⟩
theorem lw_p27 : lw_okq (⟨"KiteYardsModel", "findWay", "(IZ)V"⟩, 38) := ⟨⟨by decide +kernel, by decide +kernel⟩, List.mem_of_getElem? (i := 599) (by decide +kernel), List.mem_of_getElem? (i := 825) (by decide +kernel), List.mem_of_getElem? (i := 826) (by decide +kernel)⟩
theorem lw_p28 : lw_okq (⟨"KiteYardsModel", "begin", "()V"⟩, 38) := ⟨⟨by decide +kernel, by decide +kernel⟩, List.mem_of_getElem? (i := 599) (by decide +kernel), List.mem_of_getElem? (i := 832) (by decide +kernel), List.mem_of_getElem? (i := 833) (by decide +kernel)⟩
theorem lw_p29 : lw_okq (⟨"KiteYardsModel", "worthOf", "(I)I"⟩, 38) := ⟨⟨by decide +kernel, by decide +kernel⟩, List.mem_of_getElem? (i := 599) (by decide +kernel), List.mem_of_getElem? (i := 852) (by decide +kernel), List.mem_of_getElem? (i := 853) (by decide +kernel)⟩
theorem lw_p30 : lw_okq (⟨"KiteYardsModel", "bridles", "()I"⟩, 38) := ⟨⟨by decide +kernel, by decide +kernel⟩, List.mem_of_getElem? (i := 599) (by decide +kernel), List.mem_of_getElem? (i := 879) (by decide +kernel), List.mem_of_getElem? (i := 880) (by decide +kernel)⟩
theorem lw_p31 : lw_okq (⟨"KiteYardsModel", "findWinds", "()V"⟩, 38) := ⟨⟨by decide +kernel, by decide +kernel⟩, List.mem_of_getElem? (i := 599) (by decide +kernel), List.mem_of_getElem? (i := 907) (by decide +kernel), List.mem_of_getElem? (i := 908) (by decide +kernel)⟩
def lw_privs_2 : List (MethodName × Nat) := [(⟨"KiteYards", "calmIn", "(II)I"⟩, 12), (⟨"KiteYards", "slotLine", "(I)LKiteYards$Line;"⟩, 12), (⟨"KiteYardsModel", "readString", "()I"⟩, 38), (⟨"KiteYardsModel", "readHead", "()Z"⟩, 38), (⟨"KiteYardsModel", "figure", "(II)I"⟩, 38), (⟨"KiteYardsModel", "layPage", "()V"⟩, 38), (⟨"KiteYardsModel", "lay", "([I[I)V"⟩, 38), (⟨"KiteYardsModel", "yardsFrom", "(I)I"⟩, 38), (⟨"KiteYardsModel", "noKite", "(I)Z"⟩, 38), (⟨"KiteYardsModel", "note", "()V"⟩, 38), (⟨"KiteYardsModel", "doesSee", "([II)Z"⟩, 38), (⟨"KiteYardsModel", "findWay", "(IZ)V"⟩, 38), (⟨"KiteYardsModel", "begin", "()V"⟩, 38), (⟨"KiteYardsModel", "worthOf", "(I)I"⟩, 38), (⟨"KiteYardsModel", "bridles", "()I"⟩, 38), (⟨"KiteYardsModel", "findWinds", "()V"⟩, 38)]
theorem lw_r2 : ∀ q ∈ lw_privs_2, lw_okq q := List.forall_mem_cons.mpr ⟨lw_p16, List.forall_mem_cons.mpr ⟨lw_p17, List.forall_mem_cons.mpr ⟨lw_p18, List.forall_mem_cons.mpr ⟨lw_p19, List.forall_mem_cons.mpr ⟨lw_p20, List.forall_mem_cons.mpr ⟨lw_p21, List.forall_mem_cons.mpr ⟨lw_p22, List.forall_mem_cons.mpr ⟨lw_p23, List.forall_mem_cons.mpr ⟨lw_p24, List.forall_mem_cons.mpr ⟨lw_p25, List.forall_mem_cons.mpr ⟨lw_p26, List.forall_mem_cons.mpr ⟨lw_p27, List.forall_mem_cons.mpr ⟨lw_p28, List.forall_mem_cons.mpr ⟨lw_p29, List.forall_mem_cons.mpr ⟨lw_p30, List.forall_mem_cons.mpr ⟨lw_p31, fun _ h => absurd h List.not_mem_nil⟩⟩⟩⟩⟩⟩⟩⟩⟩⟩⟩⟩⟩⟩⟩⟩
theorem lw_p32 : lw_okq (⟨"KiteYardsModel", "findRests", "(IIII)V"⟩, 38) := ⟨⟨by decide +kernel, by decide +kernel⟩, List.mem_of_getElem? (i := 599) (by decide +kernel), List.mem_of_getElem? (i := 917) (by decide +kernel), List.mem_of_getElem? (i := 918) (by decide +kernel)⟩
theorem lw_p33 : lw_okq (⟨"KiteYardsModel", "farBy", "(IIIIZI)I"⟩, 38) := ⟨⟨by decide +kernel, by decide +kernel⟩, List.mem_of_getElem? (i := 599) (by decide +kernel), List.mem_of_getElem? (i := 921) (by decide +kernel), List.mem_of_getElem? (i := 922) (by decide +kernel)⟩
def lw_privs_3 : List (MethodName × Nat) := [(⟨"KiteYardsModel", "findRests", "(IIII)V"⟩, 38), (⟨"KiteYardsModel", "farBy", "(IIIIZI)I"⟩, 38)]
theorem lw_r3 : ∀ q ∈ lw_privs_3, lw_okq q := List.forall_mem_cons.mpr ⟨lw_p32, List.forall_mem_cons.mpr ⟨lw_p33, fun _ h => absurd h List.not_mem_nil⟩⟩
def lw_privs : List (MethodName × Nat) := lw_privs_1 ++ (lw_privs_2 ++ (lw_privs_3))
def lw_tbl : List Cond := k2_sels lw_privs ++ tables_1
theorem lw_privs_ok : ∀ q ∈ lw_privs, lw_okq q := by
  show ∀ q ∈ lw_privs_1 ++ (lw_privs_2 ++ (lw_privs_3)), lw_okq q
  exact List.forall_mem_append.mpr ⟨lw_r1, List.forall_mem_append.mpr ⟨lw_r2, lw_r3⟩⟩
end
section
/-! THE JUDGEMENT X: a frame of a method over a heap whose cells are numbered from 1 (the script is 0) -/
def WT : List Cond := lw_tbl.filter goodWord
theorem goodT {ws : List Cond} (h : ∀ w ∈ ws, w ∈ WT) : GoodIn WT ws := fun w hw => ⟨h w hw, good_of_word (List.mem_filter.mp (h w hw)).2⟩
theorem nT {w : Cond} {i : Nat} (h : tables_1[i]? = some w) : w ∈ lw_tbl := List.mem_append_right _ (List.mem_of_getElem? h)
theorem mT {w : Cond} {i : Nat} (h : tables_1[i]? = some w) (hg : goodWord w = true) : w ∈ WT := List.mem_filter.mpr ⟨nT h, hg⟩
theorem mS {q : MethodName × Nat} (i : Nat) (h : lw_privs[i]? = some q) : Cond.selects q.1.cls q.1 q.1 ∈ WT := List.mem_filter.mpr ⟨List.mem_append_left _ (by
  have := List.mem_of_getElem? h
  simp only [k2_sels, List.mem_map]
  exact ⟨q, this, rfl⟩), rfl⟩
theorem inT {ws : List Cond} (h : ws.all (fun w => decide (w ∈ tables_1) && goodWord w) = true) : ∀ w ∈ ws, w ∈ WT := fun w hw => by
  have h1 := List.all_eq_true.mp h w hw
  simp only [Bool.and_eq_true, decide_eq_true_eq] at h1
  exact List.mem_filter.mpr ⟨List.mem_append_right _ h1.1, h1.2⟩
/-- the words of nest mates and of the arrays of lines, which are carried along -/
def NOk (U : State) : Prop := (∀ (a : String) (i : Nat) (x : MethodName) (h : String), Cond.methodLinkNest a i x h ∈ lw_tbl → va_Nw (.methodLinkNest a i x h) U) ∧ va_AO "KiteYards$Line" U
theorem NOk.warm {s U : State} (hW : s.WarmedH U.vm) (h : NOk s) : NOk U := ⟨fun a i x g hm => va_Nw.warmM hW (h.1 a i x g hm), va_AO.moved hW.alike h.2⟩
theorem NOk.same {u U : State} (e : u.vm = U.vm) (h : NOk u) : NOk U := ⟨fun a i x g hm => va_Nw.same rfl e (h.1 a i x g hm), va_AO.moved (by rw [e]; exact Vm.Alike.refl _) h.2⟩
abbrev YI : Type := MethodName × (ByteArray × (Nat × (Option FieldType × Room)))
abbrev yN (y : YI) : MethodName := y.1
abbrev yB (y : YI) : ByteArray := y.2.1
abbrev yL (y : YI) : Nat := y.2.2.1
abbrev yT (y : YI) : Option FieldType := y.2.2.2.1
abbrev yR (y : YI) : Room := y.2.2.2.2
def wsy (y : YI) : List Cond := .code (yN y) (yB y) (yL y) (yT y) :: WT
abbrev MC : Type := (Nat × vp_A) ⊕ (Nat × List Value)
abbrev HS : Type := Nat × (Nat → MC)
abbrev EV : Type := Nat × (Nat × (va_G × (Nat → ClassId)))
def trv (E : EV) : Value → Value
  | .ref a => .ref (if a = 0 then E.2.1 else E.1 + a)
  | v => v
theorem trv_cat (E : EV) (v : Value) : (trv E v).category = v.category := by cases v <;> rfl
theorem trv_ref {E : EV} {a : Nat} (h : 1 ≤ a) : trv E (.ref a) = .ref (E.1 + a) := by
  show Value.ref (if a = 0 then E.2.1 else E.1 + a) = _
  rw [if_neg (by omega)]
theorem trv_cats (E : EV) (st : List Value) : ((st.map (trv E)).map fun v => v.category) = st.map fun v => v.category := by
  rw [List.map_map]
  exact List.map_congr_left fun v _ => trv_cat E v
def trc (E : EV) : MC → va_E
  | .inl (t, (n, .inr (.inr (.inr (.inr f))))) => .inl (E.2.2.2 t, (n, .inr (.inr (.inr (.inr (fun j => (f j).map (fun a => E.1 + a)))))))
  | .inl (t, a) => .inl (E.2.2.2 t, a)
  | .inr (ci, fs) => .inr (ci, fs.map (trv E))
def wl (E : EV) (h : HS) : va_W := (List.range h.1).map (fun k => (E.1 + (k + 1), trc E (h.2 (k + 1))))
def hset (h : HS) (a : Nat) (c : MC) : HS := (h.1, fun j => if j = a then c else h.2 j)
def hpush (h : HS) (c : MC) : HS := (h.1 + 1, fun j => if j = h.1 + 1 then c else h.2 j)
theorem wl_get {E : EV} {h : HS} {a : Nat} (h1 : 1 ≤ a) (h2 : a ≤ h.1) : (wl E h)[a - 1]? = some (E.1 + a, trc E (h.2 a)) := by
  unfold wl
  rw [List.getElem?_map, List.getElem?_range (by omega)]
  simp only [Option.map_some]
  rw [show a - 1 + 1 = a by omega]
theorem wl_at {E : EV} {h : HS} {k : Nat} {q : Nat × va_E} (hk : (wl E h)[k]? = some q) : k < h.1 ∧ q = (E.1 + (k + 1), trc E (h.2 (k + 1))) := by
  unfold wl at hk
  rw [List.getElem?_map] at hk
  by_cases hl : k < h.1
  · rw [List.getElem?_range hl] at hk
    exact ⟨hl, (Option.some.inj hk).symm⟩
  · rw [List.getElem?_eq_none (by simp; omega)] at hk
    cases hk
theorem wl_set {E : EV} {h : HS} {a : Nat} {c : MC} (h1 : 1 ≤ a) (h2 : a ≤ h.1) : (wl E h).set (a - 1) (E.1 + a, trc E c) = wl E (hset h a c) := by
  apply List.ext_getElem?
  intro k
  unfold wl hset
  rw [List.getElem?_set]
  simp only [List.length_map, List.length_range, List.getElem?_map]
  by_cases hk : a - 1 = k
  · subst hk
    rw [if_pos rfl, if_pos (by omega), List.getElem?_range (by omega)]
    simp only [Option.map_some]
    rw [show a - 1 + 1 = a by omega, if_pos rfl]
  · rw [if_neg hk]
    by_cases hl : k < h.1
    · rw [List.getElem?_range hl]
      simp only [Option.map_some]
      rw [if_neg (by omega)]
    · rw [List.getElem?_eq_none (by simp; omega)]
      rfl
theorem wl_push {E : EV} {h : HS} {c : MC} : wl E h ++ [(E.1 + (h.1 + 1), trc E c)] = wl E (hpush h c) := by
  unfold wl hpush
  simp only [List.range_succ, List.map_append, List.map_cons, List.map_nil, if_true]
  congr 1
  apply List.map_congr_left
  intro k hk
  have := List.mem_range.mp hk
  rw [if_neg (by omega)]
theorem wl_D (E : EV) (h : HS) : va_D (fun q => E.1 < q) (wl E h) := by
  refine ⟨fun i j p q hi hj hpq => ?_, fun k q hk => ?_⟩
  · obtain ⟨-, rfl⟩ := wl_at hi
    obtain ⟨-, rfl⟩ := wl_at hj
    have : E.1 + (i + 1) = E.1 + (j + 1) := hpq
    omega
  · obtain ⟨-, rfl⟩ := wl_at hk
    show E.1 < E.1 + (k + 1)
    omega
def TBest : u_T := fun k => match k with
  | 0 => ("KiteYards$Best", "cost", "I", false)
  | _ => ("KiteYards$Best", "number", "I", false)
def TFlight : u_T := fun k => match k with
  | 0 => ("KiteYards$Flight", "heights", "[I", true)
  | 1 => ("KiteYards$Flight", "places", "[I", true)
  | 2 => ("KiteYards$Flight", "count", "I", false)
  | _ => ("KiteYards$Flight", "folding", "I", false)
def TLine : u_T := fun k => match k with
  | 0 => ("KiteYards$Line", "count", "I", false)
  | 1 => ("KiteYards$Line", "low", "I", false)
  | 2 => ("KiteYards$Line", "high", "I", false)
  | 3 => ("KiteYards$Line", "border", "I", false)
  | 4 => ("KiteYards$Line", "fold", "I", false)
  | 5 => ("KiteYards$Line", "yards", "[I", true)
  | 6 => ("KiteYards$Line", "bridles", "[I", true)
  | _ => ("KiteYards$Line", "tails", "[I", true)
def TPast : u_T := fun k => match k with
  | 0 => ("KiteYards$Past", "rows", "[LKiteYards$Line;", true)
  | _ => ("KiteYards$Past", "count", "I", false)
def TSightings : u_T := fun k => match k with
  | 0 => ("KiteYards$Sightings", "kites", "[I", true)
  | 1 => ("KiteYards$Sightings", "places", "[I", true)
  | _ => ("KiteYards$Sightings", "count", "I", false)
def TTally : u_T := fun k => match k with
  | 0 => ("KiteYards$Tally", "count", "I", false)
  | _ => ("KiteYards$Tally", "first", "I", false)
def TText : u_T := fun k => match k with
  | 0 => ("KiteYards$Text", "letters", "[I", true)
  | _ => ("KiteYards$Text", "length", "I", false)
def TWay : u_T := fun k => match k with
  | 0 => ("KiteYards$Way", "figures", "[I", true)
  | 1 => ("KiteYards$Way", "count", "I", false)
  | _ => ("KiteYards$Way", "highest", "I", false)
def TK : u_T := fun k => match k with
  | 0 => ("KiteYards", "text", "LKiteYards$Text;", true)
  | 1 => ("KiteYards", "now", "LKiteYards$Line;", true)
  | 2 => ("KiteYards", "past", "LKiteYards$Past;", true)
  | 3 => ("KiteYards", "kept", "[LKiteYards$Line;", true)
  | 4 => ("KiteYards", "holds", "[Z", true)
  | 5 => ("KiteYards", "sightings", "LKiteYards$Sightings;", true)
  | 6 => ("KiteYards", "seedNow", "J", false)
  | 7 => ("KiteYards", "trial", "LKiteYards$Line;", true)
  | 8 => ("KiteYards", "flight", "LKiteYards$Flight;", true)
  | 9 => ("KiteYards", "way", "LKiteYards$Way;", true)
  | 10 => ("KiteYards", "best", "LKiteYards$Best;", true)
  | _ => ("KiteYards", "tally", "LKiteYards$Tally;", true)
def TM : u_T := fun k => match k with
  | 0 => ("KiteYardsModel", "thrown", "I", false)
  | 1 => ("KiteYardsModel", "text", "[I", true)
  | 2 => ("KiteYardsModel", "textSize", "I", false)
  | 3 => ("KiteYardsModel", "place", "I", false)
  | 4 => ("KiteYardsModel", "border", "I", false)
  | 5 => ("KiteYardsModel", "fold", "I", false)
  | 6 => ("KiteYardsModel", "tail", "[I", true)
  | 7 => ("KiteYardsModel", "readKites", "I", false)
  | 8 => ("KiteYardsModel", "readLow", "I", false)
  | 9 => ("KiteYardsModel", "readHigh", "I", false)
  | 10 => ("KiteYardsModel", "readBorder", "I", false)
  | 11 => ("KiteYardsModel", "readFold", "I", false)
  | 12 => ("KiteYardsModel", "readYards", "[I", true)
  | 13 => ("KiteYardsModel", "readBridle", "[I", true)
  | 14 => ("KiteYardsModel", "readTail", "[I", true)
  | 15 => ("KiteYardsModel", "page", "[I", true)
  | 16 => ("KiteYardsModel", "trial", "[I", true)
  | 17 => ("KiteYardsModel", "book", "[I", true)
  | 18 => ("KiteYardsModel", "acts", "I", false)
  | 19 => ("KiteYardsModel", "kept", "[I", true)
  | 20 => ("KiteYardsModel", "isKept", "[Z", true)
  | 21 => ("KiteYardsModel", "seen", "I", false)
  | 22 => ("KiteYardsModel", "seenKite", "[I", true)
  | 23 => ("KiteYardsModel", "seenPlace", "[I", true)
  | 24 => ("KiteYardsModel", "seed", "J", false)
  | 25 => ("KiteYardsModel", "height", "[I", true)
  | 26 => ("KiteYardsModel", "lean", "[I", true)
  | 27 => ("KiteYardsModel", "at", "[I", true)
  | 28 => ("KiteYardsModel", "trialTail", "[I", true)
  | 29 => ("KiteYardsModel", "folds", "I", false)
  | 30 => ("KiteYardsModel", "wayBest", "I", false)
  | 31 => ("KiteYardsModel", "wayCost", "I", false)
  | 32 => ("KiteYardsModel", "windMany", "I", false)
  | 33 => ("KiteYardsModel", "windFirst", "I", false)
  | 34 => ("KiteYardsModel", "windLow", "I", false)
  | 35 => ("KiteYardsModel", "restMany", "I", false)
  | 36 => ("KiteYardsModel", "restFirst", "I", false)
  | _ => ("KiteYardsModel", "worth", "[I", true)
/-- the classes, in the order of their numbers -/
abbrev kcl : List vw_C := [("KiteYards$Best", TBest, 2), ("KiteYards$Flight", TFlight, 4), ("KiteYards$Line", TLine, 8), ("KiteYards$Past", TPast, 2), ("KiteYards$Sightings", TSightings, 3), ("KiteYards$Tally", TTally, 2), ("KiteYards$Text", TText, 2), ("KiteYards$Way", TWay, 3), ("KiteYards", TK, 12), ("KiteYardsModel", TM, 38)]
def dty (d : String) : FieldType := (parseFieldDescriptor d).getD .int
def dfl (r : vw_C) : List Value := (List.range r.2.2).map fun j => defaultValue (dty (r.2.1 j).2.2.1)
def ClsOk (r : vw_C) : Prop := (∀ w ∈ u_ws r.1 r.2.1 r.2.2, w ∈ WT) ∧ (∀ a, a < r.2.2 → ∀ b, b < r.2.2 → a ≠ b → (r.2.1 a).2.1 ≠ (r.2.1 b).2.1) ∧ ∀ k, k < r.2.2 → parseFieldDescriptor (r.2.1 k).2.2.1 = some (dty (r.2.1 k).2.2.1)
theorem clsOk_Best : ClsOk ("KiteYards$Best", TBest, 2) := ⟨inT (by decide +kernel), by decide +kernel, by decide +kernel⟩
theorem clsOk_Flight : ClsOk ("KiteYards$Flight", TFlight, 4) := ⟨inT (by decide +kernel), by decide +kernel, by decide +kernel⟩
theorem clsOk_Line : ClsOk ("KiteYards$Line", TLine, 8) := ⟨inT (by decide +kernel), by decide +kernel, by decide +kernel⟩
theorem clsOk_Past : ClsOk ("KiteYards$Past", TPast, 2) := ⟨inT (by decide +kernel), by decide +kernel, by decide +kernel⟩
theorem clsOk_Sightings : ClsOk ("KiteYards$Sightings", TSightings, 3) := ⟨inT (by decide +kernel), by decide +kernel, by decide +kernel⟩
theorem clsOk_Tally : ClsOk ("KiteYards$Tally", TTally, 2) := ⟨inT (by decide +kernel), by decide +kernel, by decide +kernel⟩
theorem clsOk_Text : ClsOk ("KiteYards$Text", TText, 2) := ⟨inT (by decide +kernel), by decide +kernel, by decide +kernel⟩
theorem clsOk_Way : ClsOk ("KiteYards$Way", TWay, 3) := ⟨inT (by decide +kernel), by decide +kernel, by decide +kernel⟩
theorem clsOk_K : ClsOk ("KiteYards", TK, 12) := ⟨inT (by decide +kernel), by decide +kernel, by decide +kernel⟩
theorem clsOk_M : ClsOk ("KiteYardsModel", TM, 38) := ⟨inT (by decide +kernel), by decide +kernel, by decide +kernel⟩
theorem cls_ok {ci : Nat} {r : vw_C} (h : kcl[ci]? = some r) : ClsOk r := by
  match ci, h with
  | 0, h => cases h; exact clsOk_Best
  | 1, h => cases h; exact clsOk_Flight
  | 2, h => cases h; exact clsOk_Line
  | 3, h => cases h; exact clsOk_Past
  | 4, h => cases h; exact clsOk_Sightings
  | 5, h => cases h; exact clsOk_Tally
  | 6, h => cases h; exact clsOk_Text
  | 7, h => cases h; exact clsOk_Way
  | 8, h => cases h; exact clsOk_K
  | 9, h => cases h; exact clsOk_M
  | ci + 10, h => simp [kcl] at h
theorem obj_inst : Cond.instanceMethod Lib.objectInit ∈ WT := mT (i := 19) (by decide +kernel) rfl
theorem obj_code : Cond.code Lib.objectInit ⟨#[0xb1]⟩ 1 none ∈ WT := mT (i := 20) (by decide +kernel) rfl
abbrev tyl (E : EV) : List (ClassId × FieldType) := [(E.2.2.2 0, .int), (E.2.2.2 1, .boolean), (E.2.2.2 2, .object "KiteYards$Line")]
def HH (E : EV) (h : HS) (H : Heap) : Prop := va_P E.2.2.1 kcl (wl E h) H ∧ H.size = E.1 + 1 + h.1
def lvl (E : EV) : Nat → List (Option Value) → List (Nat × Value)
  | _, [] => []
  | i, none :: r => lvl E (i + 1) r
  | i, some v :: r => (i, trv E v) :: lvl E (i + 1) r
theorem lvl_mem {E : EV} : ∀ (ls : List (Option Value)) (i0 i : Nat) (v : Value), ls[i]? = some (some v) → (i0 + i, trv E v) ∈ lvl E i0 ls := by
  intro ls
  induction ls with
  | nil => intro i0 i v h; simp at h
  | cons a r ih =>
    intro i0 i v h
    cases i with
    | zero =>
      simp only [List.getElem?_cons_zero, Option.some.injEq] at h
      subst h
      simp [lvl]
    | succ i =>
      simp only [List.getElem?_cons_succ] at h
      have := ih (i0 + 1) i v h
      rw [show i0 + 1 + i = i0 + (i + 1) by omega] at this
      cases a with
      | none => simpa [lvl] using this
      | some w => simp only [lvl]; exact List.mem_cons_of_mem _ this
theorem lvl_of {E : EV} : ∀ (ls : List (Option Value)) (i0 : Nat) (q : Nat × Value), q ∈ lvl E i0 ls → ∃ (j : Nat) (v : Value), q = (i0 + j, trv E v) ∧ ls[j]? = some (some v) := by
  intro ls
  induction ls with
  | nil => intro i0 q h; simp [lvl] at h
  | cons a r ih =>
    intro i0 q h
    cases a with
    | none =>
      simp only [lvl] at h
      obtain ⟨j, v, rfl, h2⟩ := ih (i0 + 1) q h
      exact ⟨j + 1, v, by rw [show i0 + 1 + j = i0 + (j + 1) by omega], by simpa using h2⟩
    | some w =>
      simp only [lvl, List.mem_cons] at h
      rcases h with rfl | h
      · exact ⟨0, w, rfl, by simp⟩
      · obtain ⟨j, v, rfl, h2⟩ := ih (i0 + 1) q h
        exact ⟨j + 1, v, by rw [show i0 + 1 + j = i0 + (j + 1) by omega], by simpa using h2⟩
theorem la_get {E : EV} {la : Array Slot} {nL : Nat} {ls : List (Option Value)} (hl : lv_has la nL (lvl E 0 ls)) {i : Nat} {v : Value} (h : ls[i]? = some (some v)) : la[i]? = some (.val (trv E v)) := by
  have := hl.2.2 _ (lvl_mem (E := E) ls 0 i v h)
  simpa using this
theorem lv_mono {la : Array Slot} {nL : Nat} {l l' : List (Nat × Value)} (h : lv_has la nL l) (hm : ∀ q ∈ l', q ∈ l) : lv_has la nL l' := ⟨h.1, h.2.1, fun q hq => h.2.2 q (hm q hq)⟩
def isC2 : Option Value → Bool
  | some (.long _) => true
  | some (.double _) => true
  | _ => false
theorem isC2_cat {v : Value} (h : isC2 (some v) = false) : ¬ v.category = 2 := by
  cases v <;> simp_all [isC2, Value.category]
/-- behind a store of one slot -/
theorem la_set1 {E : EV} {la : Array Slot} {nL i : Nat} {ls : List (Option Value)} {w : Value} (hp : ∀ j, j + 1 = i → isC2 (ls.getD j none) = false) (hi : i < ls.length)
    (h : lv_has la nL ((i, trv E w) :: (lvl E 0 ls).filter (fun q => !(q.1 == i) && !(q.1 + 1 == i && q.2.category == 2)))) : lv_has la nL (lvl E 0 (ls.set i (some w))) := by
  refine lv_mono h fun q hq => ?_
  obtain ⟨j, v, hq0, hj⟩ := lvl_of _ _ _ hq
  rw [Nat.zero_add] at hq0
  subst hq0
  by_cases hji : j = i
  · subst hji
    rw [List.getElem?_set_self hi] at hj
    cases hj
    exact List.mem_cons_self
  · rw [List.getElem?_set_ne (Ne.symm hji)] at hj
    refine List.mem_cons_of_mem _ (List.mem_filter.mpr ⟨by simpa using lvl_mem (E := E) ls 0 j v hj, ?_⟩)
    have h1 : ¬ (j + 1 = i ∧ (trv E v).category = 2) := by
      rintro ⟨q1, q2⟩
      have := hp j q1
      rw [List.getD_eq_getElem?_getD, hj] at this
      rw [trv_cat] at q2
      exact isC2_cat this q2
    simp only [Bool.and_eq_true, Bool.not_eq_true', beq_eq_false_iff_ne, ne_eq, Bool.and_eq_false_iff]
    refine ⟨hji, ?_⟩
    by_cases q : j + 1 = i
    · exact Or.inr (by simpa using fun z => h1 ⟨q, z⟩)
    · exact Or.inl q
theorem la_set2 {E : EV} {la : Array Slot} {nL i : Nat} {ls : List (Option Value)} {w : Value} (hp : ∀ j, j + 1 = i → isC2 (ls.getD j none) = false) (hi : i + 1 < ls.length)
    (h : lv_has la nL ((i, trv E w) :: (lvl E 0 ls).filter (fun q => !(q.1 == i) && (!(q.1 == i + 1) && !(q.1 + 1 == i && q.2.category == 2))))) : lv_has la nL (lvl E 0 ((ls.set i (some w)).set (i + 1) none)) := by
  refine lv_mono h fun q hq => ?_
  obtain ⟨j, v, hq0, hj⟩ := lvl_of _ _ _ hq
  rw [Nat.zero_add] at hq0
  subst hq0
  by_cases hji1 : j = i + 1
  · subst hji1
    rw [List.getElem?_set_self (by simpa using hi)] at hj
    cases hj
  · rw [List.getElem?_set_ne (Ne.symm hji1)] at hj
    by_cases hji : j = i
    · subst hji
      rw [List.getElem?_set_self (by omega)] at hj
      cases hj
      exact List.mem_cons_self
    · rw [List.getElem?_set_ne (Ne.symm hji)] at hj
      refine List.mem_cons_of_mem _ (List.mem_filter.mpr ⟨by simpa using lvl_mem (E := E) ls 0 j v hj, ?_⟩)
      have h1 : ¬ (j + 1 = i ∧ (trv E v).category = 2) := by
        rintro ⟨q1, q2⟩
        have := hp j q1
        rw [List.getD_eq_getElem?_getD, hj] at this
        rw [trv_cat] at q2
        exact isC2_cat this q2
      simp only [Bool.and_eq_true, Bool.not_eq_true', beq_eq_false_iff_ne, ne_eq, Bool.and_eq_false_iff]
      refine ⟨hji, hji1, ?_⟩
      by_cases q : j + 1 = i
      · exact Or.inr (by simpa using fun z => h1 ⟨q, z⟩)
      · exact Or.inl q
/-- a frame's surroundings -/
def Cx (y : YI) (E : EV) (Ex : EV → State → Array Value → Prop) (p : Program) (s : State) (m : MethodId) (args : Array Value) (meth : Method) (c : Code) : Prop :=
  p.tables.exec = Jvm.exec ∧ c.code = yB y ∧ meth.sig.returnType = yT y ∧ c.maxLocals = yL y ∧ s.vm.findClass (yN y).cls = some m.cls ∧ (∀ w ∈ WT, w.before args s = true) ∧ meth.locks = false ∧ va_K E.2.2.1 kcl (tyl E) s ∧ E.1 < s.heap.size ∧ meth.name = (yN y).name ∧ NOk s ∧ Ex E s args
abbrev GT : Type := (EV → State → Array Value → Prop) × (EV → State → Array Value → List Frame → State → Prop)
def xj (y : YI) (G : GT) (pc : Nat) (ls : List (Option Value)) (st : List Value) (h : HS) (k n : Nat) : Prop :=
  ∀ (E : EV) (p : Program) (l : Launch) (e : Env) (s : State) (m : MethodId) (args : Array Value) (below : List Frame) (meth : Method) (c : Code) (H : Heap) (locs : List Loc) (la : Array Slot),
    Cx y E G.1 p s m args meth c → HH E h H → va_S (fun q => E.1 < q) s.heap H locs → lv_has la (yL y) (lvl E 0 ls) →
    W p l e (yR y) s m args below meth c H locs k n (G.2 E s args below) (F0 m pc la (st.map (trv E)))
def QQ (E : EV) (Po : Option Value → HS → Prop) : Array Value → State → Outcome → State → Prop := fun _ st oc t =>
  (∃ (r : Option Value) (h' : HS), oc = .returned (r.map (trv E)) ∧ Po r h' ∧ HH E h' t.heap ∧ va_K E.2.2.1 kcl (tyl E) t) ∧ va_F (fun q => E.1 < q) st t
def mG (y : YI) (Po : Option Value → HS → Prop) : GT := (fun _ _ _ => True, fun E s args below => MQ below (QQ E Po) args s (yR y).cells (yR y).slots (fun q => E.1 < q))
abbrev Dc (y : YI) (pc : Nat) (i : Instr) (len nx : Nat) : Prop := decode (yB y) pc = .ok (i, len) ∧ pc + len = nx
abbrev Db (y : YI) (pc : Nat) (i : Instr) (len nx : Nat) (off : Int) (tg : Nat) : Prop := decode (yB y) pc = .ok (i, len) ∧ pc + len = nx ∧ (pc : Int) + off = (tg : Int)
def FL (own : String) (ix ci j : Nat) (fin : Bool) (ty : FieldType) : Prop := ∃ r : vw_C, kcl[ci]? = some r ∧ j < r.2.2 ∧ Cond.fieldLink own ix (r.2.1 j).1 (r.2.1 j).2.1 (r.2.1 j).2.2.1 ∈ WT ∧ (r.2.1 j).2.2.2 = fin ∧ parseFieldDescriptor (r.2.1 j).2.2.1 = some ty ∧ (r.2.1 j).1 = r.1
def NW (own : String) (ix ci : Nat) (fs : List Value) (nn : Nat) : Prop := ∃ r : vw_C, kcl[ci]? = some r ∧ dfl r = fs ∧ r.2.2 = nn ∧ Cond.classLink own ix r.1 ∈ WT ∧ Cond.instantiable r.1 r.2.2 ∈ WT ∧ Cond.initialized r.1 ∈ WT
def noMH (s : String) : Prop := s ≠ "java/lang/invoke/MethodHandle" ∧ s ≠ "java/lang/invoke/VarHandle"
/-- what the tables say of a method: 'np' parameters (the receiver apart) -/
def YOK (y : YI) (np : Nat) : Prop := plainName (yN y).cls = true ∧ Cond.code (yN y) (yB y) (yL y) (yT y) ∈ WT ∧ noMH (yN y).cls ∧ (parseMethodDescriptor (yN y).desc).map (fun d => d.parameters.length) = some np ∧ Cond.initialized (yN y).cls ∈ WT
def CV (own : String) (ix : Nat) (y : YI) : Prop := Cond.methodLink own ix (yN y) ∈ WT ∧ Cond.instanceMethod (yN y) ∈ WT ∧ Cond.selects (yN y).cls (yN y) (yN y) ∈ WT
def CS (own : String) (ix : Nat) (y : YI) : Prop := Cond.methodLink own ix (yN y) ∈ WT ∧ Cond.static (yN y) ∈ WT
def CSN (own : String) (ix : Nat) (y : YI) : Prop := ∃ host : String, Cond.methodLinkNest own ix (yN y) host ∈ lw_tbl ∧ Cond.static (yN y) ∈ WT
def CIN (own : String) (ix : Nat) (y : YI) : Prop := ∃ host : String, Cond.methodLinkNest own ix (yN y) host ∈ lw_tbl ∧ Cond.instanceMethod (yN y) ∈ WT ∧ (yN y).name = "<init>"
def CI (own : String) (ix : Nat) (y : YI) : Prop := Cond.methodLink own ix (yN y) ∈ WT ∧ Cond.instanceMethod (yN y) ∈ WT ∧ (yN y).name = "<init>"
def rmOk (y y' : YI) : Prop := (yR y').frames + 1 ≤ (yR y).frames ∧ 8 + (yL y' + 11) + (yR y').locals ≤ (yR y).locals
def entl : List Value → List (Option Value)
  | [] => []
  | v :: r => if v.category = 2 then some v :: none :: entl r else some v :: entl r
def ent0 (y : YI) (av : List Value) : List (Option Value) := entl av ++ List.replicate (yL y - (entl av).length) none
def pushR : Option Value → List Value → List Value
  | none, st => st
  | some v, st => v :: st
theorem pushR_eq (E : EV) (r : Option Value) (st : List Value) : (pushR r st).map (trv E) = (r.map (trv E)).toList ++ st.map (trv E) := by cases r <;> rfl
theorem lvl_none {E : EV} : ∀ (m i0 : Nat), lvl E i0 (List.replicate m none) = [] := by
  intro m
  induction m with
  | zero => intro i0; rfl
  | succ m ih => intro i0; rw [List.replicate_succ]; exact ih (i0 + 1)
theorem lvl_app_none {E : EV} (m : Nat) : ∀ (ls : List (Option Value)) (i0 : Nat), lvl E i0 (ls ++ List.replicate m none) = lvl E i0 ls := by
  intro ls
  induction ls with
  | nil => intro i0; exact lvl_none m i0
  | cons a r ih =>
    intro i0
    cases a with
    | none => exact ih (i0 + 1)
    | some v => show (i0, trv E v) :: lvl E (i0 + 1) (r ++ _) = _; rw [ih]; rfl
theorem lvl_entl {E : EV} : ∀ (av : List Value) (i0 : Nat), lvl E i0 (entl av) = lv_args i0 (av.map (trv E)) := by
  intro av
  induction av with
  | nil => intro i0; rfl
  | cons v r ih =>
    intro i0
    simp only [entl, List.map_cons, lv_args, trv_cat]
    by_cases hc : v.category = 2
    · simp only [hc, if_true]
      show (i0, trv E v) :: lvl E (i0 + 1 + 1) (entl r) = _
      rw [ih]
    · simp only [hc, if_false]
      show (i0, trv E v) :: lvl E (i0 + 1) (entl r) = _
      rw [ih]
theorem entl_len {E : EV} : ∀ (av : List Value), (lg_sl (av.map (trv E))).length = (entl av).length := by
  intro av
  induction av with
  | nil => rfl
  | cons v r ih =>
    simp only [lg_sl] at ih
    simp only [lg_sl, entl, List.map_cons, List.flatMap_cons, List.length_append, trv_cat, ih]
    by_cases hc : v.category = 2
    · simp only [hc, if_true, List.length_cons, List.length_nil]; omega
    · simp only [hc, if_false, List.length_cons, List.length_nil]; omega
set_option maxHeartbeats 1000000 in
/-- a walk of a method's body from its entry is its contract -/
theorem met_of_X {y : YI} {np : Nat} {Po : Option Value → HS → Prop} {av : List Value} {ls0 : List (Option Value)} {h : HS} (E : EV) (l : Launch) (ok : YOK y np) (he : ent0 y av = ls0) (hlen : (entl av).length ≤ yL y) (hX : xj y (mG y Po) 0 ls0 [] h 0 0) :
    Met l (yN y) (wsy y) (yR y) (va_Pc (av.map (trv E)) (fun U => HH E h U.heap ∧ va_K E.2.2.1 kcl (tyl E) U ∧ NOk U)) (QQ E Po) (yR y).cells (yR y).slots (fun q => E.1 < q) := by
  refine Met.ofW (cc := yB y) (maxL := yL y) (ret := yT y) ok.1 rfl ?_
  intro p e s m args below meth c s₁ B hml hv
  obtain ⟨rfl, hH, hK, hNo⟩ := hv
  have hl := lv_entry (av.map (trv E)) (n := yL y) (by rw [entl_len]; exact hlen)
  rw [lg_entry_eq]
  have hts := atoms_spec (ws := wsy y) B.pre
  refine hX E p l e s m _ below meth c s.heap [] _ ⟨B.exec, B.bytes, B.returns, hml, findClass_of_methodNamed B.named, fun w hw => hts w (List.mem_cons_of_mem _ hw), B.notSynchronized, hK, ?_, (name_of_methodNamed B.named B.method).1, hNo, trivial⟩ hH va_S.rf ?_
  · have := hH.2
    omega
  · subst he
    unfold ent0
    rw [lvl_app_none, lvl_entl]
    exact hl
end
section
theorem x_iconst {y : YI} {G : GT} {pc nx : Nat} {ls : List (Option Value)} {st : List Value} {h : HS} {k n : Nat} {i : Int} (v : Int32) (hv : Int32.ofInt i = v) (d : Dc y pc (.iconst i) 1 nx) (K : xj y G nx ls (.int v :: st) h k n) : xj y G pc ls (st) h k n := by
  intro E p l e s m args below meth c H locs la C hH hS hl
  obtain ⟨hx, hb, -⟩ := id C
  obtain ⟨d, rfl⟩ := d
  exact lv_iconst hx hb d hv (K E p l e s m args below meth c H locs la C hH hS hl)
theorem x_bipush {y : YI} {G : GT} {pc nx : Nat} {ls : List (Option Value)} {st : List Value} {h : HS} {k n : Nat} {i : Int} (v : Int32) (hv : (Int8.ofInt i).toInt32 = v) (d : Dc y pc (.bipush i) 2 nx) (K : xj y G nx ls (.int v :: st) h k n) : xj y G pc ls (st) h k n := by
  intro E p l e s m args below meth c H locs la C hH hS hl
  obtain ⟨hx, hb, -⟩ := id C
  obtain ⟨d, rfl⟩ := d
  exact lv_bipush hx hb d hv (K E p l e s m args below meth c H locs la C hH hS hl)
theorem x_sipush {y : YI} {G : GT} {pc nx : Nat} {ls : List (Option Value)} {st : List Value} {h : HS} {k n : Nat} {i : Int} (v : Int32) (hv : (Int16.ofInt i).toInt32 = v) (d : Dc y pc (.sipush i) 3 nx) (K : xj y G nx ls (.int v :: st) h k n) : xj y G pc ls (st) h k n := by
  intro E p l e s m args below meth c H locs la C hH hS hl
  obtain ⟨hx, hb, -⟩ := id C
  obtain ⟨d, rfl⟩ := d
  exact lv_sipush hx hb d hv (K E p l e s m args below meth c H locs la C hH hS hl)
theorem x_lconst {y : YI} {G : GT} {pc nx : Nat} {ls : List (Option Value)} {st : List Value} {h : HS} {k n : Nat} {i : Fin 2} (v : Int64) (hv : Int64.ofNat i = v) (d : Dc y pc (.lconst i) 1 nx) (K : xj y G nx ls (.long v :: st) h k n) : xj y G pc ls (st) h k n := by
  intro E p l e s m args below meth c H locs la C hH hS hl
  obtain ⟨hx, hb, -⟩ := id C
  obtain ⟨d, rfl⟩ := d
  exact lv_lconst hx hb d hv (K E p l e s m args below meth c H locs la C hH hS hl)
theorem x_iadd {y : YI} {G : GT} {pc nx : Nat} {ls : List (Option Value)} {st : List Value} {h : HS} {k n : Nat} {a b : Int32} (d : Dc y pc .iadd 1 nx) (K : xj y G nx ls (.int (a + b) :: st) h k n) : xj y G pc ls (.int b :: .int a :: st) h k n := by
  intro E p l e s m args below meth c H locs la C hH hS hl
  obtain ⟨hx, hb, -⟩ := id C
  obtain ⟨d, rfl⟩ := d
  exact lv_iadd hx hb d (K E p l e s m args below meth c H locs la C hH hS hl)
theorem x_isub {y : YI} {G : GT} {pc nx : Nat} {ls : List (Option Value)} {st : List Value} {h : HS} {k n : Nat} {a b : Int32} (d : Dc y pc .isub 1 nx) (K : xj y G nx ls (.int (a - b) :: st) h k n) : xj y G pc ls (.int b :: .int a :: st) h k n := by
  intro E p l e s m args below meth c H locs la C hH hS hl
  obtain ⟨hx, hb, -⟩ := id C
  obtain ⟨d, rfl⟩ := d
  exact lv_isub hx hb d (K E p l e s m args below meth c H locs la C hH hS hl)
theorem x_imul {y : YI} {G : GT} {pc nx : Nat} {ls : List (Option Value)} {st : List Value} {h : HS} {k n : Nat} {a b : Int32} (d : Dc y pc .imul 1 nx) (K : xj y G nx ls (.int (a * b) :: st) h k n) : xj y G pc ls (.int b :: .int a :: st) h k n := by
  intro E p l e s m args below meth c H locs la C hH hS hl
  obtain ⟨hx, hb, -⟩ := id C
  obtain ⟨d, rfl⟩ := d
  exact lv_imul hx hb d (K E p l e s m args below meth c H locs la C hH hS hl)
theorem x_iand {y : YI} {G : GT} {pc nx : Nat} {ls : List (Option Value)} {st : List Value} {h : HS} {k n : Nat} {a b : Int32} (d : Dc y pc .iand 1 nx) (K : xj y G nx ls (.int (a &&& b) :: st) h k n) : xj y G pc ls (.int b :: .int a :: st) h k n := by
  intro E p l e s m args below meth c H locs la C hH hS hl
  obtain ⟨hx, hb, -⟩ := id C
  obtain ⟨d, rfl⟩ := d
  exact lv_iand hx hb d (K E p l e s m args below meth c H locs la C hH hS hl)
theorem x_ior {y : YI} {G : GT} {pc nx : Nat} {ls : List (Option Value)} {st : List Value} {h : HS} {k n : Nat} {a b : Int32} (d : Dc y pc .ior 1 nx) (K : xj y G nx ls (.int (a ||| b) :: st) h k n) : xj y G pc ls (.int b :: .int a :: st) h k n := by
  intro E p l e s m args below meth c H locs la C hH hS hl
  obtain ⟨hx, hb, -⟩ := id C
  obtain ⟨d, rfl⟩ := d
  exact lv_ior hx hb d (K E p l e s m args below meth c H locs la C hH hS hl)
theorem x_ixor {y : YI} {G : GT} {pc nx : Nat} {ls : List (Option Value)} {st : List Value} {h : HS} {k n : Nat} {a b : Int32} (d : Dc y pc .ixor 1 nx) (K : xj y G nx ls (.int (a ^^^ b) :: st) h k n) : xj y G pc ls (.int b :: .int a :: st) h k n := by
  intro E p l e s m args below meth c H locs la C hH hS hl
  obtain ⟨hx, hb, -⟩ := id C
  obtain ⟨d, rfl⟩ := d
  exact lv_ixor hx hb d (K E p l e s m args below meth c H locs la C hH hS hl)
theorem x_idiv {y : YI} {G : GT} {pc nx : Nat} {ls : List (Option Value)} {st : List Value} {h : HS} {k n : Nat} {a b : Int32} (hne : ¬ b = 0) (d : Dc y pc .idiv 1 nx) (K : xj y G nx ls (.int (a / b) :: st) h k n) : xj y G pc ls (.int b :: .int a :: st) h k n := by
  intro E p l e s m args below meth c H locs la C hH hS hl
  obtain ⟨hx, hb, -⟩ := id C
  obtain ⟨d, rfl⟩ := d
  exact lv_idiv hx hb d hne (K E p l e s m args below meth c H locs la C hH hS hl)
theorem x_irem {y : YI} {G : GT} {pc nx : Nat} {ls : List (Option Value)} {st : List Value} {h : HS} {k n : Nat} {a b : Int32} (hne : ¬ b = 0) (d : Dc y pc .irem 1 nx) (K : xj y G nx ls (.int (a - a / b * b) :: st) h k n) : xj y G pc ls (.int b :: .int a :: st) h k n := by
  intro E p l e s m args below meth c H locs la C hH hS hl
  obtain ⟨hx, hb, -⟩ := id C
  obtain ⟨d, rfl⟩ := d
  exact lv_irem hx hb d hne (K E p l e s m args below meth c H locs la C hH hS hl)
theorem x_ineg {y : YI} {G : GT} {pc nx : Nat} {ls : List (Option Value)} {st : List Value} {h : HS} {k n : Nat} {a : Int32} (d : Dc y pc .ineg 1 nx) (K : xj y G nx ls (.int (-a) :: st) h k n) : xj y G pc ls (.int a :: st) h k n := by
  intro E p l e s m args below meth c H locs la C hH hS hl
  obtain ⟨hx, hb, -⟩ := id C
  obtain ⟨d, rfl⟩ := d
  exact lv_ineg hx hb d (K E p l e s m args below meth c H locs la C hH hS hl)
theorem x_ishl {y : YI} {G : GT} {pc nx : Nat} {ls : List (Option Value)} {st : List Value} {h : HS} {k n : Nat} {a b : Int32} (d : Dc y pc .ishl 1 nx) (K : xj y G nx ls (.int (a <<< (b &&& 31)) :: st) h k n) : xj y G pc ls (.int b :: .int a :: st) h k n := by
  intro E p l e s m args below meth c H locs la C hH hS hl
  obtain ⟨hx, hb, -⟩ := id C
  obtain ⟨d, rfl⟩ := d
  exact lv_ishl hx hb d (K E p l e s m args below meth c H locs la C hH hS hl)
theorem x_ishr {y : YI} {G : GT} {pc nx : Nat} {ls : List (Option Value)} {st : List Value} {h : HS} {k n : Nat} {a b : Int32} (d : Dc y pc .ishr 1 nx) (K : xj y G nx ls (.int (a >>> (b &&& 31)) :: st) h k n) : xj y G pc ls (.int b :: .int a :: st) h k n := by
  intro E p l e s m args below meth c H locs la C hH hS hl
  obtain ⟨hx, hb, -⟩ := id C
  obtain ⟨d, rfl⟩ := d
  exact lv_ishr hx hb d (K E p l e s m args below meth c H locs la C hH hS hl)
theorem x_iushr {y : YI} {G : GT} {pc nx : Nat} {ls : List (Option Value)} {st : List Value} {h : HS} {k n : Nat} {a b : Int32} (d : Dc y pc .iushr 1 nx) (K : xj y G nx ls (.int (a.toUInt32 >>> (b.toUInt32 &&& Int32.toUInt32 31)).toInt32 :: st) h k n) : xj y G pc ls (.int b :: .int a :: st) h k n := by
  intro E p l e s m args below meth c H locs la C hH hS hl
  obtain ⟨hx, hb, -⟩ := id C
  obtain ⟨d, rfl⟩ := d
  exact lv_iushr hx hb d rfl (K E p l e s m args below meth c H locs la C hH hS hl)
theorem x_ladd {y : YI} {G : GT} {pc nx : Nat} {ls : List (Option Value)} {st : List Value} {h : HS} {k n : Nat} {a b : Int64} (d : Dc y pc .ladd 1 nx) (K : xj y G nx ls (.long (a + b) :: st) h k n) : xj y G pc ls (.long b :: .long a :: st) h k n := by
  intro E p l e s m args below meth c H locs la C hH hS hl
  obtain ⟨hx, hb, -⟩ := id C
  obtain ⟨d, rfl⟩ := d
  exact lv_ladd hx hb d (K E p l e s m args below meth c H locs la C hH hS hl)
theorem x_lmul {y : YI} {G : GT} {pc nx : Nat} {ls : List (Option Value)} {st : List Value} {h : HS} {k n : Nat} {a b : Int64} (d : Dc y pc .lmul 1 nx) (K : xj y G nx ls (.long (a * b) :: st) h k n) : xj y G pc ls (.long b :: .long a :: st) h k n := by
  intro E p l e s m args below meth c H locs la C hH hS hl
  obtain ⟨hx, hb, -⟩ := id C
  obtain ⟨d, rfl⟩ := d
  exact lv_lmul hx hb d (K E p l e s m args below meth c H locs la C hH hS hl)
theorem x_land {y : YI} {G : GT} {pc nx : Nat} {ls : List (Option Value)} {st : List Value} {h : HS} {k n : Nat} {a b : Int64} (d : Dc y pc .land 1 nx) (K : xj y G nx ls (.long (a &&& b) :: st) h k n) : xj y G pc ls (.long b :: .long a :: st) h k n := by
  intro E p l e s m args below meth c H locs la C hH hS hl
  obtain ⟨hx, hb, -⟩ := id C
  obtain ⟨d, rfl⟩ := d
  exact lv_land hx hb d (K E p l e s m args below meth c H locs la C hH hS hl)
theorem x_lor {y : YI} {G : GT} {pc nx : Nat} {ls : List (Option Value)} {st : List Value} {h : HS} {k n : Nat} {a b : Int64} (d : Dc y pc .lor 1 nx) (K : xj y G nx ls (.long (a ||| b) :: st) h k n) : xj y G pc ls (.long b :: .long a :: st) h k n := by
  intro E p l e s m args below meth c H locs la C hH hS hl
  obtain ⟨hx, hb, -⟩ := id C
  obtain ⟨d, rfl⟩ := d
  exact lv_lor hx hb d (K E p l e s m args below meth c H locs la C hH hS hl)
theorem x_lrem {y : YI} {G : GT} {pc nx : Nat} {ls : List (Option Value)} {st : List Value} {h : HS} {k n : Nat} {a b : Int64} (hne : ¬ b = 0) (d : Dc y pc .lrem 1 nx) (K : xj y G nx ls (.long (a - a / b * b) :: st) h k n) : xj y G pc ls (.long b :: .long a :: st) h k n := by
  intro E p l e s m args below meth c H locs la C hH hS hl
  obtain ⟨hx, hb, -⟩ := id C
  obtain ⟨d, rfl⟩ := d
  exact lv_lrem hx hb d hne (K E p l e s m args below meth c H locs la C hH hS hl)
theorem x_i2l {y : YI} {G : GT} {pc nx : Nat} {ls : List (Option Value)} {st : List Value} {h : HS} {k n : Nat} {a : Int32} (d : Dc y pc .i2l 1 nx) (K : xj y G nx ls (.long a.toInt64 :: st) h k n) : xj y G pc ls (.int a :: st) h k n := by
  intro E p l e s m args below meth c H locs la C hH hS hl
  obtain ⟨hx, hb, -⟩ := id C
  obtain ⟨d, rfl⟩ := d
  exact lv_i2l hx hb d rfl (K E p l e s m args below meth c H locs la C hH hS hl)
theorem x_l2i {y : YI} {G : GT} {pc nx : Nat} {ls : List (Option Value)} {st : List Value} {h : HS} {k n : Nat} {a : Int64} (d : Dc y pc .l2i 1 nx) (K : xj y G nx ls (.int a.toInt32 :: st) h k n) : xj y G pc ls (.long a :: st) h k n := by
  intro E p l e s m args below meth c H locs la C hH hS hl
  obtain ⟨hx, hb, -⟩ := id C
  obtain ⟨d, rfl⟩ := d
  exact lv_l2i hx hb d rfl (K E p l e s m args below meth c H locs la C hH hS hl)
theorem x_lushr {y : YI} {G : GT} {pc nx : Nat} {ls : List (Option Value)} {st : List Value} {h : HS} {k n : Nat} {a : Int64} {b : Int32} (d : Dc y pc .lushr 1 nx) (K : xj y G nx ls (.long (a.toUInt64 >>> (b.toInt64.toUInt64 &&& Int64.toUInt64 63)).toInt64 :: st) h k n) : xj y G pc ls (.int b :: .long a :: st) h k n := by
  intro E p l e s m args below meth c H locs la C hH hS hl
  obtain ⟨hx, hb, -⟩ := id C
  obtain ⟨d, rfl⟩ := d
  exact lv_lushr hx hb d rfl (K E p l e s m args below meth c H locs la C hH hS hl)
theorem x_lshl {y : YI} {G : GT} {pc nx : Nat} {ls : List (Option Value)} {st : List Value} {h : HS} {k n : Nat} {a : Int64} {b : Int32} (d : Dc y pc .lshl 1 nx) (K : xj y G nx ls (.long (a <<< (b.toInt64 &&& 63)) :: st) h k n) : xj y G pc ls (.int b :: .long a :: st) h k n := by
  intro E p l e s m args below meth c H locs la C hH hS hl
  obtain ⟨hx, hb, -⟩ := id C
  obtain ⟨d, rfl⟩ := d
  exact lv_lshl hx hb d rfl (K E p l e s m args below meth c H locs la C hH hS hl)
theorem x_lcmp {y : YI} {G : GT} {pc nx : Nat} {ls : List (Option Value)} {st : List Value} {h : HS} {k n : Nat} {a b : Int64} (d : Dc y pc .lcmp 1 nx) (K : xj y G nx ls (.int (lg_cmp a b) :: st) h k n) : xj y G pc ls (.long b :: .long a :: st) h k n := by
  intro E p l e s m args below meth c H locs la C hH hS hl
  obtain ⟨hx, hb, -⟩ := id C
  obtain ⟨d, rfl⟩ := d
  exact W.lcmp hx hb d (K E p l e s m args below meth c H locs la C hH hS hl)
theorem x_dup {y : YI} {G : GT} {pc nx : Nat} {ls : List (Option Value)} {st : List Value} {h : HS} {k n : Nat} {v : Value} (hv : v.category = 1) (d : Dc y pc .dup 1 nx) (K : xj y G nx ls (v :: v :: st) h k n) : xj y G pc ls (v :: st) h k n := by
  intro E p l e s m args below meth c H locs la C hH hS hl
  obtain ⟨hx, hb, -⟩ := id C
  obtain ⟨d, rfl⟩ := d
  exact lv_dup hx hb d (by rw [trv_cat]; exact hv) (K E p l e s m args below meth c H locs la C hH hS hl)
theorem x_dup2 {y : YI} {G : GT} {pc nx : Nat} {ls : List (Option Value)} {st : List Value} {h : HS} {k n : Nat} {v w : Value} (hv : v.category = 1) (hw : w.category = 1) (d : Dc y pc .dup2 1 nx) (K : xj y G nx ls (v :: w :: v :: w :: st) h k n) : xj y G pc ls (v :: w :: st) h k n := by
  intro E p l e s m args below meth c H locs la C hH hS hl
  obtain ⟨hx, hb, -⟩ := id C
  obtain ⟨d, rfl⟩ := d
  exact lv_dup2_11 hx hb d (by rw [trv_cat]; exact hv) (by rw [trv_cat]; exact hw) (K E p l e s m args below meth c H locs la C hH hS hl)
theorem x_null {y : YI} {G : GT} {pc nx : Nat} {ls : List (Option Value)} {st : List Value} {h : HS} {k n : Nat}  (d : Dc y pc .aconst_null 1 nx) (K : xj y G nx ls (.null :: st) h k n) : xj y G pc ls (st) h k n := by
  intro E p l e s m args below meth c H locs la C hH hS hl
  obtain ⟨hx, hb, -⟩ := id C
  obtain ⟨d, rfl⟩ := d
  exact lv_null hx hb d (K E p l e s m args below meth c H locs la C hH hS hl)
theorem x_if_eq {y : YI} {G : GT} {pc nx : Nat} {ls : List (Option Value)} {st : List Value} {h : HS} {k n : Nat} {off : Int} {tg : Nat} {a : Int32} (d : Db y pc (.ifCond .eq off) 3 nx off tg) (kt : a = 0 → xj y G tg ls st h k n) (kf : ¬ (a = 0) → xj y G nx ls st h k n) : xj y G pc ls (.int a :: st) h k n := by
  intro E p l e s m args below meth c H locs la C hH hS hl
  obtain ⟨hx, hb, -⟩ := id C
  obtain ⟨d, rfl, ht⟩ := d
  exact lv_if_eq hx hb d ht (fun q => kt q E p l e s m args below meth c H locs la C hH hS hl) (fun q => kf q E p l e s m args below meth c H locs la C hH hS hl)
theorem x_icmp_eq {y : YI} {G : GT} {pc nx : Nat} {ls : List (Option Value)} {st : List Value} {h : HS} {k n : Nat} {off : Int} {tg : Nat} {a b : Int32} (d : Db y pc (.if_icmp .eq off) 3 nx off tg) (kt : a = b → xj y G tg ls st h k n) (kf : ¬ (a = b) → xj y G nx ls st h k n) : xj y G pc ls (.int b :: .int a :: st) h k n := by
  intro E p l e s m args below meth c H locs la C hH hS hl
  obtain ⟨hx, hb, -⟩ := id C
  obtain ⟨d, rfl, ht⟩ := d
  exact lv_icmp_eq hx hb d ht (fun q => kt q E p l e s m args below meth c H locs la C hH hS hl) (fun q => kf q E p l e s m args below meth c H locs la C hH hS hl)
theorem x_if_ne {y : YI} {G : GT} {pc nx : Nat} {ls : List (Option Value)} {st : List Value} {h : HS} {k n : Nat} {off : Int} {tg : Nat} {a : Int32} (d : Db y pc (.ifCond .ne off) 3 nx off tg) (kt : ¬ a = 0 → xj y G tg ls st h k n) (kf : a = 0 → xj y G nx ls st h k n) : xj y G pc ls (.int a :: st) h k n := by
  intro E p l e s m args below meth c H locs la C hH hS hl
  obtain ⟨hx, hb, -⟩ := id C
  obtain ⟨d, rfl, ht⟩ := d
  exact lv_if_ne hx hb d ht (fun q => kt q E p l e s m args below meth c H locs la C hH hS hl) (fun q => kf q E p l e s m args below meth c H locs la C hH hS hl)
theorem x_icmp_ne {y : YI} {G : GT} {pc nx : Nat} {ls : List (Option Value)} {st : List Value} {h : HS} {k n : Nat} {off : Int} {tg : Nat} {a b : Int32} (d : Db y pc (.if_icmp .ne off) 3 nx off tg) (kt : ¬ a = b → xj y G tg ls st h k n) (kf : a = b → xj y G nx ls st h k n) : xj y G pc ls (.int b :: .int a :: st) h k n := by
  intro E p l e s m args below meth c H locs la C hH hS hl
  obtain ⟨hx, hb, -⟩ := id C
  obtain ⟨d, rfl, ht⟩ := d
  exact lv_icmp_ne hx hb d ht (fun q => kt q E p l e s m args below meth c H locs la C hH hS hl) (fun q => kf q E p l e s m args below meth c H locs la C hH hS hl)
theorem x_if_lt {y : YI} {G : GT} {pc nx : Nat} {ls : List (Option Value)} {st : List Value} {h : HS} {k n : Nat} {off : Int} {tg : Nat} {a : Int32} (d : Db y pc (.ifCond .lt off) 3 nx off tg) (kt : a < 0 → xj y G tg ls st h k n) (kf : ¬ (a < 0) → xj y G nx ls st h k n) : xj y G pc ls (.int a :: st) h k n := by
  intro E p l e s m args below meth c H locs la C hH hS hl
  obtain ⟨hx, hb, -⟩ := id C
  obtain ⟨d, rfl, ht⟩ := d
  exact lv_if_lt hx hb d ht (fun q => kt q E p l e s m args below meth c H locs la C hH hS hl) (fun q => kf q E p l e s m args below meth c H locs la C hH hS hl)
theorem x_icmp_lt {y : YI} {G : GT} {pc nx : Nat} {ls : List (Option Value)} {st : List Value} {h : HS} {k n : Nat} {off : Int} {tg : Nat} {a b : Int32} (d : Db y pc (.if_icmp .lt off) 3 nx off tg) (kt : a < b → xj y G tg ls st h k n) (kf : ¬ (a < b) → xj y G nx ls st h k n) : xj y G pc ls (.int b :: .int a :: st) h k n := by
  intro E p l e s m args below meth c H locs la C hH hS hl
  obtain ⟨hx, hb, -⟩ := id C
  obtain ⟨d, rfl, ht⟩ := d
  exact lv_icmp_lt hx hb d ht (fun q => kt q E p l e s m args below meth c H locs la C hH hS hl) (fun q => kf q E p l e s m args below meth c H locs la C hH hS hl)
theorem x_if_ge {y : YI} {G : GT} {pc nx : Nat} {ls : List (Option Value)} {st : List Value} {h : HS} {k n : Nat} {off : Int} {tg : Nat} {a : Int32} (d : Db y pc (.ifCond .ge off) 3 nx off tg) (kt : 0 ≤ a → xj y G tg ls st h k n) (kf : ¬ (0 ≤ a) → xj y G nx ls st h k n) : xj y G pc ls (.int a :: st) h k n := by
  intro E p l e s m args below meth c H locs la C hH hS hl
  obtain ⟨hx, hb, -⟩ := id C
  obtain ⟨d, rfl, ht⟩ := d
  exact lv_if_ge hx hb d ht (fun q => kt q E p l e s m args below meth c H locs la C hH hS hl) (fun q => kf q E p l e s m args below meth c H locs la C hH hS hl)
theorem x_icmp_ge {y : YI} {G : GT} {pc nx : Nat} {ls : List (Option Value)} {st : List Value} {h : HS} {k n : Nat} {off : Int} {tg : Nat} {a b : Int32} (d : Db y pc (.if_icmp .ge off) 3 nx off tg) (kt : b ≤ a → xj y G tg ls st h k n) (kf : ¬ (b ≤ a) → xj y G nx ls st h k n) : xj y G pc ls (.int b :: .int a :: st) h k n := by
  intro E p l e s m args below meth c H locs la C hH hS hl
  obtain ⟨hx, hb, -⟩ := id C
  obtain ⟨d, rfl, ht⟩ := d
  exact lv_icmp_ge hx hb d ht (fun q => kt q E p l e s m args below meth c H locs la C hH hS hl) (fun q => kf q E p l e s m args below meth c H locs la C hH hS hl)
theorem x_if_gt {y : YI} {G : GT} {pc nx : Nat} {ls : List (Option Value)} {st : List Value} {h : HS} {k n : Nat} {off : Int} {tg : Nat} {a : Int32} (d : Db y pc (.ifCond .gt off) 3 nx off tg) (kt : 0 < a → xj y G tg ls st h k n) (kf : ¬ (0 < a) → xj y G nx ls st h k n) : xj y G pc ls (.int a :: st) h k n := by
  intro E p l e s m args below meth c H locs la C hH hS hl
  obtain ⟨hx, hb, -⟩ := id C
  obtain ⟨d, rfl, ht⟩ := d
  exact lv_if_gt hx hb d ht (fun q => kt q E p l e s m args below meth c H locs la C hH hS hl) (fun q => kf q E p l e s m args below meth c H locs la C hH hS hl)
theorem x_icmp_gt {y : YI} {G : GT} {pc nx : Nat} {ls : List (Option Value)} {st : List Value} {h : HS} {k n : Nat} {off : Int} {tg : Nat} {a b : Int32} (d : Db y pc (.if_icmp .gt off) 3 nx off tg) (kt : b < a → xj y G tg ls st h k n) (kf : ¬ (b < a) → xj y G nx ls st h k n) : xj y G pc ls (.int b :: .int a :: st) h k n := by
  intro E p l e s m args below meth c H locs la C hH hS hl
  obtain ⟨hx, hb, -⟩ := id C
  obtain ⟨d, rfl, ht⟩ := d
  exact lv_icmp_gt hx hb d ht (fun q => kt q E p l e s m args below meth c H locs la C hH hS hl) (fun q => kf q E p l e s m args below meth c H locs la C hH hS hl)
theorem x_if_le {y : YI} {G : GT} {pc nx : Nat} {ls : List (Option Value)} {st : List Value} {h : HS} {k n : Nat} {off : Int} {tg : Nat} {a : Int32} (d : Db y pc (.ifCond .le off) 3 nx off tg) (kt : a ≤ 0 → xj y G tg ls st h k n) (kf : ¬ (a ≤ 0) → xj y G nx ls st h k n) : xj y G pc ls (.int a :: st) h k n := by
  intro E p l e s m args below meth c H locs la C hH hS hl
  obtain ⟨hx, hb, -⟩ := id C
  obtain ⟨d, rfl, ht⟩ := d
  exact lv_if_le hx hb d ht (fun q => kt q E p l e s m args below meth c H locs la C hH hS hl) (fun q => kf q E p l e s m args below meth c H locs la C hH hS hl)
theorem x_icmp_le {y : YI} {G : GT} {pc nx : Nat} {ls : List (Option Value)} {st : List Value} {h : HS} {k n : Nat} {off : Int} {tg : Nat} {a b : Int32} (d : Db y pc (.if_icmp .le off) 3 nx off tg) (kt : a ≤ b → xj y G tg ls st h k n) (kf : ¬ (a ≤ b) → xj y G nx ls st h k n) : xj y G pc ls (.int b :: .int a :: st) h k n := by
  intro E p l e s m args below meth c H locs la C hH hS hl
  obtain ⟨hx, hb, -⟩ := id C
  obtain ⟨d, rfl, ht⟩ := d
  exact lv_icmp_le hx hb d ht (fun q => kt q E p l e s m args below meth c H locs la C hH hS hl) (fun q => kf q E p l e s m args below meth c H locs la C hH hS hl)
theorem x_goto {y : YI} {G : GT} {pc nx : Nat} {ls : List (Option Value)} {st : List Value} {h : HS} {k n : Nat} {off : Int} {tg : Nat} (d : Db y pc (.goto off) 3 nx off tg) (K : xj y G tg ls st h k n) : xj y G pc ls st h k n := by
  intro E p l e s m args below meth c H locs la C hH hS hl
  obtain ⟨hx, hb, -⟩ := id C
  obtain ⟨d, rfl, ht⟩ := d
  exact lv_goto hx hb d ht (K E p l e s m args below meth c H locs la C hH hS hl)
theorem x_ifnull {y : YI} {G : GT} {pc nx : Nat} {ls : List (Option Value)} {st : List Value} {h : HS} {k n : Nat} {off : Int} {tg a : Nat} (d : Db y pc (.ifnull off) 3 nx off tg) (K : xj y G nx ls st h k n) : xj y G pc ls (.ref a :: st) h k n := by
  intro E p l e s m args below meth c H locs la C hH hS hl
  obtain ⟨hx, hb, -⟩ := id C
  obtain ⟨d, rfl, ht⟩ := d
  exact lv_ifnull hx hb d (K E p l e s m args below meth c H locs la C hH hS hl)
theorem x_ifnullN {y : YI} {G : GT} {pc nx : Nat} {ls : List (Option Value)} {st : List Value} {h : HS} {k n : Nat} {off : Int} {tg : Nat} (d : Db y pc (.ifnull off) 3 nx off tg) (K : xj y G tg ls st h k n) : xj y G pc ls (.null :: st) h k n := by
  intro E p l e s m args below meth c H locs la C hH hS hl
  obtain ⟨hx, hb, -⟩ := id C
  obtain ⟨d, rfl, ht⟩ := d
  exact lv_ifnullN hx hb d ht (K E p l e s m args below meth c H locs la C hH hS hl)
theorem x_tblOut {y : YI} {G : GT} {pc nx : Nat} {ls : List (Option Value)} {st : List Value} {h : HS} {k n : Nat} {df lo hi : Int} {of : Array Int} {len tg : Nat} {a : Int32} (d : decode (yB y) pc = .ok (.tableswitch df lo hi of, len)) (ho : a.toInt < lo ∨ hi < a.toInt) (ht : (pc : Int) + df = (tg : Int)) (K : xj y G tg ls st h k n) : xj y G pc ls (.int a :: st) h k n := by
  intro E p l e s m args below meth c H locs la C hH hS hl
  obtain ⟨hx, hb, -⟩ := id C
  exact lv_tableOut hx hb d ho ht (K E p l e s m args below meth c H locs la C hH hS hl)
theorem x_tblIn {y : YI} {G : GT} {pc nx : Nat} {ls : List (Option Value)} {st : List Value} {h : HS} {k n : Nat} {df lo hi off : Int} {of : Array Int} {len tg : Nat} {a : Int32} (d : decode (yB y) pc = .ok (.tableswitch df lo hi of, len)) (h1 : ¬ a.toInt < lo) (h2 : ¬ hi < a.toInt) (ho : of[(a.toInt - lo).toNat]? = some off) (ht : (pc : Int) + off = (tg : Int)) (K : xj y G tg ls st h k n) : xj y G pc ls (.int a :: st) h k n := by
  intro E p l e s m args below meth c H locs la C hH hS hl
  obtain ⟨hx, hb, -⟩ := id C
  exact lv_tableIn hx hb d h1 h2 ho ht (K E p l e s m args below meth c H locs la C hH hS hl)
theorem x_lookup {y : YI} {G : GT} {pc nx : Nat} {ls : List (Option Value)} {st : List Value} {h : HS} {k n : Nat} {df off : Int} {ps : Array (Int × Int)} {len tg : Nat} {a : Int32} (d : decode (yB y) pc = .ok (.lookupswitch df ps, len)) (hp : (ps.toList.zip (ps.toList.drop 1)).all (fun (a, next) => a.1 < next.1) = true) (ho : Op.lookupswitch.offset ps.toList df a.toInt = off) (ht : (pc : Int) + off = (tg : Int)) (K : xj y G tg ls st h k n) : xj y G pc ls (.int a :: st) h k n := by
  intro E p l e s m args below meth c H locs la C hH hS hl
  obtain ⟨hx, hb, -⟩ := id C
  exact lv_lookup hx hb d hp ho ht (K E p l e s m args below meth c H locs la C hH hS hl)
theorem x_iload_0 {y : YI} {G : GT} {pc nx : Nat} {st : List Value} {h : HS} {k n : Nat} {r : List (Option Value)} {x : Int32} (d : Dc y pc (.iload_n 0) 1 nx) (K : xj y G nx (some (.int x) :: r) (.int x :: st) h k n) : xj y G pc (some (.int x) :: r) st h k n := by
  intro E p l e s m args below meth c H locs la C hH hS hl
  obtain ⟨hx, hb, -⟩ := id C
  obtain ⟨d, rfl⟩ := d
  exact lv_iload_n hx hb d rfl (la_get hl (i := 0) (v := .int x) rfl) (K E p l e s m args below meth c H locs la C hH hS hl)
theorem x_istore_0 {y : YI} {G : GT} {pc nx : Nat} {st : List Value} {h : HS} {k n : Nat} {b : Option Value} {r : List (Option Value)} {x : Int32} (d : Dc y pc (.istore_n 0) 1 nx) (hi : 0 < yL y) (K : xj y G nx (some (.int x) :: r) st h k n) : xj y G pc (b :: r) (.int x :: st) h k n := by
  intro E p l e s m args below meth c H locs la C hH hS hl
  obtain ⟨hx, hb, -⟩ := id C
  obtain ⟨d, rfl⟩ := d
  exact lv_istore_n hx hb d rfl hl hi rfl (fun la2 hl2 => K E p l e s m args below meth c H locs la2 C hH hS (la_set1 (E := E) (i := 0) (ls := b :: r) (w := .int x) (fun j q => absurd q (by omega)) (by simp) hl2))
theorem x_lload_0 {y : YI} {G : GT} {pc nx : Nat} {st : List Value} {h : HS} {k n : Nat} {r : List (Option Value)} {x : Int64} (d : Dc y pc (.lload_n 0) 1 nx) (K : xj y G nx (some (.long x) :: r) (.long x :: st) h k n) : xj y G pc (some (.long x) :: r) st h k n := by
  intro E p l e s m args below meth c H locs la C hH hS hl
  obtain ⟨hx, hb, -⟩ := id C
  obtain ⟨d, rfl⟩ := d
  exact lv_lload_n hx hb d rfl (la_get hl (i := 0) (v := .long x) rfl) (K E p l e s m args below meth c H locs la C hH hS hl)
theorem x_lstore_0 {y : YI} {G : GT} {pc nx : Nat} {st : List Value} {h : HS} {k n : Nat} {b b1 : Option Value} {r : List (Option Value)} {x : Int64} (d : Dc y pc (.lstore_n 0) 1 nx) (hi : 0 + 1 < yL y) (K : xj y G nx (some (.long x) :: none :: r) st h k n) : xj y G pc (b :: b1 :: r) (.long x :: st) h k n := by
  intro E p l e s m args below meth c H locs la C hH hS hl
  obtain ⟨hx, hb, -⟩ := id C
  obtain ⟨d, rfl⟩ := d
  exact lv_lstore_n hx hb d rfl hl hi rfl (fun la2 hl2 => K E p l e s m args below meth c H locs la2 C hH hS (la_set2 (E := E) (i := 0) (ls := b :: b1 :: r) (w := .long x) (fun j q => absurd q (by omega)) (by simp) hl2))
theorem x_aload_0 {y : YI} {G : GT} {pc nx : Nat} {st : List Value} {h : HS} {k n : Nat} {r : List (Option Value)} {x : Nat} (d : Dc y pc (.aload_n 0) 1 nx) (K : xj y G nx (some (.ref x) :: r) (.ref x :: st) h k n) : xj y G pc (some (.ref x) :: r) st h k n := by
  intro E p l e s m args below meth c H locs la C hH hS hl
  obtain ⟨hx, hb, -⟩ := id C
  obtain ⟨d, rfl⟩ := d
  exact lv_aload_n hx hb d rfl (la_get hl (i := 0) (v := .ref x) rfl) (K E p l e s m args below meth c H locs la C hH hS hl)
theorem x_astore_0 {y : YI} {G : GT} {pc nx : Nat} {st : List Value} {h : HS} {k n : Nat} {b : Option Value} {r : List (Option Value)} {x : Nat} (d : Dc y pc (.astore_n 0) 1 nx) (hi : 0 < yL y) (K : xj y G nx (some (.ref x) :: r) st h k n) : xj y G pc (b :: r) (.ref x :: st) h k n := by
  intro E p l e s m args below meth c H locs la C hH hS hl
  obtain ⟨hx, hb, -⟩ := id C
  obtain ⟨d, rfl⟩ := d
  exact lv_astore_n hx hb d rfl hl hi rfl (fun la2 hl2 => K E p l e s m args below meth c H locs la2 C hH hS (la_set1 (E := E) (i := 0) (ls := b :: r) (w := .ref x) (fun j q => absurd q (by omega)) (by simp) hl2))
theorem x_iinc_0 {y : YI} {G : GT} {pc nx : Nat} {st : List Value} {h : HS} {k n : Nat} {r : List (Option Value)} {x : Int32} {ic : Int} (v : Int32) (d : Dc y pc (.iinc 0 ic) 3 nx) (hv : x + Int32.ofInt ic = v) (hi : 0 < yL y) (K : xj y G nx (some (.int v) :: r) st h k n) : xj y G pc (some (.int x) :: r) st h k n := by
  intro E p l e s m args below meth c H locs la C hH hS hl
  obtain ⟨hx, hb, -⟩ := id C
  obtain ⟨d, rfl⟩ := d
  obtain ⟨q, hq⟩ := List.getElem?_of_mem (lvl_mem (E := E) (some (.int x) :: r) 0 0 (.int x) rfl)
  rw [Nat.zero_add] at hq
  exact lv_iinc hx hb d hl hq hv hi rfl (fun la2 hl2 => K E p l e s m args below meth c H locs la2 C hH hS (la_set1 (E := E) (i := 0) (ls := some (.int x) :: r) (w := .int v) (fun j q => absurd q (by omega)) (by simp) hl2))
theorem x_iload_1 {y : YI} {G : GT} {pc nx : Nat} {st : List Value} {h : HS} {k n : Nat} {a0 : Option Value} {r : List (Option Value)} {x : Int32} (d : Dc y pc (.iload_n 1) 1 nx) (K : xj y G nx (a0 :: some (.int x) :: r) (.int x :: st) h k n) : xj y G pc (a0 :: some (.int x) :: r) st h k n := by
  intro E p l e s m args below meth c H locs la C hH hS hl
  obtain ⟨hx, hb, -⟩ := id C
  obtain ⟨d, rfl⟩ := d
  exact lv_iload_n hx hb d rfl (la_get hl (i := 1) (v := .int x) rfl) (K E p l e s m args below meth c H locs la C hH hS hl)
theorem x_istore_1 {y : YI} {G : GT} {pc nx : Nat} {st : List Value} {h : HS} {k n : Nat} {a0 : Option Value} {b : Option Value} {r : List (Option Value)} {x : Int32} (d : Dc y pc (.istore_n 1) 1 nx) (hp : isC2 a0 = false) (hi : 1 < yL y) (K : xj y G nx (a0 :: some (.int x) :: r) st h k n) : xj y G pc (a0 :: b :: r) (.int x :: st) h k n := by
  intro E p l e s m args below meth c H locs la C hH hS hl
  obtain ⟨hx, hb, -⟩ := id C
  obtain ⟨d, rfl⟩ := d
  exact lv_istore_n hx hb d rfl hl hi rfl (fun la2 hl2 => K E p l e s m args below meth c H locs la2 C hH hS (la_set1 (E := E) (i := 1) (ls := a0 :: b :: r) (w := .int x) (fun j q => by (obtain rfl : j = 0 := by omega); exact hp) (by simp) hl2))
theorem x_lload_1 {y : YI} {G : GT} {pc nx : Nat} {st : List Value} {h : HS} {k n : Nat} {a0 : Option Value} {r : List (Option Value)} {x : Int64} (d : Dc y pc (.lload_n 1) 1 nx) (K : xj y G nx (a0 :: some (.long x) :: r) (.long x :: st) h k n) : xj y G pc (a0 :: some (.long x) :: r) st h k n := by
  intro E p l e s m args below meth c H locs la C hH hS hl
  obtain ⟨hx, hb, -⟩ := id C
  obtain ⟨d, rfl⟩ := d
  exact lv_lload_n hx hb d rfl (la_get hl (i := 1) (v := .long x) rfl) (K E p l e s m args below meth c H locs la C hH hS hl)
theorem x_lstore_1 {y : YI} {G : GT} {pc nx : Nat} {st : List Value} {h : HS} {k n : Nat} {a0 : Option Value} {b b1 : Option Value} {r : List (Option Value)} {x : Int64} (d : Dc y pc (.lstore_n 1) 1 nx) (hp : isC2 a0 = false) (hi : 1 + 1 < yL y) (K : xj y G nx (a0 :: some (.long x) :: none :: r) st h k n) : xj y G pc (a0 :: b :: b1 :: r) (.long x :: st) h k n := by
  intro E p l e s m args below meth c H locs la C hH hS hl
  obtain ⟨hx, hb, -⟩ := id C
  obtain ⟨d, rfl⟩ := d
  exact lv_lstore_n hx hb d rfl hl hi rfl (fun la2 hl2 => K E p l e s m args below meth c H locs la2 C hH hS (la_set2 (E := E) (i := 1) (ls := a0 :: b :: b1 :: r) (w := .long x) (fun j q => by (obtain rfl : j = 0 := by omega); exact hp) (by simp) hl2))
theorem x_aload_1 {y : YI} {G : GT} {pc nx : Nat} {st : List Value} {h : HS} {k n : Nat} {a0 : Option Value} {r : List (Option Value)} {x : Nat} (d : Dc y pc (.aload_n 1) 1 nx) (K : xj y G nx (a0 :: some (.ref x) :: r) (.ref x :: st) h k n) : xj y G pc (a0 :: some (.ref x) :: r) st h k n := by
  intro E p l e s m args below meth c H locs la C hH hS hl
  obtain ⟨hx, hb, -⟩ := id C
  obtain ⟨d, rfl⟩ := d
  exact lv_aload_n hx hb d rfl (la_get hl (i := 1) (v := .ref x) rfl) (K E p l e s m args below meth c H locs la C hH hS hl)
theorem x_astore_1 {y : YI} {G : GT} {pc nx : Nat} {st : List Value} {h : HS} {k n : Nat} {a0 : Option Value} {b : Option Value} {r : List (Option Value)} {x : Nat} (d : Dc y pc (.astore_n 1) 1 nx) (hp : isC2 a0 = false) (hi : 1 < yL y) (K : xj y G nx (a0 :: some (.ref x) :: r) st h k n) : xj y G pc (a0 :: b :: r) (.ref x :: st) h k n := by
  intro E p l e s m args below meth c H locs la C hH hS hl
  obtain ⟨hx, hb, -⟩ := id C
  obtain ⟨d, rfl⟩ := d
  exact lv_astore_n hx hb d rfl hl hi rfl (fun la2 hl2 => K E p l e s m args below meth c H locs la2 C hH hS (la_set1 (E := E) (i := 1) (ls := a0 :: b :: r) (w := .ref x) (fun j q => by (obtain rfl : j = 0 := by omega); exact hp) (by simp) hl2))
theorem x_iinc_1 {y : YI} {G : GT} {pc nx : Nat} {st : List Value} {h : HS} {k n : Nat} {a0 : Option Value} {r : List (Option Value)} {x : Int32} {ic : Int} (v : Int32) (d : Dc y pc (.iinc 1 ic) 3 nx) (hp : isC2 a0 = false) (hv : x + Int32.ofInt ic = v) (hi : 1 < yL y) (K : xj y G nx (a0 :: some (.int v) :: r) st h k n) : xj y G pc (a0 :: some (.int x) :: r) st h k n := by
  intro E p l e s m args below meth c H locs la C hH hS hl
  obtain ⟨hx, hb, -⟩ := id C
  obtain ⟨d, rfl⟩ := d
  obtain ⟨q, hq⟩ := List.getElem?_of_mem (lvl_mem (E := E) (a0 :: some (.int x) :: r) 0 1 (.int x) rfl)
  rw [Nat.zero_add] at hq
  exact lv_iinc hx hb d hl hq hv hi rfl (fun la2 hl2 => K E p l e s m args below meth c H locs la2 C hH hS (la_set1 (E := E) (i := 1) (ls := a0 :: some (.int x) :: r) (w := .int v) (fun j q => by (obtain rfl : j = 0 := by omega); exact hp) (by simp) hl2))
theorem x_iload_2 {y : YI} {G : GT} {pc nx : Nat} {st : List Value} {h : HS} {k n : Nat} {a0 a1 : Option Value} {r : List (Option Value)} {x : Int32} (d : Dc y pc (.iload_n 2) 1 nx) (K : xj y G nx (a0 :: a1 :: some (.int x) :: r) (.int x :: st) h k n) : xj y G pc (a0 :: a1 :: some (.int x) :: r) st h k n := by
  intro E p l e s m args below meth c H locs la C hH hS hl
  obtain ⟨hx, hb, -⟩ := id C
  obtain ⟨d, rfl⟩ := d
  exact lv_iload_n hx hb d rfl (la_get hl (i := 2) (v := .int x) rfl) (K E p l e s m args below meth c H locs la C hH hS hl)
theorem x_istore_2 {y : YI} {G : GT} {pc nx : Nat} {st : List Value} {h : HS} {k n : Nat} {a0 a1 : Option Value} {b : Option Value} {r : List (Option Value)} {x : Int32} (d : Dc y pc (.istore_n 2) 1 nx) (hp : isC2 a1 = false) (hi : 2 < yL y) (K : xj y G nx (a0 :: a1 :: some (.int x) :: r) st h k n) : xj y G pc (a0 :: a1 :: b :: r) (.int x :: st) h k n := by
  intro E p l e s m args below meth c H locs la C hH hS hl
  obtain ⟨hx, hb, -⟩ := id C
  obtain ⟨d, rfl⟩ := d
  exact lv_istore_n hx hb d rfl hl hi rfl (fun la2 hl2 => K E p l e s m args below meth c H locs la2 C hH hS (la_set1 (E := E) (i := 2) (ls := a0 :: a1 :: b :: r) (w := .int x) (fun j q => by (obtain rfl : j = 1 := by omega); exact hp) (by simp) hl2))
theorem x_lload_2 {y : YI} {G : GT} {pc nx : Nat} {st : List Value} {h : HS} {k n : Nat} {a0 a1 : Option Value} {r : List (Option Value)} {x : Int64} (d : Dc y pc (.lload_n 2) 1 nx) (K : xj y G nx (a0 :: a1 :: some (.long x) :: r) (.long x :: st) h k n) : xj y G pc (a0 :: a1 :: some (.long x) :: r) st h k n := by
  intro E p l e s m args below meth c H locs la C hH hS hl
  obtain ⟨hx, hb, -⟩ := id C
  obtain ⟨d, rfl⟩ := d
  exact lv_lload_n hx hb d rfl (la_get hl (i := 2) (v := .long x) rfl) (K E p l e s m args below meth c H locs la C hH hS hl)
theorem x_lstore_2 {y : YI} {G : GT} {pc nx : Nat} {st : List Value} {h : HS} {k n : Nat} {a0 a1 : Option Value} {b b1 : Option Value} {r : List (Option Value)} {x : Int64} (d : Dc y pc (.lstore_n 2) 1 nx) (hp : isC2 a1 = false) (hi : 2 + 1 < yL y) (K : xj y G nx (a0 :: a1 :: some (.long x) :: none :: r) st h k n) : xj y G pc (a0 :: a1 :: b :: b1 :: r) (.long x :: st) h k n := by
  intro E p l e s m args below meth c H locs la C hH hS hl
  obtain ⟨hx, hb, -⟩ := id C
  obtain ⟨d, rfl⟩ := d
  exact lv_lstore_n hx hb d rfl hl hi rfl (fun la2 hl2 => K E p l e s m args below meth c H locs la2 C hH hS (la_set2 (E := E) (i := 2) (ls := a0 :: a1 :: b :: b1 :: r) (w := .long x) (fun j q => by (obtain rfl : j = 1 := by omega); exact hp) (by simp) hl2))
theorem x_aload_2 {y : YI} {G : GT} {pc nx : Nat} {st : List Value} {h : HS} {k n : Nat} {a0 a1 : Option Value} {r : List (Option Value)} {x : Nat} (d : Dc y pc (.aload_n 2) 1 nx) (K : xj y G nx (a0 :: a1 :: some (.ref x) :: r) (.ref x :: st) h k n) : xj y G pc (a0 :: a1 :: some (.ref x) :: r) st h k n := by
  intro E p l e s m args below meth c H locs la C hH hS hl
  obtain ⟨hx, hb, -⟩ := id C
  obtain ⟨d, rfl⟩ := d
  exact lv_aload_n hx hb d rfl (la_get hl (i := 2) (v := .ref x) rfl) (K E p l e s m args below meth c H locs la C hH hS hl)
theorem x_astore_2 {y : YI} {G : GT} {pc nx : Nat} {st : List Value} {h : HS} {k n : Nat} {a0 a1 : Option Value} {b : Option Value} {r : List (Option Value)} {x : Nat} (d : Dc y pc (.astore_n 2) 1 nx) (hp : isC2 a1 = false) (hi : 2 < yL y) (K : xj y G nx (a0 :: a1 :: some (.ref x) :: r) st h k n) : xj y G pc (a0 :: a1 :: b :: r) (.ref x :: st) h k n := by
  intro E p l e s m args below meth c H locs la C hH hS hl
  obtain ⟨hx, hb, -⟩ := id C
  obtain ⟨d, rfl⟩ := d
  exact lv_astore_n hx hb d rfl hl hi rfl (fun la2 hl2 => K E p l e s m args below meth c H locs la2 C hH hS (la_set1 (E := E) (i := 2) (ls := a0 :: a1 :: b :: r) (w := .ref x) (fun j q => by (obtain rfl : j = 1 := by omega); exact hp) (by simp) hl2))
theorem x_iinc_2 {y : YI} {G : GT} {pc nx : Nat} {st : List Value} {h : HS} {k n : Nat} {a0 a1 : Option Value} {r : List (Option Value)} {x : Int32} {ic : Int} (v : Int32) (d : Dc y pc (.iinc 2 ic) 3 nx) (hp : isC2 a1 = false) (hv : x + Int32.ofInt ic = v) (hi : 2 < yL y) (K : xj y G nx (a0 :: a1 :: some (.int v) :: r) st h k n) : xj y G pc (a0 :: a1 :: some (.int x) :: r) st h k n := by
  intro E p l e s m args below meth c H locs la C hH hS hl
  obtain ⟨hx, hb, -⟩ := id C
  obtain ⟨d, rfl⟩ := d
  obtain ⟨q, hq⟩ := List.getElem?_of_mem (lvl_mem (E := E) (a0 :: a1 :: some (.int x) :: r) 0 2 (.int x) rfl)
  rw [Nat.zero_add] at hq
  exact lv_iinc hx hb d hl hq hv hi rfl (fun la2 hl2 => K E p l e s m args below meth c H locs la2 C hH hS (la_set1 (E := E) (i := 2) (ls := a0 :: a1 :: some (.int x) :: r) (w := .int v) (fun j q => by (obtain rfl : j = 1 := by omega); exact hp) (by simp) hl2))
theorem x_iload_3 {y : YI} {G : GT} {pc nx : Nat} {st : List Value} {h : HS} {k n : Nat} {a0 a1 a2 : Option Value} {r : List (Option Value)} {x : Int32} (d : Dc y pc (.iload_n 3) 1 nx) (K : xj y G nx (a0 :: a1 :: a2 :: some (.int x) :: r) (.int x :: st) h k n) : xj y G pc (a0 :: a1 :: a2 :: some (.int x) :: r) st h k n := by
  intro E p l e s m args below meth c H locs la C hH hS hl
  obtain ⟨hx, hb, -⟩ := id C
  obtain ⟨d, rfl⟩ := d
  exact lv_iload_n hx hb d rfl (la_get hl (i := 3) (v := .int x) rfl) (K E p l e s m args below meth c H locs la C hH hS hl)
theorem x_istore_3 {y : YI} {G : GT} {pc nx : Nat} {st : List Value} {h : HS} {k n : Nat} {a0 a1 a2 : Option Value} {b : Option Value} {r : List (Option Value)} {x : Int32} (d : Dc y pc (.istore_n 3) 1 nx) (hp : isC2 a2 = false) (hi : 3 < yL y) (K : xj y G nx (a0 :: a1 :: a2 :: some (.int x) :: r) st h k n) : xj y G pc (a0 :: a1 :: a2 :: b :: r) (.int x :: st) h k n := by
  intro E p l e s m args below meth c H locs la C hH hS hl
  obtain ⟨hx, hb, -⟩ := id C
  obtain ⟨d, rfl⟩ := d
  exact lv_istore_n hx hb d rfl hl hi rfl (fun la2 hl2 => K E p l e s m args below meth c H locs la2 C hH hS (la_set1 (E := E) (i := 3) (ls := a0 :: a1 :: a2 :: b :: r) (w := .int x) (fun j q => by (obtain rfl : j = 2 := by omega); exact hp) (by simp) hl2))
theorem x_lload_3 {y : YI} {G : GT} {pc nx : Nat} {st : List Value} {h : HS} {k n : Nat} {a0 a1 a2 : Option Value} {r : List (Option Value)} {x : Int64} (d : Dc y pc (.lload_n 3) 1 nx) (K : xj y G nx (a0 :: a1 :: a2 :: some (.long x) :: r) (.long x :: st) h k n) : xj y G pc (a0 :: a1 :: a2 :: some (.long x) :: r) st h k n := by
  intro E p l e s m args below meth c H locs la C hH hS hl
  obtain ⟨hx, hb, -⟩ := id C
  obtain ⟨d, rfl⟩ := d
  exact lv_lload_n hx hb d rfl (la_get hl (i := 3) (v := .long x) rfl) (K E p l e s m args below meth c H locs la C hH hS hl)
theorem x_lstore_3 {y : YI} {G : GT} {pc nx : Nat} {st : List Value} {h : HS} {k n : Nat} {a0 a1 a2 : Option Value} {b b1 : Option Value} {r : List (Option Value)} {x : Int64} (d : Dc y pc (.lstore_n 3) 1 nx) (hp : isC2 a2 = false) (hi : 3 + 1 < yL y) (K : xj y G nx (a0 :: a1 :: a2 :: some (.long x) :: none :: r) st h k n) : xj y G pc (a0 :: a1 :: a2 :: b :: b1 :: r) (.long x :: st) h k n := by
  intro E p l e s m args below meth c H locs la C hH hS hl
  obtain ⟨hx, hb, -⟩ := id C
  obtain ⟨d, rfl⟩ := d
  exact lv_lstore_n hx hb d rfl hl hi rfl (fun la2 hl2 => K E p l e s m args below meth c H locs la2 C hH hS (la_set2 (E := E) (i := 3) (ls := a0 :: a1 :: a2 :: b :: b1 :: r) (w := .long x) (fun j q => by (obtain rfl : j = 2 := by omega); exact hp) (by simp) hl2))
theorem x_aload_3 {y : YI} {G : GT} {pc nx : Nat} {st : List Value} {h : HS} {k n : Nat} {a0 a1 a2 : Option Value} {r : List (Option Value)} {x : Nat} (d : Dc y pc (.aload_n 3) 1 nx) (K : xj y G nx (a0 :: a1 :: a2 :: some (.ref x) :: r) (.ref x :: st) h k n) : xj y G pc (a0 :: a1 :: a2 :: some (.ref x) :: r) st h k n := by
  intro E p l e s m args below meth c H locs la C hH hS hl
  obtain ⟨hx, hb, -⟩ := id C
  obtain ⟨d, rfl⟩ := d
  exact lv_aload_n hx hb d rfl (la_get hl (i := 3) (v := .ref x) rfl) (K E p l e s m args below meth c H locs la C hH hS hl)
theorem x_astore_3 {y : YI} {G : GT} {pc nx : Nat} {st : List Value} {h : HS} {k n : Nat} {a0 a1 a2 : Option Value} {b : Option Value} {r : List (Option Value)} {x : Nat} (d : Dc y pc (.astore_n 3) 1 nx) (hp : isC2 a2 = false) (hi : 3 < yL y) (K : xj y G nx (a0 :: a1 :: a2 :: some (.ref x) :: r) st h k n) : xj y G pc (a0 :: a1 :: a2 :: b :: r) (.ref x :: st) h k n := by
  intro E p l e s m args below meth c H locs la C hH hS hl
  obtain ⟨hx, hb, -⟩ := id C
  obtain ⟨d, rfl⟩ := d
  exact lv_astore_n hx hb d rfl hl hi rfl (fun la2 hl2 => K E p l e s m args below meth c H locs la2 C hH hS (la_set1 (E := E) (i := 3) (ls := a0 :: a1 :: a2 :: b :: r) (w := .ref x) (fun j q => by (obtain rfl : j = 2 := by omega); exact hp) (by simp) hl2))
theorem x_iinc_3 {y : YI} {G : GT} {pc nx : Nat} {st : List Value} {h : HS} {k n : Nat} {a0 a1 a2 : Option Value} {r : List (Option Value)} {x : Int32} {ic : Int} (v : Int32) (d : Dc y pc (.iinc 3 ic) 3 nx) (hp : isC2 a2 = false) (hv : x + Int32.ofInt ic = v) (hi : 3 < yL y) (K : xj y G nx (a0 :: a1 :: a2 :: some (.int v) :: r) st h k n) : xj y G pc (a0 :: a1 :: a2 :: some (.int x) :: r) st h k n := by
  intro E p l e s m args below meth c H locs la C hH hS hl
  obtain ⟨hx, hb, -⟩ := id C
  obtain ⟨d, rfl⟩ := d
  obtain ⟨q, hq⟩ := List.getElem?_of_mem (lvl_mem (E := E) (a0 :: a1 :: a2 :: some (.int x) :: r) 0 3 (.int x) rfl)
  rw [Nat.zero_add] at hq
  exact lv_iinc hx hb d hl hq hv hi rfl (fun la2 hl2 => K E p l e s m args below meth c H locs la2 C hH hS (la_set1 (E := E) (i := 3) (ls := a0 :: a1 :: a2 :: some (.int x) :: r) (w := .int v) (fun j q => by (obtain rfl : j = 2 := by omega); exact hp) (by simp) hl2))
theorem x_iload_4 {y : YI} {G : GT} {pc nx : Nat} {st : List Value} {h : HS} {k n : Nat} {a0 a1 a2 a3 : Option Value} {r : List (Option Value)} {x : Int32} (d : Dc y pc (.iload 4) 2 nx) (K : xj y G nx (a0 :: a1 :: a2 :: a3 :: some (.int x) :: r) (.int x :: st) h k n) : xj y G pc (a0 :: a1 :: a2 :: a3 :: some (.int x) :: r) st h k n := by
  intro E p l e s m args below meth c H locs la C hH hS hl
  obtain ⟨hx, hb, -⟩ := id C
  obtain ⟨d, rfl⟩ := d
  exact lv_iload hx hb d (la_get hl (i := 4) (v := .int x) rfl) (K E p l e s m args below meth c H locs la C hH hS hl)
theorem x_istore_4 {y : YI} {G : GT} {pc nx : Nat} {st : List Value} {h : HS} {k n : Nat} {a0 a1 a2 a3 : Option Value} {b : Option Value} {r : List (Option Value)} {x : Int32} (d : Dc y pc (.istore 4) 2 nx) (hp : isC2 a3 = false) (hi : 4 < yL y) (K : xj y G nx (a0 :: a1 :: a2 :: a3 :: some (.int x) :: r) st h k n) : xj y G pc (a0 :: a1 :: a2 :: a3 :: b :: r) (.int x :: st) h k n := by
  intro E p l e s m args below meth c H locs la C hH hS hl
  obtain ⟨hx, hb, -⟩ := id C
  obtain ⟨d, rfl⟩ := d
  exact lv_istore hx hb d hl hi rfl (fun la2 hl2 => K E p l e s m args below meth c H locs la2 C hH hS (la_set1 (E := E) (i := 4) (ls := a0 :: a1 :: a2 :: a3 :: b :: r) (w := .int x) (fun j q => by (obtain rfl : j = 3 := by omega); exact hp) (by simp) hl2))
theorem x_lload_4 {y : YI} {G : GT} {pc nx : Nat} {st : List Value} {h : HS} {k n : Nat} {a0 a1 a2 a3 : Option Value} {r : List (Option Value)} {x : Int64} (d : Dc y pc (.lload 4) 2 nx) (K : xj y G nx (a0 :: a1 :: a2 :: a3 :: some (.long x) :: r) (.long x :: st) h k n) : xj y G pc (a0 :: a1 :: a2 :: a3 :: some (.long x) :: r) st h k n := by
  intro E p l e s m args below meth c H locs la C hH hS hl
  obtain ⟨hx, hb, -⟩ := id C
  obtain ⟨d, rfl⟩ := d
  exact lv_lload hx hb d (la_get hl (i := 4) (v := .long x) rfl) (K E p l e s m args below meth c H locs la C hH hS hl)
theorem x_lstore_4 {y : YI} {G : GT} {pc nx : Nat} {st : List Value} {h : HS} {k n : Nat} {a0 a1 a2 a3 : Option Value} {b b1 : Option Value} {r : List (Option Value)} {x : Int64} (d : Dc y pc (.lstore 4) 2 nx) (hp : isC2 a3 = false) (hi : 4 + 1 < yL y) (K : xj y G nx (a0 :: a1 :: a2 :: a3 :: some (.long x) :: none :: r) st h k n) : xj y G pc (a0 :: a1 :: a2 :: a3 :: b :: b1 :: r) (.long x :: st) h k n := by
  intro E p l e s m args below meth c H locs la C hH hS hl
  obtain ⟨hx, hb, -⟩ := id C
  obtain ⟨d, rfl⟩ := d
  exact lv_lstore hx hb d hl hi rfl (fun la2 hl2 => K E p l e s m args below meth c H locs la2 C hH hS (la_set2 (E := E) (i := 4) (ls := a0 :: a1 :: a2 :: a3 :: b :: b1 :: r) (w := .long x) (fun j q => by (obtain rfl : j = 3 := by omega); exact hp) (by simp) hl2))
theorem x_aload_4 {y : YI} {G : GT} {pc nx : Nat} {st : List Value} {h : HS} {k n : Nat} {a0 a1 a2 a3 : Option Value} {r : List (Option Value)} {x : Nat} (d : Dc y pc (.aload 4) 2 nx) (K : xj y G nx (a0 :: a1 :: a2 :: a3 :: some (.ref x) :: r) (.ref x :: st) h k n) : xj y G pc (a0 :: a1 :: a2 :: a3 :: some (.ref x) :: r) st h k n := by
  intro E p l e s m args below meth c H locs la C hH hS hl
  obtain ⟨hx, hb, -⟩ := id C
  obtain ⟨d, rfl⟩ := d
  exact lv_aload hx hb d (la_get hl (i := 4) (v := .ref x) rfl) (K E p l e s m args below meth c H locs la C hH hS hl)
theorem x_astore_4 {y : YI} {G : GT} {pc nx : Nat} {st : List Value} {h : HS} {k n : Nat} {a0 a1 a2 a3 : Option Value} {b : Option Value} {r : List (Option Value)} {x : Nat} (d : Dc y pc (.astore 4) 2 nx) (hp : isC2 a3 = false) (hi : 4 < yL y) (K : xj y G nx (a0 :: a1 :: a2 :: a3 :: some (.ref x) :: r) st h k n) : xj y G pc (a0 :: a1 :: a2 :: a3 :: b :: r) (.ref x :: st) h k n := by
  intro E p l e s m args below meth c H locs la C hH hS hl
  obtain ⟨hx, hb, -⟩ := id C
  obtain ⟨d, rfl⟩ := d
  exact lv_astore hx hb d hl hi rfl (fun la2 hl2 => K E p l e s m args below meth c H locs la2 C hH hS (la_set1 (E := E) (i := 4) (ls := a0 :: a1 :: a2 :: a3 :: b :: r) (w := .ref x) (fun j q => by (obtain rfl : j = 3 := by omega); exact hp) (by simp) hl2))
theorem x_iinc_4 {y : YI} {G : GT} {pc nx : Nat} {st : List Value} {h : HS} {k n : Nat} {a0 a1 a2 a3 : Option Value} {r : List (Option Value)} {x : Int32} {ic : Int} (v : Int32) (d : Dc y pc (.iinc 4 ic) 3 nx) (hp : isC2 a3 = false) (hv : x + Int32.ofInt ic = v) (hi : 4 < yL y) (K : xj y G nx (a0 :: a1 :: a2 :: a3 :: some (.int v) :: r) st h k n) : xj y G pc (a0 :: a1 :: a2 :: a3 :: some (.int x) :: r) st h k n := by
  intro E p l e s m args below meth c H locs la C hH hS hl
  obtain ⟨hx, hb, -⟩ := id C
  obtain ⟨d, rfl⟩ := d
  obtain ⟨q, hq⟩ := List.getElem?_of_mem (lvl_mem (E := E) (a0 :: a1 :: a2 :: a3 :: some (.int x) :: r) 0 4 (.int x) rfl)
  rw [Nat.zero_add] at hq
  exact lv_iinc hx hb d hl hq hv hi rfl (fun la2 hl2 => K E p l e s m args below meth c H locs la2 C hH hS (la_set1 (E := E) (i := 4) (ls := a0 :: a1 :: a2 :: a3 :: some (.int x) :: r) (w := .int v) (fun j q => by (obtain rfl : j = 3 := by omega); exact hp) (by simp) hl2))
theorem x_iload_5 {y : YI} {G : GT} {pc nx : Nat} {st : List Value} {h : HS} {k n : Nat} {a0 a1 a2 a3 a4 : Option Value} {r : List (Option Value)} {x : Int32} (d : Dc y pc (.iload 5) 2 nx) (K : xj y G nx (a0 :: a1 :: a2 :: a3 :: a4 :: some (.int x) :: r) (.int x :: st) h k n) : xj y G pc (a0 :: a1 :: a2 :: a3 :: a4 :: some (.int x) :: r) st h k n := by
  intro E p l e s m args below meth c H locs la C hH hS hl
  obtain ⟨hx, hb, -⟩ := id C
  obtain ⟨d, rfl⟩ := d
  exact lv_iload hx hb d (la_get hl (i := 5) (v := .int x) rfl) (K E p l e s m args below meth c H locs la C hH hS hl)
theorem x_istore_5 {y : YI} {G : GT} {pc nx : Nat} {st : List Value} {h : HS} {k n : Nat} {a0 a1 a2 a3 a4 : Option Value} {b : Option Value} {r : List (Option Value)} {x : Int32} (d : Dc y pc (.istore 5) 2 nx) (hp : isC2 a4 = false) (hi : 5 < yL y) (K : xj y G nx (a0 :: a1 :: a2 :: a3 :: a4 :: some (.int x) :: r) st h k n) : xj y G pc (a0 :: a1 :: a2 :: a3 :: a4 :: b :: r) (.int x :: st) h k n := by
  intro E p l e s m args below meth c H locs la C hH hS hl
  obtain ⟨hx, hb, -⟩ := id C
  obtain ⟨d, rfl⟩ := d
  exact lv_istore hx hb d hl hi rfl (fun la2 hl2 => K E p l e s m args below meth c H locs la2 C hH hS (la_set1 (E := E) (i := 5) (ls := a0 :: a1 :: a2 :: a3 :: a4 :: b :: r) (w := .int x) (fun j q => by (obtain rfl : j = 4 := by omega); exact hp) (by simp) hl2))
theorem x_lload_5 {y : YI} {G : GT} {pc nx : Nat} {st : List Value} {h : HS} {k n : Nat} {a0 a1 a2 a3 a4 : Option Value} {r : List (Option Value)} {x : Int64} (d : Dc y pc (.lload 5) 2 nx) (K : xj y G nx (a0 :: a1 :: a2 :: a3 :: a4 :: some (.long x) :: r) (.long x :: st) h k n) : xj y G pc (a0 :: a1 :: a2 :: a3 :: a4 :: some (.long x) :: r) st h k n := by
  intro E p l e s m args below meth c H locs la C hH hS hl
  obtain ⟨hx, hb, -⟩ := id C
  obtain ⟨d, rfl⟩ := d
  exact lv_lload hx hb d (la_get hl (i := 5) (v := .long x) rfl) (K E p l e s m args below meth c H locs la C hH hS hl)
theorem x_lstore_5 {y : YI} {G : GT} {pc nx : Nat} {st : List Value} {h : HS} {k n : Nat} {a0 a1 a2 a3 a4 : Option Value} {b b1 : Option Value} {r : List (Option Value)} {x : Int64} (d : Dc y pc (.lstore 5) 2 nx) (hp : isC2 a4 = false) (hi : 5 + 1 < yL y) (K : xj y G nx (a0 :: a1 :: a2 :: a3 :: a4 :: some (.long x) :: none :: r) st h k n) : xj y G pc (a0 :: a1 :: a2 :: a3 :: a4 :: b :: b1 :: r) (.long x :: st) h k n := by
  intro E p l e s m args below meth c H locs la C hH hS hl
  obtain ⟨hx, hb, -⟩ := id C
  obtain ⟨d, rfl⟩ := d
  exact lv_lstore hx hb d hl hi rfl (fun la2 hl2 => K E p l e s m args below meth c H locs la2 C hH hS (la_set2 (E := E) (i := 5) (ls := a0 :: a1 :: a2 :: a3 :: a4 :: b :: b1 :: r) (w := .long x) (fun j q => by (obtain rfl : j = 4 := by omega); exact hp) (by simp) hl2))
theorem x_aload_5 {y : YI} {G : GT} {pc nx : Nat} {st : List Value} {h : HS} {k n : Nat} {a0 a1 a2 a3 a4 : Option Value} {r : List (Option Value)} {x : Nat} (d : Dc y pc (.aload 5) 2 nx) (K : xj y G nx (a0 :: a1 :: a2 :: a3 :: a4 :: some (.ref x) :: r) (.ref x :: st) h k n) : xj y G pc (a0 :: a1 :: a2 :: a3 :: a4 :: some (.ref x) :: r) st h k n := by
  intro E p l e s m args below meth c H locs la C hH hS hl
  obtain ⟨hx, hb, -⟩ := id C
  obtain ⟨d, rfl⟩ := d
  exact lv_aload hx hb d (la_get hl (i := 5) (v := .ref x) rfl) (K E p l e s m args below meth c H locs la C hH hS hl)
theorem x_astore_5 {y : YI} {G : GT} {pc nx : Nat} {st : List Value} {h : HS} {k n : Nat} {a0 a1 a2 a3 a4 : Option Value} {b : Option Value} {r : List (Option Value)} {x : Nat} (d : Dc y pc (.astore 5) 2 nx) (hp : isC2 a4 = false) (hi : 5 < yL y) (K : xj y G nx (a0 :: a1 :: a2 :: a3 :: a4 :: some (.ref x) :: r) st h k n) : xj y G pc (a0 :: a1 :: a2 :: a3 :: a4 :: b :: r) (.ref x :: st) h k n := by
  intro E p l e s m args below meth c H locs la C hH hS hl
  obtain ⟨hx, hb, -⟩ := id C
  obtain ⟨d, rfl⟩ := d
  exact lv_astore hx hb d hl hi rfl (fun la2 hl2 => K E p l e s m args below meth c H locs la2 C hH hS (la_set1 (E := E) (i := 5) (ls := a0 :: a1 :: a2 :: a3 :: a4 :: b :: r) (w := .ref x) (fun j q => by (obtain rfl : j = 4 := by omega); exact hp) (by simp) hl2))
theorem x_iinc_5 {y : YI} {G : GT} {pc nx : Nat} {st : List Value} {h : HS} {k n : Nat} {a0 a1 a2 a3 a4 : Option Value} {r : List (Option Value)} {x : Int32} {ic : Int} (v : Int32) (d : Dc y pc (.iinc 5 ic) 3 nx) (hp : isC2 a4 = false) (hv : x + Int32.ofInt ic = v) (hi : 5 < yL y) (K : xj y G nx (a0 :: a1 :: a2 :: a3 :: a4 :: some (.int v) :: r) st h k n) : xj y G pc (a0 :: a1 :: a2 :: a3 :: a4 :: some (.int x) :: r) st h k n := by
  intro E p l e s m args below meth c H locs la C hH hS hl
  obtain ⟨hx, hb, -⟩ := id C
  obtain ⟨d, rfl⟩ := d
  obtain ⟨q, hq⟩ := List.getElem?_of_mem (lvl_mem (E := E) (a0 :: a1 :: a2 :: a3 :: a4 :: some (.int x) :: r) 0 5 (.int x) rfl)
  rw [Nat.zero_add] at hq
  exact lv_iinc hx hb d hl hq hv hi rfl (fun la2 hl2 => K E p l e s m args below meth c H locs la2 C hH hS (la_set1 (E := E) (i := 5) (ls := a0 :: a1 :: a2 :: a3 :: a4 :: some (.int x) :: r) (w := .int v) (fun j q => by (obtain rfl : j = 4 := by omega); exact hp) (by simp) hl2))
theorem x_iload_6 {y : YI} {G : GT} {pc nx : Nat} {st : List Value} {h : HS} {k n : Nat} {a0 a1 a2 a3 a4 a5 : Option Value} {r : List (Option Value)} {x : Int32} (d : Dc y pc (.iload 6) 2 nx) (K : xj y G nx (a0 :: a1 :: a2 :: a3 :: a4 :: a5 :: some (.int x) :: r) (.int x :: st) h k n) : xj y G pc (a0 :: a1 :: a2 :: a3 :: a4 :: a5 :: some (.int x) :: r) st h k n := by
  intro E p l e s m args below meth c H locs la C hH hS hl
  obtain ⟨hx, hb, -⟩ := id C
  obtain ⟨d, rfl⟩ := d
  exact lv_iload hx hb d (la_get hl (i := 6) (v := .int x) rfl) (K E p l e s m args below meth c H locs la C hH hS hl)
theorem x_istore_6 {y : YI} {G : GT} {pc nx : Nat} {st : List Value} {h : HS} {k n : Nat} {a0 a1 a2 a3 a4 a5 : Option Value} {b : Option Value} {r : List (Option Value)} {x : Int32} (d : Dc y pc (.istore 6) 2 nx) (hp : isC2 a5 = false) (hi : 6 < yL y) (K : xj y G nx (a0 :: a1 :: a2 :: a3 :: a4 :: a5 :: some (.int x) :: r) st h k n) : xj y G pc (a0 :: a1 :: a2 :: a3 :: a4 :: a5 :: b :: r) (.int x :: st) h k n := by
  intro E p l e s m args below meth c H locs la C hH hS hl
  obtain ⟨hx, hb, -⟩ := id C
  obtain ⟨d, rfl⟩ := d
  exact lv_istore hx hb d hl hi rfl (fun la2 hl2 => K E p l e s m args below meth c H locs la2 C hH hS (la_set1 (E := E) (i := 6) (ls := a0 :: a1 :: a2 :: a3 :: a4 :: a5 :: b :: r) (w := .int x) (fun j q => by (obtain rfl : j = 5 := by omega); exact hp) (by simp) hl2))
theorem x_aload_6 {y : YI} {G : GT} {pc nx : Nat} {st : List Value} {h : HS} {k n : Nat} {a0 a1 a2 a3 a4 a5 : Option Value} {r : List (Option Value)} {x : Nat} (d : Dc y pc (.aload 6) 2 nx) (K : xj y G nx (a0 :: a1 :: a2 :: a3 :: a4 :: a5 :: some (.ref x) :: r) (.ref x :: st) h k n) : xj y G pc (a0 :: a1 :: a2 :: a3 :: a4 :: a5 :: some (.ref x) :: r) st h k n := by
  intro E p l e s m args below meth c H locs la C hH hS hl
  obtain ⟨hx, hb, -⟩ := id C
  obtain ⟨d, rfl⟩ := d
  exact lv_aload hx hb d (la_get hl (i := 6) (v := .ref x) rfl) (K E p l e s m args below meth c H locs la C hH hS hl)
theorem x_astore_6 {y : YI} {G : GT} {pc nx : Nat} {st : List Value} {h : HS} {k n : Nat} {a0 a1 a2 a3 a4 a5 : Option Value} {b : Option Value} {r : List (Option Value)} {x : Nat} (d : Dc y pc (.astore 6) 2 nx) (hp : isC2 a5 = false) (hi : 6 < yL y) (K : xj y G nx (a0 :: a1 :: a2 :: a3 :: a4 :: a5 :: some (.ref x) :: r) st h k n) : xj y G pc (a0 :: a1 :: a2 :: a3 :: a4 :: a5 :: b :: r) (.ref x :: st) h k n := by
  intro E p l e s m args below meth c H locs la C hH hS hl
  obtain ⟨hx, hb, -⟩ := id C
  obtain ⟨d, rfl⟩ := d
  exact lv_astore hx hb d hl hi rfl (fun la2 hl2 => K E p l e s m args below meth c H locs la2 C hH hS (la_set1 (E := E) (i := 6) (ls := a0 :: a1 :: a2 :: a3 :: a4 :: a5 :: b :: r) (w := .ref x) (fun j q => by (obtain rfl : j = 5 := by omega); exact hp) (by simp) hl2))
theorem x_iinc_6 {y : YI} {G : GT} {pc nx : Nat} {st : List Value} {h : HS} {k n : Nat} {a0 a1 a2 a3 a4 a5 : Option Value} {r : List (Option Value)} {x : Int32} {ic : Int} (v : Int32) (d : Dc y pc (.iinc 6 ic) 3 nx) (hp : isC2 a5 = false) (hv : x + Int32.ofInt ic = v) (hi : 6 < yL y) (K : xj y G nx (a0 :: a1 :: a2 :: a3 :: a4 :: a5 :: some (.int v) :: r) st h k n) : xj y G pc (a0 :: a1 :: a2 :: a3 :: a4 :: a5 :: some (.int x) :: r) st h k n := by
  intro E p l e s m args below meth c H locs la C hH hS hl
  obtain ⟨hx, hb, -⟩ := id C
  obtain ⟨d, rfl⟩ := d
  obtain ⟨q, hq⟩ := List.getElem?_of_mem (lvl_mem (E := E) (a0 :: a1 :: a2 :: a3 :: a4 :: a5 :: some (.int x) :: r) 0 6 (.int x) rfl)
  rw [Nat.zero_add] at hq
  exact lv_iinc hx hb d hl hq hv hi rfl (fun la2 hl2 => K E p l e s m args below meth c H locs la2 C hH hS (la_set1 (E := E) (i := 6) (ls := a0 :: a1 :: a2 :: a3 :: a4 :: a5 :: some (.int x) :: r) (w := .int v) (fun j q => by (obtain rfl : j = 5 := by omega); exact hp) (by simp) hl2))
theorem x_iload_7 {y : YI} {G : GT} {pc nx : Nat} {st : List Value} {h : HS} {k n : Nat} {a0 a1 a2 a3 a4 a5 a6 : Option Value} {r : List (Option Value)} {x : Int32} (d : Dc y pc (.iload 7) 2 nx) (K : xj y G nx (a0 :: a1 :: a2 :: a3 :: a4 :: a5 :: a6 :: some (.int x) :: r) (.int x :: st) h k n) : xj y G pc (a0 :: a1 :: a2 :: a3 :: a4 :: a5 :: a6 :: some (.int x) :: r) st h k n := by
  intro E p l e s m args below meth c H locs la C hH hS hl
  obtain ⟨hx, hb, -⟩ := id C
  obtain ⟨d, rfl⟩ := d
  exact lv_iload hx hb d (la_get hl (i := 7) (v := .int x) rfl) (K E p l e s m args below meth c H locs la C hH hS hl)
theorem x_istore_7 {y : YI} {G : GT} {pc nx : Nat} {st : List Value} {h : HS} {k n : Nat} {a0 a1 a2 a3 a4 a5 a6 : Option Value} {b : Option Value} {r : List (Option Value)} {x : Int32} (d : Dc y pc (.istore 7) 2 nx) (hp : isC2 a6 = false) (hi : 7 < yL y) (K : xj y G nx (a0 :: a1 :: a2 :: a3 :: a4 :: a5 :: a6 :: some (.int x) :: r) st h k n) : xj y G pc (a0 :: a1 :: a2 :: a3 :: a4 :: a5 :: a6 :: b :: r) (.int x :: st) h k n := by
  intro E p l e s m args below meth c H locs la C hH hS hl
  obtain ⟨hx, hb, -⟩ := id C
  obtain ⟨d, rfl⟩ := d
  exact lv_istore hx hb d hl hi rfl (fun la2 hl2 => K E p l e s m args below meth c H locs la2 C hH hS (la_set1 (E := E) (i := 7) (ls := a0 :: a1 :: a2 :: a3 :: a4 :: a5 :: a6 :: b :: r) (w := .int x) (fun j q => by (obtain rfl : j = 6 := by omega); exact hp) (by simp) hl2))
theorem x_aload_7 {y : YI} {G : GT} {pc nx : Nat} {st : List Value} {h : HS} {k n : Nat} {a0 a1 a2 a3 a4 a5 a6 : Option Value} {r : List (Option Value)} {x : Nat} (d : Dc y pc (.aload 7) 2 nx) (K : xj y G nx (a0 :: a1 :: a2 :: a3 :: a4 :: a5 :: a6 :: some (.ref x) :: r) (.ref x :: st) h k n) : xj y G pc (a0 :: a1 :: a2 :: a3 :: a4 :: a5 :: a6 :: some (.ref x) :: r) st h k n := by
  intro E p l e s m args below meth c H locs la C hH hS hl
  obtain ⟨hx, hb, -⟩ := id C
  obtain ⟨d, rfl⟩ := d
  exact lv_aload hx hb d (la_get hl (i := 7) (v := .ref x) rfl) (K E p l e s m args below meth c H locs la C hH hS hl)
theorem x_astore_7 {y : YI} {G : GT} {pc nx : Nat} {st : List Value} {h : HS} {k n : Nat} {a0 a1 a2 a3 a4 a5 a6 : Option Value} {b : Option Value} {r : List (Option Value)} {x : Nat} (d : Dc y pc (.astore 7) 2 nx) (hp : isC2 a6 = false) (hi : 7 < yL y) (K : xj y G nx (a0 :: a1 :: a2 :: a3 :: a4 :: a5 :: a6 :: some (.ref x) :: r) st h k n) : xj y G pc (a0 :: a1 :: a2 :: a3 :: a4 :: a5 :: a6 :: b :: r) (.ref x :: st) h k n := by
  intro E p l e s m args below meth c H locs la C hH hS hl
  obtain ⟨hx, hb, -⟩ := id C
  obtain ⟨d, rfl⟩ := d
  exact lv_astore hx hb d hl hi rfl (fun la2 hl2 => K E p l e s m args below meth c H locs la2 C hH hS (la_set1 (E := E) (i := 7) (ls := a0 :: a1 :: a2 :: a3 :: a4 :: a5 :: a6 :: b :: r) (w := .ref x) (fun j q => by (obtain rfl : j = 6 := by omega); exact hp) (by simp) hl2))
theorem x_iinc_7 {y : YI} {G : GT} {pc nx : Nat} {st : List Value} {h : HS} {k n : Nat} {a0 a1 a2 a3 a4 a5 a6 : Option Value} {r : List (Option Value)} {x : Int32} {ic : Int} (v : Int32) (d : Dc y pc (.iinc 7 ic) 3 nx) (hp : isC2 a6 = false) (hv : x + Int32.ofInt ic = v) (hi : 7 < yL y) (K : xj y G nx (a0 :: a1 :: a2 :: a3 :: a4 :: a5 :: a6 :: some (.int v) :: r) st h k n) : xj y G pc (a0 :: a1 :: a2 :: a3 :: a4 :: a5 :: a6 :: some (.int x) :: r) st h k n := by
  intro E p l e s m args below meth c H locs la C hH hS hl
  obtain ⟨hx, hb, -⟩ := id C
  obtain ⟨d, rfl⟩ := d
  obtain ⟨q, hq⟩ := List.getElem?_of_mem (lvl_mem (E := E) (a0 :: a1 :: a2 :: a3 :: a4 :: a5 :: a6 :: some (.int x) :: r) 0 7 (.int x) rfl)
  rw [Nat.zero_add] at hq
  exact lv_iinc hx hb d hl hq hv hi rfl (fun la2 hl2 => K E p l e s m args below meth c H locs la2 C hH hS (la_set1 (E := E) (i := 7) (ls := a0 :: a1 :: a2 :: a3 :: a4 :: a5 :: a6 :: some (.int x) :: r) (w := .int v) (fun j q => by (obtain rfl : j = 6 := by omega); exact hp) (by simp) hl2))
theorem x_iload_8 {y : YI} {G : GT} {pc nx : Nat} {st : List Value} {h : HS} {k n : Nat} {a0 a1 a2 a3 a4 a5 a6 a7 : Option Value} {r : List (Option Value)} {x : Int32} (d : Dc y pc (.iload 8) 2 nx) (K : xj y G nx (a0 :: a1 :: a2 :: a3 :: a4 :: a5 :: a6 :: a7 :: some (.int x) :: r) (.int x :: st) h k n) : xj y G pc (a0 :: a1 :: a2 :: a3 :: a4 :: a5 :: a6 :: a7 :: some (.int x) :: r) st h k n := by
  intro E p l e s m args below meth c H locs la C hH hS hl
  obtain ⟨hx, hb, -⟩ := id C
  obtain ⟨d, rfl⟩ := d
  exact lv_iload hx hb d (la_get hl (i := 8) (v := .int x) rfl) (K E p l e s m args below meth c H locs la C hH hS hl)
theorem x_istore_8 {y : YI} {G : GT} {pc nx : Nat} {st : List Value} {h : HS} {k n : Nat} {a0 a1 a2 a3 a4 a5 a6 a7 : Option Value} {b : Option Value} {r : List (Option Value)} {x : Int32} (d : Dc y pc (.istore 8) 2 nx) (hp : isC2 a7 = false) (hi : 8 < yL y) (K : xj y G nx (a0 :: a1 :: a2 :: a3 :: a4 :: a5 :: a6 :: a7 :: some (.int x) :: r) st h k n) : xj y G pc (a0 :: a1 :: a2 :: a3 :: a4 :: a5 :: a6 :: a7 :: b :: r) (.int x :: st) h k n := by
  intro E p l e s m args below meth c H locs la C hH hS hl
  obtain ⟨hx, hb, -⟩ := id C
  obtain ⟨d, rfl⟩ := d
  exact lv_istore hx hb d hl hi rfl (fun la2 hl2 => K E p l e s m args below meth c H locs la2 C hH hS (la_set1 (E := E) (i := 8) (ls := a0 :: a1 :: a2 :: a3 :: a4 :: a5 :: a6 :: a7 :: b :: r) (w := .int x) (fun j q => by (obtain rfl : j = 7 := by omega); exact hp) (by simp) hl2))
theorem x_aload_8 {y : YI} {G : GT} {pc nx : Nat} {st : List Value} {h : HS} {k n : Nat} {a0 a1 a2 a3 a4 a5 a6 a7 : Option Value} {r : List (Option Value)} {x : Nat} (d : Dc y pc (.aload 8) 2 nx) (K : xj y G nx (a0 :: a1 :: a2 :: a3 :: a4 :: a5 :: a6 :: a7 :: some (.ref x) :: r) (.ref x :: st) h k n) : xj y G pc (a0 :: a1 :: a2 :: a3 :: a4 :: a5 :: a6 :: a7 :: some (.ref x) :: r) st h k n := by
  intro E p l e s m args below meth c H locs la C hH hS hl
  obtain ⟨hx, hb, -⟩ := id C
  obtain ⟨d, rfl⟩ := d
  exact lv_aload hx hb d (la_get hl (i := 8) (v := .ref x) rfl) (K E p l e s m args below meth c H locs la C hH hS hl)
theorem x_astore_8 {y : YI} {G : GT} {pc nx : Nat} {st : List Value} {h : HS} {k n : Nat} {a0 a1 a2 a3 a4 a5 a6 a7 : Option Value} {b : Option Value} {r : List (Option Value)} {x : Nat} (d : Dc y pc (.astore 8) 2 nx) (hp : isC2 a7 = false) (hi : 8 < yL y) (K : xj y G nx (a0 :: a1 :: a2 :: a3 :: a4 :: a5 :: a6 :: a7 :: some (.ref x) :: r) st h k n) : xj y G pc (a0 :: a1 :: a2 :: a3 :: a4 :: a5 :: a6 :: a7 :: b :: r) (.ref x :: st) h k n := by
  intro E p l e s m args below meth c H locs la C hH hS hl
  obtain ⟨hx, hb, -⟩ := id C
  obtain ⟨d, rfl⟩ := d
  exact lv_astore hx hb d hl hi rfl (fun la2 hl2 => K E p l e s m args below meth c H locs la2 C hH hS (la_set1 (E := E) (i := 8) (ls := a0 :: a1 :: a2 :: a3 :: a4 :: a5 :: a6 :: a7 :: b :: r) (w := .ref x) (fun j q => by (obtain rfl : j = 7 := by omega); exact hp) (by simp) hl2))
theorem x_iinc_8 {y : YI} {G : GT} {pc nx : Nat} {st : List Value} {h : HS} {k n : Nat} {a0 a1 a2 a3 a4 a5 a6 a7 : Option Value} {r : List (Option Value)} {x : Int32} {ic : Int} (v : Int32) (d : Dc y pc (.iinc 8 ic) 3 nx) (hp : isC2 a7 = false) (hv : x + Int32.ofInt ic = v) (hi : 8 < yL y) (K : xj y G nx (a0 :: a1 :: a2 :: a3 :: a4 :: a5 :: a6 :: a7 :: some (.int v) :: r) st h k n) : xj y G pc (a0 :: a1 :: a2 :: a3 :: a4 :: a5 :: a6 :: a7 :: some (.int x) :: r) st h k n := by
  intro E p l e s m args below meth c H locs la C hH hS hl
  obtain ⟨hx, hb, -⟩ := id C
  obtain ⟨d, rfl⟩ := d
  obtain ⟨q, hq⟩ := List.getElem?_of_mem (lvl_mem (E := E) (a0 :: a1 :: a2 :: a3 :: a4 :: a5 :: a6 :: a7 :: some (.int x) :: r) 0 8 (.int x) rfl)
  rw [Nat.zero_add] at hq
  exact lv_iinc hx hb d hl hq hv hi rfl (fun la2 hl2 => K E p l e s m args below meth c H locs la2 C hH hS (la_set1 (E := E) (i := 8) (ls := a0 :: a1 :: a2 :: a3 :: a4 :: a5 :: a6 :: a7 :: some (.int x) :: r) (w := .int v) (fun j q => by (obtain rfl : j = 7 := by omega); exact hp) (by simp) hl2))
theorem x_iload_9 {y : YI} {G : GT} {pc nx : Nat} {st : List Value} {h : HS} {k n : Nat} {a0 a1 a2 a3 a4 a5 a6 a7 a8 : Option Value} {r : List (Option Value)} {x : Int32} (d : Dc y pc (.iload 9) 2 nx) (K : xj y G nx (a0 :: a1 :: a2 :: a3 :: a4 :: a5 :: a6 :: a7 :: a8 :: some (.int x) :: r) (.int x :: st) h k n) : xj y G pc (a0 :: a1 :: a2 :: a3 :: a4 :: a5 :: a6 :: a7 :: a8 :: some (.int x) :: r) st h k n := by
  intro E p l e s m args below meth c H locs la C hH hS hl
  obtain ⟨hx, hb, -⟩ := id C
  obtain ⟨d, rfl⟩ := d
  exact lv_iload hx hb d (la_get hl (i := 9) (v := .int x) rfl) (K E p l e s m args below meth c H locs la C hH hS hl)
theorem x_istore_9 {y : YI} {G : GT} {pc nx : Nat} {st : List Value} {h : HS} {k n : Nat} {a0 a1 a2 a3 a4 a5 a6 a7 a8 : Option Value} {b : Option Value} {r : List (Option Value)} {x : Int32} (d : Dc y pc (.istore 9) 2 nx) (hp : isC2 a8 = false) (hi : 9 < yL y) (K : xj y G nx (a0 :: a1 :: a2 :: a3 :: a4 :: a5 :: a6 :: a7 :: a8 :: some (.int x) :: r) st h k n) : xj y G pc (a0 :: a1 :: a2 :: a3 :: a4 :: a5 :: a6 :: a7 :: a8 :: b :: r) (.int x :: st) h k n := by
  intro E p l e s m args below meth c H locs la C hH hS hl
  obtain ⟨hx, hb, -⟩ := id C
  obtain ⟨d, rfl⟩ := d
  exact lv_istore hx hb d hl hi rfl (fun la2 hl2 => K E p l e s m args below meth c H locs la2 C hH hS (la_set1 (E := E) (i := 9) (ls := a0 :: a1 :: a2 :: a3 :: a4 :: a5 :: a6 :: a7 :: a8 :: b :: r) (w := .int x) (fun j q => by (obtain rfl : j = 8 := by omega); exact hp) (by simp) hl2))
theorem x_aload_9 {y : YI} {G : GT} {pc nx : Nat} {st : List Value} {h : HS} {k n : Nat} {a0 a1 a2 a3 a4 a5 a6 a7 a8 : Option Value} {r : List (Option Value)} {x : Nat} (d : Dc y pc (.aload 9) 2 nx) (K : xj y G nx (a0 :: a1 :: a2 :: a3 :: a4 :: a5 :: a6 :: a7 :: a8 :: some (.ref x) :: r) (.ref x :: st) h k n) : xj y G pc (a0 :: a1 :: a2 :: a3 :: a4 :: a5 :: a6 :: a7 :: a8 :: some (.ref x) :: r) st h k n := by
  intro E p l e s m args below meth c H locs la C hH hS hl
  obtain ⟨hx, hb, -⟩ := id C
  obtain ⟨d, rfl⟩ := d
  exact lv_aload hx hb d (la_get hl (i := 9) (v := .ref x) rfl) (K E p l e s m args below meth c H locs la C hH hS hl)
theorem x_astore_9 {y : YI} {G : GT} {pc nx : Nat} {st : List Value} {h : HS} {k n : Nat} {a0 a1 a2 a3 a4 a5 a6 a7 a8 : Option Value} {b : Option Value} {r : List (Option Value)} {x : Nat} (d : Dc y pc (.astore 9) 2 nx) (hp : isC2 a8 = false) (hi : 9 < yL y) (K : xj y G nx (a0 :: a1 :: a2 :: a3 :: a4 :: a5 :: a6 :: a7 :: a8 :: some (.ref x) :: r) st h k n) : xj y G pc (a0 :: a1 :: a2 :: a3 :: a4 :: a5 :: a6 :: a7 :: a8 :: b :: r) (.ref x :: st) h k n := by
  intro E p l e s m args below meth c H locs la C hH hS hl
  obtain ⟨hx, hb, -⟩ := id C
  obtain ⟨d, rfl⟩ := d
  exact lv_astore hx hb d hl hi rfl (fun la2 hl2 => K E p l e s m args below meth c H locs la2 C hH hS (la_set1 (E := E) (i := 9) (ls := a0 :: a1 :: a2 :: a3 :: a4 :: a5 :: a6 :: a7 :: a8 :: b :: r) (w := .ref x) (fun j q => by (obtain rfl : j = 8 := by omega); exact hp) (by simp) hl2))
theorem x_iinc_9 {y : YI} {G : GT} {pc nx : Nat} {st : List Value} {h : HS} {k n : Nat} {a0 a1 a2 a3 a4 a5 a6 a7 a8 : Option Value} {r : List (Option Value)} {x : Int32} {ic : Int} (v : Int32) (d : Dc y pc (.iinc 9 ic) 3 nx) (hp : isC2 a8 = false) (hv : x + Int32.ofInt ic = v) (hi : 9 < yL y) (K : xj y G nx (a0 :: a1 :: a2 :: a3 :: a4 :: a5 :: a6 :: a7 :: a8 :: some (.int v) :: r) st h k n) : xj y G pc (a0 :: a1 :: a2 :: a3 :: a4 :: a5 :: a6 :: a7 :: a8 :: some (.int x) :: r) st h k n := by
  intro E p l e s m args below meth c H locs la C hH hS hl
  obtain ⟨hx, hb, -⟩ := id C
  obtain ⟨d, rfl⟩ := d
  obtain ⟨q, hq⟩ := List.getElem?_of_mem (lvl_mem (E := E) (a0 :: a1 :: a2 :: a3 :: a4 :: a5 :: a6 :: a7 :: a8 :: some (.int x) :: r) 0 9 (.int x) rfl)
  rw [Nat.zero_add] at hq
  exact lv_iinc hx hb d hl hq hv hi rfl (fun la2 hl2 => K E p l e s m args below meth c H locs la2 C hH hS (la_set1 (E := E) (i := 9) (ls := a0 :: a1 :: a2 :: a3 :: a4 :: a5 :: a6 :: a7 :: a8 :: some (.int x) :: r) (w := .int v) (fun j q => by (obtain rfl : j = 8 := by omega); exact hp) (by simp) hl2))
theorem x_iload_10 {y : YI} {G : GT} {pc nx : Nat} {st : List Value} {h : HS} {k n : Nat} {a0 a1 a2 a3 a4 a5 a6 a7 a8 a9 : Option Value} {r : List (Option Value)} {x : Int32} (d : Dc y pc (.iload 10) 2 nx) (K : xj y G nx (a0 :: a1 :: a2 :: a3 :: a4 :: a5 :: a6 :: a7 :: a8 :: a9 :: some (.int x) :: r) (.int x :: st) h k n) : xj y G pc (a0 :: a1 :: a2 :: a3 :: a4 :: a5 :: a6 :: a7 :: a8 :: a9 :: some (.int x) :: r) st h k n := by
  intro E p l e s m args below meth c H locs la C hH hS hl
  obtain ⟨hx, hb, -⟩ := id C
  obtain ⟨d, rfl⟩ := d
  exact lv_iload hx hb d (la_get hl (i := 10) (v := .int x) rfl) (K E p l e s m args below meth c H locs la C hH hS hl)
theorem x_istore_10 {y : YI} {G : GT} {pc nx : Nat} {st : List Value} {h : HS} {k n : Nat} {a0 a1 a2 a3 a4 a5 a6 a7 a8 a9 : Option Value} {b : Option Value} {r : List (Option Value)} {x : Int32} (d : Dc y pc (.istore 10) 2 nx) (hp : isC2 a9 = false) (hi : 10 < yL y) (K : xj y G nx (a0 :: a1 :: a2 :: a3 :: a4 :: a5 :: a6 :: a7 :: a8 :: a9 :: some (.int x) :: r) st h k n) : xj y G pc (a0 :: a1 :: a2 :: a3 :: a4 :: a5 :: a6 :: a7 :: a8 :: a9 :: b :: r) (.int x :: st) h k n := by
  intro E p l e s m args below meth c H locs la C hH hS hl
  obtain ⟨hx, hb, -⟩ := id C
  obtain ⟨d, rfl⟩ := d
  exact lv_istore hx hb d hl hi rfl (fun la2 hl2 => K E p l e s m args below meth c H locs la2 C hH hS (la_set1 (E := E) (i := 10) (ls := a0 :: a1 :: a2 :: a3 :: a4 :: a5 :: a6 :: a7 :: a8 :: a9 :: b :: r) (w := .int x) (fun j q => by (obtain rfl : j = 9 := by omega); exact hp) (by simp) hl2))
theorem x_aload_10 {y : YI} {G : GT} {pc nx : Nat} {st : List Value} {h : HS} {k n : Nat} {a0 a1 a2 a3 a4 a5 a6 a7 a8 a9 : Option Value} {r : List (Option Value)} {x : Nat} (d : Dc y pc (.aload 10) 2 nx) (K : xj y G nx (a0 :: a1 :: a2 :: a3 :: a4 :: a5 :: a6 :: a7 :: a8 :: a9 :: some (.ref x) :: r) (.ref x :: st) h k n) : xj y G pc (a0 :: a1 :: a2 :: a3 :: a4 :: a5 :: a6 :: a7 :: a8 :: a9 :: some (.ref x) :: r) st h k n := by
  intro E p l e s m args below meth c H locs la C hH hS hl
  obtain ⟨hx, hb, -⟩ := id C
  obtain ⟨d, rfl⟩ := d
  exact lv_aload hx hb d (la_get hl (i := 10) (v := .ref x) rfl) (K E p l e s m args below meth c H locs la C hH hS hl)
theorem x_astore_10 {y : YI} {G : GT} {pc nx : Nat} {st : List Value} {h : HS} {k n : Nat} {a0 a1 a2 a3 a4 a5 a6 a7 a8 a9 : Option Value} {b : Option Value} {r : List (Option Value)} {x : Nat} (d : Dc y pc (.astore 10) 2 nx) (hp : isC2 a9 = false) (hi : 10 < yL y) (K : xj y G nx (a0 :: a1 :: a2 :: a3 :: a4 :: a5 :: a6 :: a7 :: a8 :: a9 :: some (.ref x) :: r) st h k n) : xj y G pc (a0 :: a1 :: a2 :: a3 :: a4 :: a5 :: a6 :: a7 :: a8 :: a9 :: b :: r) (.ref x :: st) h k n := by
  intro E p l e s m args below meth c H locs la C hH hS hl
  obtain ⟨hx, hb, -⟩ := id C
  obtain ⟨d, rfl⟩ := d
  exact lv_astore hx hb d hl hi rfl (fun la2 hl2 => K E p l e s m args below meth c H locs la2 C hH hS (la_set1 (E := E) (i := 10) (ls := a0 :: a1 :: a2 :: a3 :: a4 :: a5 :: a6 :: a7 :: a8 :: a9 :: b :: r) (w := .ref x) (fun j q => by (obtain rfl : j = 9 := by omega); exact hp) (by simp) hl2))
theorem x_iinc_10 {y : YI} {G : GT} {pc nx : Nat} {st : List Value} {h : HS} {k n : Nat} {a0 a1 a2 a3 a4 a5 a6 a7 a8 a9 : Option Value} {r : List (Option Value)} {x : Int32} {ic : Int} (v : Int32) (d : Dc y pc (.iinc 10 ic) 3 nx) (hp : isC2 a9 = false) (hv : x + Int32.ofInt ic = v) (hi : 10 < yL y) (K : xj y G nx (a0 :: a1 :: a2 :: a3 :: a4 :: a5 :: a6 :: a7 :: a8 :: a9 :: some (.int v) :: r) st h k n) : xj y G pc (a0 :: a1 :: a2 :: a3 :: a4 :: a5 :: a6 :: a7 :: a8 :: a9 :: some (.int x) :: r) st h k n := by
  intro E p l e s m args below meth c H locs la C hH hS hl
  obtain ⟨hx, hb, -⟩ := id C
  obtain ⟨d, rfl⟩ := d
  obtain ⟨q, hq⟩ := List.getElem?_of_mem (lvl_mem (E := E) (a0 :: a1 :: a2 :: a3 :: a4 :: a5 :: a6 :: a7 :: a8 :: a9 :: some (.int x) :: r) 0 10 (.int x) rfl)
  rw [Nat.zero_add] at hq
  exact lv_iinc hx hb d hl hq hv hi rfl (fun la2 hl2 => K E p l e s m args below meth c H locs la2 C hH hS (la_set1 (E := E) (i := 10) (ls := a0 :: a1 :: a2 :: a3 :: a4 :: a5 :: a6 :: a7 :: a8 :: a9 :: some (.int x) :: r) (w := .int v) (fun j q => by (obtain rfl : j = 9 := by omega); exact hp) (by simp) hl2))
theorem x_iload_11 {y : YI} {G : GT} {pc nx : Nat} {st : List Value} {h : HS} {k n : Nat} {a0 a1 a2 a3 a4 a5 a6 a7 a8 a9 a10 : Option Value} {r : List (Option Value)} {x : Int32} (d : Dc y pc (.iload 11) 2 nx) (K : xj y G nx (a0 :: a1 :: a2 :: a3 :: a4 :: a5 :: a6 :: a7 :: a8 :: a9 :: a10 :: some (.int x) :: r) (.int x :: st) h k n) : xj y G pc (a0 :: a1 :: a2 :: a3 :: a4 :: a5 :: a6 :: a7 :: a8 :: a9 :: a10 :: some (.int x) :: r) st h k n := by
  intro E p l e s m args below meth c H locs la C hH hS hl
  obtain ⟨hx, hb, -⟩ := id C
  obtain ⟨d, rfl⟩ := d
  exact lv_iload hx hb d (la_get hl (i := 11) (v := .int x) rfl) (K E p l e s m args below meth c H locs la C hH hS hl)
theorem x_istore_11 {y : YI} {G : GT} {pc nx : Nat} {st : List Value} {h : HS} {k n : Nat} {a0 a1 a2 a3 a4 a5 a6 a7 a8 a9 a10 : Option Value} {b : Option Value} {r : List (Option Value)} {x : Int32} (d : Dc y pc (.istore 11) 2 nx) (hp : isC2 a10 = false) (hi : 11 < yL y) (K : xj y G nx (a0 :: a1 :: a2 :: a3 :: a4 :: a5 :: a6 :: a7 :: a8 :: a9 :: a10 :: some (.int x) :: r) st h k n) : xj y G pc (a0 :: a1 :: a2 :: a3 :: a4 :: a5 :: a6 :: a7 :: a8 :: a9 :: a10 :: b :: r) (.int x :: st) h k n := by
  intro E p l e s m args below meth c H locs la C hH hS hl
  obtain ⟨hx, hb, -⟩ := id C
  obtain ⟨d, rfl⟩ := d
  exact lv_istore hx hb d hl hi rfl (fun la2 hl2 => K E p l e s m args below meth c H locs la2 C hH hS (la_set1 (E := E) (i := 11) (ls := a0 :: a1 :: a2 :: a3 :: a4 :: a5 :: a6 :: a7 :: a8 :: a9 :: a10 :: b :: r) (w := .int x) (fun j q => by (obtain rfl : j = 10 := by omega); exact hp) (by simp) hl2))
theorem x_aload_11 {y : YI} {G : GT} {pc nx : Nat} {st : List Value} {h : HS} {k n : Nat} {a0 a1 a2 a3 a4 a5 a6 a7 a8 a9 a10 : Option Value} {r : List (Option Value)} {x : Nat} (d : Dc y pc (.aload 11) 2 nx) (K : xj y G nx (a0 :: a1 :: a2 :: a3 :: a4 :: a5 :: a6 :: a7 :: a8 :: a9 :: a10 :: some (.ref x) :: r) (.ref x :: st) h k n) : xj y G pc (a0 :: a1 :: a2 :: a3 :: a4 :: a5 :: a6 :: a7 :: a8 :: a9 :: a10 :: some (.ref x) :: r) st h k n := by
  intro E p l e s m args below meth c H locs la C hH hS hl
  obtain ⟨hx, hb, -⟩ := id C
  obtain ⟨d, rfl⟩ := d
  exact lv_aload hx hb d (la_get hl (i := 11) (v := .ref x) rfl) (K E p l e s m args below meth c H locs la C hH hS hl)
theorem x_astore_11 {y : YI} {G : GT} {pc nx : Nat} {st : List Value} {h : HS} {k n : Nat} {a0 a1 a2 a3 a4 a5 a6 a7 a8 a9 a10 : Option Value} {b : Option Value} {r : List (Option Value)} {x : Nat} (d : Dc y pc (.astore 11) 2 nx) (hp : isC2 a10 = false) (hi : 11 < yL y) (K : xj y G nx (a0 :: a1 :: a2 :: a3 :: a4 :: a5 :: a6 :: a7 :: a8 :: a9 :: a10 :: some (.ref x) :: r) st h k n) : xj y G pc (a0 :: a1 :: a2 :: a3 :: a4 :: a5 :: a6 :: a7 :: a8 :: a9 :: a10 :: b :: r) (.ref x :: st) h k n := by
  intro E p l e s m args below meth c H locs la C hH hS hl
  obtain ⟨hx, hb, -⟩ := id C
  obtain ⟨d, rfl⟩ := d
  exact lv_astore hx hb d hl hi rfl (fun la2 hl2 => K E p l e s m args below meth c H locs la2 C hH hS (la_set1 (E := E) (i := 11) (ls := a0 :: a1 :: a2 :: a3 :: a4 :: a5 :: a6 :: a7 :: a8 :: a9 :: a10 :: b :: r) (w := .ref x) (fun j q => by (obtain rfl : j = 10 := by omega); exact hp) (by simp) hl2))
theorem x_iinc_11 {y : YI} {G : GT} {pc nx : Nat} {st : List Value} {h : HS} {k n : Nat} {a0 a1 a2 a3 a4 a5 a6 a7 a8 a9 a10 : Option Value} {r : List (Option Value)} {x : Int32} {ic : Int} (v : Int32) (d : Dc y pc (.iinc 11 ic) 3 nx) (hp : isC2 a10 = false) (hv : x + Int32.ofInt ic = v) (hi : 11 < yL y) (K : xj y G nx (a0 :: a1 :: a2 :: a3 :: a4 :: a5 :: a6 :: a7 :: a8 :: a9 :: a10 :: some (.int v) :: r) st h k n) : xj y G pc (a0 :: a1 :: a2 :: a3 :: a4 :: a5 :: a6 :: a7 :: a8 :: a9 :: a10 :: some (.int x) :: r) st h k n := by
  intro E p l e s m args below meth c H locs la C hH hS hl
  obtain ⟨hx, hb, -⟩ := id C
  obtain ⟨d, rfl⟩ := d
  obtain ⟨q, hq⟩ := List.getElem?_of_mem (lvl_mem (E := E) (a0 :: a1 :: a2 :: a3 :: a4 :: a5 :: a6 :: a7 :: a8 :: a9 :: a10 :: some (.int x) :: r) 0 11 (.int x) rfl)
  rw [Nat.zero_add] at hq
  exact lv_iinc hx hb d hl hq hv hi rfl (fun la2 hl2 => K E p l e s m args below meth c H locs la2 C hH hS (la_set1 (E := E) (i := 11) (ls := a0 :: a1 :: a2 :: a3 :: a4 :: a5 :: a6 :: a7 :: a8 :: a9 :: a10 :: some (.int x) :: r) (w := .int v) (fun j q => by (obtain rfl : j = 10 := by omega); exact hp) (by simp) hl2))
theorem x_iload_12 {y : YI} {G : GT} {pc nx : Nat} {st : List Value} {h : HS} {k n : Nat} {a0 a1 a2 a3 a4 a5 a6 a7 a8 a9 a10 a11 : Option Value} {r : List (Option Value)} {x : Int32} (d : Dc y pc (.iload 12) 2 nx) (K : xj y G nx (a0 :: a1 :: a2 :: a3 :: a4 :: a5 :: a6 :: a7 :: a8 :: a9 :: a10 :: a11 :: some (.int x) :: r) (.int x :: st) h k n) : xj y G pc (a0 :: a1 :: a2 :: a3 :: a4 :: a5 :: a6 :: a7 :: a8 :: a9 :: a10 :: a11 :: some (.int x) :: r) st h k n := by
  intro E p l e s m args below meth c H locs la C hH hS hl
  obtain ⟨hx, hb, -⟩ := id C
  obtain ⟨d, rfl⟩ := d
  exact lv_iload hx hb d (la_get hl (i := 12) (v := .int x) rfl) (K E p l e s m args below meth c H locs la C hH hS hl)
theorem x_istore_12 {y : YI} {G : GT} {pc nx : Nat} {st : List Value} {h : HS} {k n : Nat} {a0 a1 a2 a3 a4 a5 a6 a7 a8 a9 a10 a11 : Option Value} {b : Option Value} {r : List (Option Value)} {x : Int32} (d : Dc y pc (.istore 12) 2 nx) (hp : isC2 a11 = false) (hi : 12 < yL y) (K : xj y G nx (a0 :: a1 :: a2 :: a3 :: a4 :: a5 :: a6 :: a7 :: a8 :: a9 :: a10 :: a11 :: some (.int x) :: r) st h k n) : xj y G pc (a0 :: a1 :: a2 :: a3 :: a4 :: a5 :: a6 :: a7 :: a8 :: a9 :: a10 :: a11 :: b :: r) (.int x :: st) h k n := by
  intro E p l e s m args below meth c H locs la C hH hS hl
  obtain ⟨hx, hb, -⟩ := id C
  obtain ⟨d, rfl⟩ := d
  exact lv_istore hx hb d hl hi rfl (fun la2 hl2 => K E p l e s m args below meth c H locs la2 C hH hS (la_set1 (E := E) (i := 12) (ls := a0 :: a1 :: a2 :: a3 :: a4 :: a5 :: a6 :: a7 :: a8 :: a9 :: a10 :: a11 :: b :: r) (w := .int x) (fun j q => by (obtain rfl : j = 11 := by omega); exact hp) (by simp) hl2))
theorem x_aload_12 {y : YI} {G : GT} {pc nx : Nat} {st : List Value} {h : HS} {k n : Nat} {a0 a1 a2 a3 a4 a5 a6 a7 a8 a9 a10 a11 : Option Value} {r : List (Option Value)} {x : Nat} (d : Dc y pc (.aload 12) 2 nx) (K : xj y G nx (a0 :: a1 :: a2 :: a3 :: a4 :: a5 :: a6 :: a7 :: a8 :: a9 :: a10 :: a11 :: some (.ref x) :: r) (.ref x :: st) h k n) : xj y G pc (a0 :: a1 :: a2 :: a3 :: a4 :: a5 :: a6 :: a7 :: a8 :: a9 :: a10 :: a11 :: some (.ref x) :: r) st h k n := by
  intro E p l e s m args below meth c H locs la C hH hS hl
  obtain ⟨hx, hb, -⟩ := id C
  obtain ⟨d, rfl⟩ := d
  exact lv_aload hx hb d (la_get hl (i := 12) (v := .ref x) rfl) (K E p l e s m args below meth c H locs la C hH hS hl)
theorem x_astore_12 {y : YI} {G : GT} {pc nx : Nat} {st : List Value} {h : HS} {k n : Nat} {a0 a1 a2 a3 a4 a5 a6 a7 a8 a9 a10 a11 : Option Value} {b : Option Value} {r : List (Option Value)} {x : Nat} (d : Dc y pc (.astore 12) 2 nx) (hp : isC2 a11 = false) (hi : 12 < yL y) (K : xj y G nx (a0 :: a1 :: a2 :: a3 :: a4 :: a5 :: a6 :: a7 :: a8 :: a9 :: a10 :: a11 :: some (.ref x) :: r) st h k n) : xj y G pc (a0 :: a1 :: a2 :: a3 :: a4 :: a5 :: a6 :: a7 :: a8 :: a9 :: a10 :: a11 :: b :: r) (.ref x :: st) h k n := by
  intro E p l e s m args below meth c H locs la C hH hS hl
  obtain ⟨hx, hb, -⟩ := id C
  obtain ⟨d, rfl⟩ := d
  exact lv_astore hx hb d hl hi rfl (fun la2 hl2 => K E p l e s m args below meth c H locs la2 C hH hS (la_set1 (E := E) (i := 12) (ls := a0 :: a1 :: a2 :: a3 :: a4 :: a5 :: a6 :: a7 :: a8 :: a9 :: a10 :: a11 :: b :: r) (w := .ref x) (fun j q => by (obtain rfl : j = 11 := by omega); exact hp) (by simp) hl2))
theorem x_iinc_12 {y : YI} {G : GT} {pc nx : Nat} {st : List Value} {h : HS} {k n : Nat} {a0 a1 a2 a3 a4 a5 a6 a7 a8 a9 a10 a11 : Option Value} {r : List (Option Value)} {x : Int32} {ic : Int} (v : Int32) (d : Dc y pc (.iinc 12 ic) 3 nx) (hp : isC2 a11 = false) (hv : x + Int32.ofInt ic = v) (hi : 12 < yL y) (K : xj y G nx (a0 :: a1 :: a2 :: a3 :: a4 :: a5 :: a6 :: a7 :: a8 :: a9 :: a10 :: a11 :: some (.int v) :: r) st h k n) : xj y G pc (a0 :: a1 :: a2 :: a3 :: a4 :: a5 :: a6 :: a7 :: a8 :: a9 :: a10 :: a11 :: some (.int x) :: r) st h k n := by
  intro E p l e s m args below meth c H locs la C hH hS hl
  obtain ⟨hx, hb, -⟩ := id C
  obtain ⟨d, rfl⟩ := d
  obtain ⟨q, hq⟩ := List.getElem?_of_mem (lvl_mem (E := E) (a0 :: a1 :: a2 :: a3 :: a4 :: a5 :: a6 :: a7 :: a8 :: a9 :: a10 :: a11 :: some (.int x) :: r) 0 12 (.int x) rfl)
  rw [Nat.zero_add] at hq
  exact lv_iinc hx hb d hl hq hv hi rfl (fun la2 hl2 => K E p l e s m args below meth c H locs la2 C hH hS (la_set1 (E := E) (i := 12) (ls := a0 :: a1 :: a2 :: a3 :: a4 :: a5 :: a6 :: a7 :: a8 :: a9 :: a10 :: a11 :: some (.int x) :: r) (w := .int v) (fun j q => by (obtain rfl : j = 11 := by omega); exact hp) (by simp) hl2))
theorem x_weak {y : YI} {G : GT} {pc : Nat} {ls : List (Option Value)} {st : List Value} {h : HS} {k n : Nat} {ls' : List (Option Value)} (hw : ∀ (j : Nat) (v : Value), ls'[j]? = some (some v) → ls[j]? = some (some v)) (K : xj y G pc ls' st h k n) : xj y G pc ls st h k n := by
  intro E p l e s m args below meth c H locs la C hH hS hl
  refine K E p l e s m args below meth c H locs la C hH hS (lv_mono hl fun q hq => ?_)
  obtain ⟨j, v, rfl, hj⟩ := lvl_of _ _ _ hq
  exact lvl_mem _ 0 j v (hw j v hj)
theorem weak_nil : ∀ (j : Nat) (v : Value), ([] : List (Option Value))[j]? = some (some v) → ([] : List (Option Value))[j]? = some (some v) := fun _ _ h => h
theorem weak_keep {a : Option Value} {r r' : List (Option Value)} (h : ∀ (j : Nat) (v : Value), r'[j]? = some (some v) → r[j]? = some (some v)) : ∀ (j : Nat) (v : Value), (a :: r')[j]? = some (some v) → (a :: r)[j]? = some (some v) := fun j v q => by
  cases j with
  | zero => simpa using q
  | succ j => simp only [List.getElem?_cons_succ] at q ⊢; exact h j v q
theorem weak_drop {a : Option Value} {r r' : List (Option Value)} (h : ∀ (j : Nat) (v : Value), r'[j]? = some (some v) → r[j]? = some (some v)) : ∀ (j : Nat) (v : Value), (none :: r')[j]? = some (some v) → (a :: r)[j]? = some (some v) := fun j v q => by
  cases j with
  | zero => simp at q
  | succ j => simp only [List.getElem?_cons_succ] at q ⊢; exact h j v q
theorem x_none_0 {y : YI} {G : GT} {pc : Nat} {st : List Value} {h : HS} {k n : Nat} {b : Option Value} {r : List (Option Value)} (K : xj y G pc (none :: r) st h k n) : xj y G pc (b :: r) st h k n := x_weak (weak_drop (fun _ _ q => q)) K
theorem x_none_1 {y : YI} {G : GT} {pc : Nat} {st : List Value} {h : HS} {k n : Nat} {a0 : Option Value} {b : Option Value} {r : List (Option Value)} (K : xj y G pc (a0 :: none :: r) st h k n) : xj y G pc (a0 :: b :: r) st h k n := x_weak (weak_keep (weak_drop (fun _ _ q => q))) K
theorem x_none_2 {y : YI} {G : GT} {pc : Nat} {st : List Value} {h : HS} {k n : Nat} {a0 a1 : Option Value} {b : Option Value} {r : List (Option Value)} (K : xj y G pc (a0 :: a1 :: none :: r) st h k n) : xj y G pc (a0 :: a1 :: b :: r) st h k n := x_weak (weak_keep (weak_keep (weak_drop (fun _ _ q => q)))) K
theorem x_none_3 {y : YI} {G : GT} {pc : Nat} {st : List Value} {h : HS} {k n : Nat} {a0 a1 a2 : Option Value} {b : Option Value} {r : List (Option Value)} (K : xj y G pc (a0 :: a1 :: a2 :: none :: r) st h k n) : xj y G pc (a0 :: a1 :: a2 :: b :: r) st h k n := x_weak (weak_keep (weak_keep (weak_keep (weak_drop (fun _ _ q => q))))) K
theorem x_none_4 {y : YI} {G : GT} {pc : Nat} {st : List Value} {h : HS} {k n : Nat} {a0 a1 a2 a3 : Option Value} {b : Option Value} {r : List (Option Value)} (K : xj y G pc (a0 :: a1 :: a2 :: a3 :: none :: r) st h k n) : xj y G pc (a0 :: a1 :: a2 :: a3 :: b :: r) st h k n := x_weak (weak_keep (weak_keep (weak_keep (weak_keep (weak_drop (fun _ _ q => q)))))) K
theorem x_none_5 {y : YI} {G : GT} {pc : Nat} {st : List Value} {h : HS} {k n : Nat} {a0 a1 a2 a3 a4 : Option Value} {b : Option Value} {r : List (Option Value)} (K : xj y G pc (a0 :: a1 :: a2 :: a3 :: a4 :: none :: r) st h k n) : xj y G pc (a0 :: a1 :: a2 :: a3 :: a4 :: b :: r) st h k n := x_weak (weak_keep (weak_keep (weak_keep (weak_keep (weak_keep (weak_drop (fun _ _ q => q))))))) K
theorem x_none_6 {y : YI} {G : GT} {pc : Nat} {st : List Value} {h : HS} {k n : Nat} {a0 a1 a2 a3 a4 a5 : Option Value} {b : Option Value} {r : List (Option Value)} (K : xj y G pc (a0 :: a1 :: a2 :: a3 :: a4 :: a5 :: none :: r) st h k n) : xj y G pc (a0 :: a1 :: a2 :: a3 :: a4 :: a5 :: b :: r) st h k n := x_weak (weak_keep (weak_keep (weak_keep (weak_keep (weak_keep (weak_keep (weak_drop (fun _ _ q => q)))))))) K
theorem x_none_7 {y : YI} {G : GT} {pc : Nat} {st : List Value} {h : HS} {k n : Nat} {a0 a1 a2 a3 a4 a5 a6 : Option Value} {b : Option Value} {r : List (Option Value)} (K : xj y G pc (a0 :: a1 :: a2 :: a3 :: a4 :: a5 :: a6 :: none :: r) st h k n) : xj y G pc (a0 :: a1 :: a2 :: a3 :: a4 :: a5 :: a6 :: b :: r) st h k n := x_weak (weak_keep (weak_keep (weak_keep (weak_keep (weak_keep (weak_keep (weak_keep (weak_drop (fun _ _ q => q))))))))) K
theorem x_none_8 {y : YI} {G : GT} {pc : Nat} {st : List Value} {h : HS} {k n : Nat} {a0 a1 a2 a3 a4 a5 a6 a7 : Option Value} {b : Option Value} {r : List (Option Value)} (K : xj y G pc (a0 :: a1 :: a2 :: a3 :: a4 :: a5 :: a6 :: a7 :: none :: r) st h k n) : xj y G pc (a0 :: a1 :: a2 :: a3 :: a4 :: a5 :: a6 :: a7 :: b :: r) st h k n := x_weak (weak_keep (weak_keep (weak_keep (weak_keep (weak_keep (weak_keep (weak_keep (weak_keep (weak_drop (fun _ _ q => q)))))))))) K
theorem x_none_9 {y : YI} {G : GT} {pc : Nat} {st : List Value} {h : HS} {k n : Nat} {a0 a1 a2 a3 a4 a5 a6 a7 a8 : Option Value} {b : Option Value} {r : List (Option Value)} (K : xj y G pc (a0 :: a1 :: a2 :: a3 :: a4 :: a5 :: a6 :: a7 :: a8 :: none :: r) st h k n) : xj y G pc (a0 :: a1 :: a2 :: a3 :: a4 :: a5 :: a6 :: a7 :: a8 :: b :: r) st h k n := x_weak (weak_keep (weak_keep (weak_keep (weak_keep (weak_keep (weak_keep (weak_keep (weak_keep (weak_keep (weak_drop (fun _ _ q => q))))))))))) K
theorem x_none_10 {y : YI} {G : GT} {pc : Nat} {st : List Value} {h : HS} {k n : Nat} {a0 a1 a2 a3 a4 a5 a6 a7 a8 a9 : Option Value} {b : Option Value} {r : List (Option Value)} (K : xj y G pc (a0 :: a1 :: a2 :: a3 :: a4 :: a5 :: a6 :: a7 :: a8 :: a9 :: none :: r) st h k n) : xj y G pc (a0 :: a1 :: a2 :: a3 :: a4 :: a5 :: a6 :: a7 :: a8 :: a9 :: b :: r) st h k n := x_weak (weak_keep (weak_keep (weak_keep (weak_keep (weak_keep (weak_keep (weak_keep (weak_keep (weak_keep (weak_keep (weak_drop (fun _ _ q => q)))))))))))) K
theorem x_none_11 {y : YI} {G : GT} {pc : Nat} {st : List Value} {h : HS} {k n : Nat} {a0 a1 a2 a3 a4 a5 a6 a7 a8 a9 a10 : Option Value} {b : Option Value} {r : List (Option Value)} (K : xj y G pc (a0 :: a1 :: a2 :: a3 :: a4 :: a5 :: a6 :: a7 :: a8 :: a9 :: a10 :: none :: r) st h k n) : xj y G pc (a0 :: a1 :: a2 :: a3 :: a4 :: a5 :: a6 :: a7 :: a8 :: a9 :: a10 :: b :: r) st h k n := x_weak (weak_keep (weak_keep (weak_keep (weak_keep (weak_keep (weak_keep (weak_keep (weak_keep (weak_keep (weak_keep (weak_keep (weak_drop (fun _ _ q => q))))))))))))) K
theorem x_none_12 {y : YI} {G : GT} {pc : Nat} {st : List Value} {h : HS} {k n : Nat} {a0 a1 a2 a3 a4 a5 a6 a7 a8 a9 a10 a11 : Option Value} {b : Option Value} {r : List (Option Value)} (K : xj y G pc (a0 :: a1 :: a2 :: a3 :: a4 :: a5 :: a6 :: a7 :: a8 :: a9 :: a10 :: a11 :: none :: r) st h k n) : xj y G pc (a0 :: a1 :: a2 :: a3 :: a4 :: a5 :: a6 :: a7 :: a8 :: a9 :: a10 :: a11 :: b :: r) st h k n := x_weak (weak_keep (weak_keep (weak_keep (weak_keep (weak_keep (weak_keep (weak_keep (weak_keep (weak_keep (weak_keep (weak_keep (weak_keep (weak_drop (fun _ _ q => q)))))))))))))) K
theorem x_ldc2 {y : YI} {G : GT} {pc nx : Nat} {ls : List (Option Value)} {st : List Value} {h : HS} {k n : Nat} {ix : Nat} {v : Int64} (d : Dc y pc (.ldc2_w ix) 3 nx) (hm : Cond.constantLong (yN y).cls ix v ∈ WT) (K : xj y G nx ls (.long v :: st) h k n) : xj y G pc ls st h k n := by
  intro E p l e s m args below meth c H locs la C hH hS hl
  obtain ⟨hx, hb, hr, hml, hown, hts, hlk, hK, hbs, hnm, hNo, hex⟩ := id C
  obtain ⟨d, rfl⟩ := d
  exact lv_ldc2 hx hb hown (hts _ hm) d (K E p l e s m args below meth c H locs la C hH hS hl)
theorem x_ldcw {y : YI} {G : GT} {pc nx : Nat} {ls : List (Option Value)} {st : List Value} {h : HS} {k n : Nat} {ix : Nat} {v : Int32} (d : Dc y pc (.ldc_w ix) 3 nx) (hm : Cond.constant (yN y).cls ix v ∈ WT) (K : xj y G nx ls (.int v :: st) h k n) : xj y G pc ls st h k n := by
  intro E p l e s m args below meth c H locs la C hH hS hl
  obtain ⟨hx, hb, hr, hml, hown, hts, hlk, hK, hbs, hnm, hNo, hex⟩ := id C
  obtain ⟨d, rfl⟩ := d
  exact lv_ldcw hx hb hown (hts _ hm) d (K E p l e s m args below meth c H locs la C hH hS hl)
/-- fields -/
theorem x_getf {y : YI} {G : GT} {pc nx : Nat} {ls : List (Option Value)} {st : List Value} {h : HS} {k n : Nat} {ix ci j a : Nat} {fin : Bool} {ty : FieldType} {fs : List Value} {v : Value} (d : Dc y pc (.getfield ix) 3 nx) (fl : FL (yN y).cls ix ci j fin ty) (h1 : 1 ≤ a) (h2 : a ≤ h.1) (hc : h.2 a = .inr (ci, fs)) (hv : fs[j]? = some v) (K : xj y G nx ls (v :: st) h k n) : xj y G pc ls (.ref a :: st) h k n := by
  intro E p l e s m args below meth c H locs la C hH hS hl
  obtain ⟨hx, hb, hr, hml, hown, hts, hlk, hK, hbs, hnm, hNo, hex⟩ := id C
  obtain ⟨d, rfl⟩ := d
  obtain ⟨r, hc0, hj, hmem, -, -, -⟩ := fl
  have he := wl_get (E := E) h1 h2
  rw [hc] at he
  have he : (wl E h)[a - 1]? = some (E.1 + a, .inr (ci, fs.map (trv E))) := he
  show W p l e (yR y) s m args below meth c H locs k n (G.2 E s args below) (F0 m pc la (trv E (.ref a) :: st.map (trv E)))
  rw [trv_ref h1]
  exact va_get (D := E.2.2.1) (ci := ci) (v := trv E v) (C := r.1) (T := r.2.1) (N := r.2.2) hx hb hts (cls_ok hc0).1 hown hK hH.1 (a - 1) he hc0 j hj (hts _ hmem) (fun _ h9 => h9) (by simp [hv]) d (K E p l e s m args below meth c H locs la C hH hS hl)
theorem HH_set {E : EV} {h : HS} {a : Nat} {cc0 : MC} {H H1 : Heap} (hH : HH E h H) (h1 : 1 ≤ a) (h2 : a ≤ h.1) (e : va_at E.2.2.1 kcl (E.1 + a, trc E cc0) H1) (z : H1.size = H.size) (oq : ∀ q, q ≠ E.1 + a → H1[q]? = H[q]?) : HH E (hset h a cc0) H1 := by
  refine ⟨?_, by rw [z]; exact hH.2⟩
  rw [← wl_set h1 h2]
  exact hH.1.set (wl_D E h) (wl_get h1 h2) e oq
theorem HH_push {E : EV} {h : HS} {cc0 : MC} {H H1 : Heap} (hH : HH E h H) (e : va_at E.2.2.1 kcl (E.1 + (h.1 + 1), trc E cc0) H1) (z : H1.size = H.size + 1) (oq : ∀ q, q < H.size → H1[q]? = H[q]?) : HH E (hpush h cc0) H1 := by
  refine ⟨?_, ?_⟩
  · rw [← wl_push]
    refine (hH.1.kept fun k x hx => oq x.1 ((hH.1 k x hx).lt)).app fun k x hx => ?_
    have hz : k < 1 := (List.getElem?_eq_some_iff.mp hx).1
    rw [show k = 0 by omega] at hx
    cases hx
    exact e
  · rw [z, hH.2]
    show E.1 + 1 + h.1 + 1 = E.1 + 1 + (h.1 + 1)
    omega
theorem x_putf {y : YI} {G : GT} {pc nx : Nat} {ls : List (Option Value)} {st : List Value} {h : HS} {k n : Nat} {ix ci j a : Nat} {ty : FieldType} {fs : List Value} {v : Value} (d : Dc y pc (.putfield ix) 3 nx) (fl : FL (yN y).cls ix ci j false ty) (h1 : 1 ≤ a) (h2 : a ≤ h.1) (hc : h.2 a = .inr (ci, fs)) (hl0 : j < fs.length) (hn : ∀ E, narrow ty (trv E v) = trv E v) (hfit : ∀ E, fits ty (trv E v) = true) (K : xj y G nx ls st (hset h a (.inr (ci, fs.set j v))) k n) : xj y G pc ls (v :: .ref a :: st) h k n := by
  intro E p l e s m args below meth c H locs la C hH hS hl
  obtain ⟨hx, hb, hr, hml, hown, hts, hlk, hK, hbs, hnm, hNo, hex⟩ := id C
  obtain ⟨d, rfl⟩ := d
  obtain ⟨r, hc0, hj, hmem, hfin, hty, -⟩ := fl
  obtain ⟨okI, okN, okT⟩ := cls_ok hc0
  have he := wl_get (E := E) h1 h2
  rw [hc] at he
  have he : (wl E h)[a - 1]? = some (E.1 + a, .inr (ci, fs.map (trv E))) := he
  show W p l e (yR y) s m args below meth c H locs k n (G.2 E s args below) (F0 m pc la (trv E v :: trv E (.ref a) :: st.map (trv E)))
  rw [trv_ref h1]
  have hap := va_apart (own := (yN y).cls) hts okI (fun k => dty (r.2.1 k).2.2.1) okT okN hK hc0
  obtain ⟨r', hr', cell, q1, q2, q3, q4⟩ := hH.1 (a - 1) _ he
  have hrr : r' = r := Option.some.inj (hr'.symm.trans hc0)
  subst hrr
  obtain ⟨hSl, hfc, kC, hkC, hkind⟩ := hK.1 ci _ hc0
  obtain ⟨cf, kf, fi, f, hi, hsl⟩ := hSl j hj
  have hlay := hts _ (okI _ (u_in_lay hj))
  unfold u_lay at hlay
  rw [if_neg (by rw [hfin]; decide)] at hlay
  have hst := (u_facts hfc hkC (u_lays hts okI hj) hi).1
  have h6 := u_store hfc hkC hkind hlay hi hty (hn E) (hfit E)
  refine W.putK hx hb (f := f) ⟨hown, hts _ hmem, ⟨_, _, _, hi⟩, hst⟩ (by rw [q2]; exact h6) q1 q3 (by rw [hsl]; exact k2_hasslot (q4 j hj)) rfl rfl d fun H' e1 e2 e3 => ?_
  rw [hsl] at e1 ⊢
  refine K E p l e s m args below meth c H' _ la C (HH_set hH h1 h2 ?_ e2 e3) (hS.put e2 e3 (show E.1 < E.1 + a by omega)) hl
  show va_at E.2.2.1 kcl (E.1 + a, .inr (ci, (fs.set j v).map (trv E))) H'
  refine ⟨_, hc0, t_OB.to (V := updV (vp_V (fs.map (trv E))) j (trv E v)) ⟨_, e1, q2, q3, t_set q4 hap hj (trv E v)⟩ (fun j2 _ => ?_)⟩
  rw [List.map_set]
  exact vp_updV_set (by simpa using hl0) (trv E v) j2
theorem x_putF {y : YI} {G : GT} {pc nx : Nat} {ls : List (Option Value)} {st : List Value} {h : HS} {k n : Nat} {ix ci j a : Nat} {ty : FieldType} {fs : List Value} {v : Value} (d : Dc y pc (.putfield ix) 3 nx) (fl : FL (yN y).cls ix ci j true ty) (hin : (yN y).name = "<init>") (hcl : ∀ r, kcl[ci]? = some r → r.1 = (yN y).cls) (h1 : 1 ≤ a) (h2 : a ≤ h.1) (hc : h.2 a = .inr (ci, fs)) (hl0 : j < fs.length) (hn : ∀ E, narrow ty (trv E v) = trv E v) (hfit : ∀ E, fits ty (trv E v) = true) (K : xj y G nx ls st (hset h a (.inr (ci, fs.set j v))) k n) : xj y G pc ls (v :: .ref a :: st) h k n := by
  intro E p l e s m args below meth c H locs la C hH hS hl
  obtain ⟨hx, hb, hr, hml, hown, hts, hlk, hK, hbs, hnm, hNo, hex⟩ := id C
  obtain ⟨d, rfl⟩ := d
  obtain ⟨r, hc0, hj, hmem, hfin, hty, hdecl⟩ := fl
  obtain ⟨okI, okN, okT⟩ := cls_ok hc0
  have he := wl_get (E := E) h1 h2
  rw [hc] at he
  have he : (wl E h)[a - 1]? = some (E.1 + a, .inr (ci, fs.map (trv E))) := he
  show W p l e (yR y) s m args below meth c H locs k n (G.2 E s args below) (F0 m pc la (trv E v :: trv E (.ref a) :: st.map (trv E)))
  rw [trv_ref h1]
  have hap := va_apart (own := (yN y).cls) hts okI (fun k => dty (r.2.1 k).2.2.1) okT okN hK hc0
  obtain ⟨r', hr', cell, q1, q2, q3, q4⟩ := hH.1 (a - 1) _ he
  have hrr : r' = r := Option.some.inj (hr'.symm.trans hc0)
  subst hrr
  obtain ⟨hSl, hfc, kC, hkC, hkind⟩ := hK.1 ci _ hc0
  obtain ⟨cf, kf, fi, f, hi, hsl⟩ := hSl j hj
  have hlay := hts _ (okI _ (u_in_lay hj))
  unfold u_lay at hlay
  rw [if_pos hfin] at hlay
  have hst := (u_facts hfc hkC (u_lays hts okI hj) hi).1
  have hcf : m.cls = cf := by
    obtain ⟨_, _, c', _, _, _, -, -, hf', -, -, -, hown2, -⟩ := Cond.laysFinal_spec hlay
    have e1 : c' = cf := by have := hi.symm.trans hf'; simp at this; exact this.1.symm
    rw [hdecl, hcl _ hc0] at hown2
    rw [← e1]; exact Option.some.inj (hown.symm.trans hown2)
  have h6 := u_fits hfc hkC hkind (Or.inr hlay) hi hty (hn E) (hfit E)
  refine W.putFinK hx hb hown (hts _ hmem) hi hst hcf (by rw [hnm]; exact hin) (by rw [q2]; exact h6) q1 q3 (by rw [hsl]; exact k2_hasslot (q4 j hj)) rfl rfl d fun H' e1 e2 e3 => ?_
  rw [hsl] at e1 ⊢
  refine K E p l e s m args below meth c H' _ la C (HH_set hH h1 h2 ?_ e2 e3) (hS.put e2 e3 (show E.1 < E.1 + a by omega)) hl
  show va_at E.2.2.1 kcl (E.1 + a, .inr (ci, (fs.set j v).map (trv E))) H'
  refine ⟨_, hc0, t_OB.to (V := updV (vp_V (fs.map (trv E))) j (trv E v)) ⟨_, e1, q2, q3, t_set q4 hap hj (trv E v)⟩ (fun j2 _ => ?_)⟩
  rw [List.map_set]
  exact vp_updV_set (by simpa using hl0) (trv E v) j2
/-- arrays -/
theorem x_iald {y : YI} {G : GT} {pc nx : Nat} {ls : List (Option Value)} {st : List Value} {h : HS} {k n : Nat} {a N : Nat} {f : Nat → Int32} {i : Int32} (d : Dc y pc .iaload 1 nx) (h1 : 1 ≤ a) (h2 : a ≤ h.1) (hc : h.2 a = .inl (0, (N, .inl f))) (hi : vp_in i N) (K : xj y G nx ls (.int (f i.toNatClampNeg) :: st) h k n) : xj y G pc ls (.int i :: .ref a :: st) h k n := by
  intro E p l e s m args below meth c H locs la C hH hS hl
  obtain ⟨hx, hb, hr, hml, hown, hts, hlk, hK, hbs, hnm, hNo, hex⟩ := id C
  obtain ⟨d, rfl⟩ := d
  have he := wl_get (E := E) h1 h2
  rw [hc] at he
  have he : (wl E h)[a - 1]? = some (E.1 + a, .inl (E.2.2.2 0, N, .inl f)) := he
  show W p l e (yR y) s m args below meth c H locs k n (G.2 E s args below) (F0 m pc la (.int i :: trv E (.ref a) :: st.map (trv E)))
  rw [trv_ref h1]
  exact va_iald hx hb hK hH.1 (a - 1) 0 he rfl hi d (K E p l e s m args below meth c H locs la C hH hS hl)
theorem x_zald {y : YI} {G : GT} {pc nx : Nat} {ls : List (Option Value)} {st : List Value} {h : HS} {k n : Nat} {a N : Nat} {f : Nat → Int32} {i : Int32} (d : Dc y pc .baload 1 nx) (h1 : 1 ≤ a) (h2 : a ≤ h.1) (hc : h.2 a = .inl (1, (N, .inl f))) (hi : vp_in i N) (K : xj y G nx ls (.int (f i.toNatClampNeg) :: st) h k n) : xj y G pc ls (.int i :: .ref a :: st) h k n := by
  intro E p l e s m args below meth c H locs la C hH hS hl
  obtain ⟨hx, hb, hr, hml, hown, hts, hlk, hK, hbs, hnm, hNo, hex⟩ := id C
  obtain ⟨d, rfl⟩ := d
  have he := wl_get (E := E) h1 h2
  rw [hc] at he
  have he : (wl E h)[a - 1]? = some (E.1 + a, .inl (E.2.2.2 1, N, .inl f)) := he
  show W p l e (yR y) s m args below meth c H locs k n (G.2 E s args below) (F0 m pc la (.int i :: trv E (.ref a) :: st.map (trv E)))
  rw [trv_ref h1]
  exact va_zald hx hb hK hH.1 (a - 1) 1 he rfl hi d (K E p l e s m args below meth c H locs la C hH hS hl)
theorem x_aald {y : YI} {G : GT} {pc nx : Nat} {ls : List (Option Value)} {st : List Value} {h : HS} {k n : Nat} {a N b : Nat} {f : Nat → Option Nat} {i : Int32} (d : Dc y pc .aaload 1 nx) (h1 : 1 ≤ a) (h2 : a ≤ h.1) (hc : h.2 a = .inl (2, (N, .inr (.inr (.inr (.inr f)))))) (hi : vp_in i N) (hf : f i.toNatClampNeg = some b) (hb1 : 1 ≤ b) (K : xj y G nx ls (.ref b :: st) h k n) : xj y G pc ls (.int i :: .ref a :: st) h k n := by
  intro E p l e s m args below meth c H locs la C hH hS hl
  obtain ⟨hx, hb, hr, hml, hown, hts, hlk, hK, hbs, hnm, hNo, hex⟩ := id C
  obtain ⟨d, rfl⟩ := d
  have he := wl_get (E := E) h1 h2
  rw [hc] at he
  have he : (wl E h)[a - 1]? = some (E.1 + a, .inl (E.2.2.2 2, N, .inr (.inr (.inr (.inr (fun j => (f j).map (fun a => E.1 + a))))))) := he
  show W p l e (yR y) s m args below meth c H locs k n (G.2 E s args below) (F0 m pc la (.int i :: trv E (.ref a) :: st.map (trv E)))
  rw [trv_ref h1]
  refine va_aldq (C := "KiteYards$Line") hx hb hK hH.1 (a - 1) 2 he rfl hi d ?_
  have := K E p l e s m args below meth c H locs la C hH hS hl
  simp only [List.map_cons, trv_ref hb1] at this
  rw [hf]
  exact this
theorem x_alen {y : YI} {G : GT} {pc nx : Nat} {ls : List (Option Value)} {st : List Value} {h : HS} {k n : Nat} {a t N : Nat} {z : (Nat → Int32) ⊕ (Nat → Int64) ⊕ (Nat → UInt32) ⊕ (Nat → UInt64) ⊕ (Nat → Option Nat)} (v : Int32) (d : Dc y pc .arraylength 1 nx) (h1 : 1 ≤ a) (h2 : a ≤ h.1) (ht : t < 3) (hc : h.2 a = .inl (t, (N, z))) (hv : Int32.ofNat N = v) (K : xj y G nx ls (.int v :: st) h k n) : xj y G pc ls (.ref a :: st) h k n := by
  intro E p l e s m args below meth c H locs la C hH hS hl
  obtain ⟨hx, hb, hr, hml, hown, hts, hlk, hK, hbs, hnm, hNo, hex⟩ := id C
  obtain ⟨d, rfl⟩ := d
  have he := wl_get (E := E) h1 h2
  rw [hc] at he
  show W p l e (yR y) s m args below meth c H locs k n (G.2 E s args below) (F0 m pc la (trv E (.ref a) :: st.map (trv E)))
  rw [trv_ref h1]
  have ht' : ∃ ty, (tyl E)[t]? = some (E.2.2.2 t, ty) := by
    rcases (show t = 0 ∨ t = 1 ∨ t = 2 by omega) with rfl | rfl | rfl <;> exact ⟨_, rfl⟩
  obtain ⟨ty, ht'⟩ := ht'
  have key : ∀ z2, (wl E h)[a - 1]? = some (E.1 + a, .inl (E.2.2.2 t, (N, z2))) → W p l e (yR y) s m args below meth c H locs k n (G.2 E s args below) (F0 m pc la (.ref (E.1 + a) :: st.map (trv E))) := fun z2 he2 =>
    va_alen hx hb hK hH.1 (a - 1) t he2 ht' hv d (K E p l e s m args below meth c H locs la C hH hS hl)
  obtain z | z | z | z | z := z <;> exact key _ he
theorem x_iast {y : YI} {G : GT} {pc nx : Nat} {ls : List (Option Value)} {st : List Value} {h : HS} {k n : Nat} {a N : Nat} {f : Nat → Int32} {i x : Int32} (d : Dc y pc .iastore 1 nx) (h1 : 1 ≤ a) (h2 : a ≤ h.1) (hc : h.2 a = .inl (0, (N, .inl f))) (hi : vp_in i N) (K : xj y G nx ls st (hset h a (.inl (0, (N, .inl (upd f i.toNatClampNeg x))))) k n) : xj y G pc ls (.int x :: .int i :: .ref a :: st) h k n := by
  intro E p l e s m args below meth c H locs la C hH hS hl
  obtain ⟨hx, hb, hr, hml, hown, hts, hlk, hK, hbs, hnm, hNo, hex⟩ := id C
  obtain ⟨d, rfl⟩ := d
  have he := wl_get (E := E) h1 h2
  rw [hc] at he
  have he : (wl E h)[a - 1]? = some (E.1 + a, .inl (E.2.2.2 0, N, .inl f)) := he
  show W p l e (yR y) s m args below meth c H locs k n (G.2 E s args below) (F0 m pc la (.int x :: .int i :: trv E (.ref a) :: st.map (trv E)))
  rw [trv_ref h1]
  refine W.iast hx hb (hH.1 (a - 1) _ he) ((hK.2 0 _ rfl).1 N (fun j => .int (f j))) (fun q => by cases q) (by show ¬ (i < 0 ∨ (arrV _ _ _).slots.size ≤ _); rw [arrV_size]; exact hi) rfl rfl d fun H1 e0 z oq => ?_
  refine K E p l e s m args below meth c H1 _ la C (HH_set hH h1 h2 ?_ z oq) (hS.put z oq (show E.1 < E.1 + a by omega)) hl
  show H1[E.1 + a]? = some (vp_cell (E.2.2.2 0) (N, .inl (upd f i.toNatClampNeg x)))
  rw [e0]
  rw [vp_cell_i, vp_cell_i, arrV_store]
  congr 2
  funext q
  by_cases hq : q = i.toNatClampNeg
  · subst hq
    simp [updV, upd]
  · simp [updV, upd, hq]
theorem x_zast {y : YI} {G : GT} {pc nx : Nat} {ls : List (Option Value)} {st : List Value} {h : HS} {k n : Nat} {a N : Nat} {f : Nat → Int32} {i x : Int32} (d : Dc y pc .bastore 1 nx) (h1 : 1 ≤ a) (h2 : a ≤ h.1) (hc : h.2 a = .inl (1, (N, .inl f))) (hi : vp_in i N) (hz : narrow .boolean (.int x) = .int x) (K : xj y G nx ls st (hset h a (.inl (1, (N, .inl (upd f i.toNatClampNeg x))))) k n) : xj y G pc ls (.int x :: .int i :: .ref a :: st) h k n := by
  intro E p l e s m args below meth c H locs la C hH hS hl
  obtain ⟨hx, hb, hr, hml, hown, hts, hlk, hK, hbs, hnm, hNo, hex⟩ := id C
  obtain ⟨d, rfl⟩ := d
  have he := wl_get (E := E) h1 h2
  rw [hc] at he
  have he : (wl E h)[a - 1]? = some (E.1 + a, .inl (E.2.2.2 1, N, .inl f)) := he
  show W p l e (yR y) s m args below meth c H locs k n (G.2 E s args below) (F0 m pc la (.int x :: .int i :: trv E (.ref a) :: st.map (trv E)))
  rw [trv_ref h1]
  refine W.zast hx hb (hH.1 (a - 1) _ he) ((hK.2 1 _ rfl).1 N (fun j => .int (f j))) (fun q => by cases q) (by show ¬ (i < 0 ∨ (arrV _ _ _).slots.size ≤ _); rw [arrV_size]; exact hi) rfl rfl d fun H1 e0 z oq => ?_
  refine K E p l e s m args below meth c H1 _ la C (HH_set hH h1 h2 ?_ z oq) (hS.put z oq (show E.1 < E.1 + a by omega)) hl
  show H1[E.1 + a]? = some (vp_cell (E.2.2.2 1) (N, .inl (upd f i.toNatClampNeg x)))
  rw [e0, hz]
  rw [vp_cell_i, vp_cell_i, arrV_store]
  congr 2
  funext q
  by_cases hq : q = i.toNatClampNeg
  · subst hq
    simp [updV, upd]
  · simp [updV, upd, hq]
theorem x_aast {y : YI} {G : GT} {pc nx : Nat} {ls : List (Option Value)} {st : List Value} {h : HS} {k n : Nat} {a N v : Nat} {vs : List Value} {f : Nat → Option Nat} {i : Int32} (d : Dc y pc .aastore 1 nx) (h1 : 1 ≤ a) (h2 : a ≤ h.1) (hc : h.2 a = .inl (2, (N, .inr (.inr (.inr (.inr f)))))) (hi : vp_in i N) (hv1 : 1 ≤ v) (hv2 : v ≤ h.1) (hv : h.2 v = .inr (2, vs)) (K : xj y G nx ls st (hset h a (.inl (2, (N, .inr (.inr (.inr (.inr (va_up f i.toNatClampNeg (some v)))))))) ) k n) : xj y G pc ls (.ref v :: .int i :: .ref a :: st) h k n := by
  intro E p l e s m args below meth c H locs la C hH hS hl
  obtain ⟨hx, hb, hr, hml, hown, hts, hlk, hK, hbs, hnm, hNo, hex⟩ := id C
  obtain ⟨d, rfl⟩ := d
  have he := wl_get (E := E) h1 h2
  rw [hc] at he
  have he : (wl E h)[a - 1]? = some (E.1 + a, .inl (E.2.2.2 2, N, .inr (.inr (.inr (.inr (fun j => (f j).map (fun a => E.1 + a))))))) := he
  have hev := wl_get (E := E) hv1 hv2
  rw [hv] at hev
  have hev : (wl E h)[v - 1]? = some (E.1 + v, .inr (2, vs.map (trv E))) := hev
  show W p l e (yR y) s m args below meth c H locs k n (G.2 E s args below) (F0 m pc la (trv E (.ref v) :: .int i :: trv E (.ref a) :: st.map (trv E)))
  rw [trv_ref h1, trv_ref hv1]
  have hlt : i.toNatClampNeg < N := Nat.not_le.mp fun q => hi (Or.inr q)
  have h0 : ¬ i < 0 := fun q => hi (Or.inl q)
  obtain ⟨r', hr', cellV, g1, g2, g3, -⟩ := hH.1 (v - 1) _ hev
  have hcls := (hK.1 2 _ hr').2
  have hcc : kcl[2]? = some ("KiteYards$Line", TLine, 8) := rfl
  have hrr : r' = ("KiteYards$Line", TLine, 8) := Option.some.inj (hr'.symm.trans hcc)
  subst hrr
  obtain ⟨kA, comp, k1, k2, k3, -⟩ := (hK.2 2 _ rfl).2
  have hcomp : comp = E.2.2.1.1 2 := Option.some.inj (k3.symm.trans hcls.1)
  subst hcomp
  have hass := va_assign hcls
  obtain ⟨kC, hkC, -⟩ := hcls.2
  refine W.aast hx hb (hH.1 (a - 1) _ he) (fun q h => by cases h) (fun h => by cases h) k1 k2 rfl hkC ⟨h0, by show _ < (arrV _ _ _).slots.size; rw [arrV_size]; exact hlt⟩ g1 (fun q h => by rw [g3] at h; cases h) (by rw [g2]; exact hkC) (by rw [g2]; exact hass) rfl rfl d fun H1 e0 z oq => ?_
  refine K E p l e s m args below meth c H1 _ la C (HH_set hH h1 h2 ?_ z oq) (hS.put z oq (show E.1 < E.1 + a by omega)) hl
  show H1[E.1 + a]? = some (vp_cell (E.2.2.2 2) (N, .inr (.inr (.inr (.inr (fun j => (va_up f i.toNatClampNeg (some v) j).map (fun a => E.1 + a)))))))
  rw [e0]
  rw [vp_cell_q, vp_cell_q, arrV_store]
  congr 2
  funext q
  by_cases hq : q = i.toNatClampNeg
  · subst hq
    simp [updV, va_up, va_rf]
  · simp [updV, va_up, hq]
/-- new cells -/
theorem dfl_tr (E : EV) (r : vw_C) : (dfl r).map (trv E) = dfl r := by
  unfold dfl
  rw [List.map_map]
  refine List.map_congr_left fun j _ => ?_
  show trv E (defaultValue _) = defaultValue _
  cases dty (r.2.1 j).2.2.1 <;> rfl
theorem x_new {y : YI} {G : GT} {pc nx : Nat} {ls : List (Option Value)} {st : List Value} {h : HS} {k n : Nat} {ix ci nn k' n' : Nat} {fs : List Value} (d : Dc y pc (.new ix) 3 nx) (nw : NW (yN y).cls ix ci fs nn) (hk : k + 1 = k') (hn : n + nn = n') (hk2 : k' ≤ (yR y).cells) (hn2 : n' ≤ (yR y).slots) (K : xj y G nx ls (.ref (h.1 + 1) :: st) (hpush h (.inr (ci, fs))) k' n') : xj y G pc ls st h k n := by
  intro E p l e s m args below meth c H locs la C hH hS hl
  obtain ⟨hx, hb, hr, hml, hown, hts, hlk, hK, hbs, hnm, hNo, hex⟩ := id C
  obtain ⟨d, rfl⟩ := d
  subst hk; subst hn
  obtain ⟨r, hc0, rfl, rfl, w1, w2, w3⟩ := nw
  obtain ⟨okI, okN, okT⟩ := cls_ok hc0
  have hKn := hK.1 ci _ hc0
  have hsz : H.size = E.1 + (h.1 + 1) := by rw [hH.2]; omega
  refine W.newcK hx hb hown (hts _ w1) (hts _ w2) (hts _ w3) rfl d hk2 hn2 hKn.2.1 rfl fun H1 kC hkC e1 z1 o1 => ?_
  have := K E p l e s m args below meth c H1 locs la C (HH_push (cc0 := .inr (ci, dfl r)) hH ?_ z1 o1) ⟨Nat.le_trans hS.1 (by omega), fun x g1 g2 => (o1 x (Nat.lt_of_lt_of_le g1 hS.1)).trans (hS.2.1 x g1 g2), hS.2.2⟩ hl
  · simp only [List.map_cons, trv_ref (show 1 ≤ h.1 + 1 by omega)] at this
    rw [hsz]
    exact this
  · show va_at E.2.2.1 kcl (E.1 + (h.1 + 1), .inr (ci, (dfl r).map (trv E))) H1
    rw [dfl_tr, ← hsz]
    exact ⟨_, hc0, (u_born (fun k => dty (r.2.1 k).2.2.1) hts okI hKn hkC e1 okT).to fun j hj => by
      unfold vp_V dfl
      rw [List.getD_eq_getElem?_getD, List.getElem?_map, List.getElem?_range hj]
      rfl⟩
theorem x_newI {y : YI} {G : GT} {pc nx : Nat} {ls : List (Option Value)} {st : List Value} {h : HS} {k n : Nat} {k' n' N : Nat} {i : Int32} (d : Dc y pc (.newarray .int) 2 nx) (hw : Cond.arrayClass .int ∈ WT) (h0 : ¬ i < 0) (hN : i.toNatClampNeg = N) (hbytes : N * 4 ≤ 536870912) (hk : k + 1 = k') (hn : n + N = n') (hk2 : k' ≤ (yR y).cells) (hn2 : n' ≤ (yR y).slots) (K : xj y G nx ls (.ref (h.1 + 1) :: st) (hpush h (.inl (0, (N, .inl (fun _ => 0))))) k' n') : xj y G pc ls (.int i :: st) h k n := by
  intro E p l e s m args below meth c H locs la C hH hS hl
  obtain ⟨hx, hb, hr, hml, hown, hts, hlk, hK, hbs, hnm, hNo, hex⟩ := id C
  obtain ⟨d, rfl⟩ := d
  subst hk; subst hn
  have hsz : H.size = E.1 + (h.1 + 1) := by rw [hH.2]; omega
  refine va_newaK (atype := .int) hx hb (hts _ hw) rfl d rfl h0 hN hbytes hk2 hn2 rfl fun H1 cA e1 z1 o1 hAr hNm => ?_
  have hcA : cA = E.2.2.2 0 := Option.some.inj (hNm.symm.trans (hK.2 0 _ rfl).2)
  subst hcA
  have := K E p l e s m args below meth c H1 locs la C (HH_push (cc0 := .inl (0, (N, .inl (fun _ => 0)))) hH ?_ z1 o1) ⟨Nat.le_trans hS.1 (by omega), fun x g1 g2 => (o1 x (Nat.lt_of_lt_of_le g1 hS.1)).trans (hS.2.1 x g1 g2), hS.2.2⟩ hl
  · simp only [List.map_cons, trv_ref (show 1 ≤ h.1 + 1 by omega)] at this
    rw [hsz]
    exact this
  · show H1[E.1 + (h.1 + 1)]? = some (vp_cell (E.2.2.2 0) (N, .inl (fun _ => 0)))
    rw [← hsz, vp_cell_i]
    exact e1
theorem x_newZ {y : YI} {G : GT} {pc nx : Nat} {ls : List (Option Value)} {st : List Value} {h : HS} {k n : Nat} {k' n' N : Nat} {i : Int32} (d : Dc y pc (.newarray .boolean) 2 nx) (hw : Cond.arrayClass .boolean ∈ WT) (h0 : ¬ i < 0) (hN : i.toNatClampNeg = N) (hbytes : N * 1 ≤ 536870912) (hk : k + 1 = k') (hn : n + N = n') (hk2 : k' ≤ (yR y).cells) (hn2 : n' ≤ (yR y).slots) (K : xj y G nx ls (.ref (h.1 + 1) :: st) (hpush h (.inl (1, (N, .inl (fun _ => 0))))) k' n') : xj y G pc ls (.int i :: st) h k n := by
  intro E p l e s m args below meth c H locs la C hH hS hl
  obtain ⟨hx, hb, hr, hml, hown, hts, hlk, hK, hbs, hnm, hNo, hex⟩ := id C
  obtain ⟨d, rfl⟩ := d
  subst hk; subst hn
  have hsz : H.size = E.1 + (h.1 + 1) := by rw [hH.2]; omega
  refine va_newaK (atype := .boolean) hx hb (hts _ hw) rfl d rfl h0 hN hbytes hk2 hn2 rfl fun H1 cA e1 z1 o1 hAr hNm => ?_
  have hcA : cA = E.2.2.2 1 := Option.some.inj (hNm.symm.trans (hK.2 1 _ rfl).2)
  subst hcA
  have := K E p l e s m args below meth c H1 locs la C (HH_push (cc0 := .inl (1, (N, .inl (fun _ => 0)))) hH ?_ z1 o1) ⟨Nat.le_trans hS.1 (by omega), fun x g1 g2 => (o1 x (Nat.lt_of_lt_of_le g1 hS.1)).trans (hS.2.1 x g1 g2), hS.2.2⟩ hl
  · simp only [List.map_cons, trv_ref (show 1 ≤ h.1 + 1 by omega)] at this
    rw [hsz]
    exact this
  · show H1[E.1 + (h.1 + 1)]? = some (vp_cell (E.2.2.2 1) (N, .inl (fun _ => 0)))
    rw [← hsz, vp_cell_i]
    exact e1
theorem x_newL {y : YI} {G : GT} {pc nx : Nat} {ls : List (Option Value)} {st : List Value} {h : HS} {k n : Nat} {k' n' N ix : Nat} {i : Int32} (d : Dc y pc (.anewarray ix) 3 nx) (hw : Cond.classLink (yN y).cls ix "KiteYards$Line" ∈ WT) (h0 : ¬ i < 0) (hN : i.toNatClampNeg = N) (hbytes : N * 4 ≤ 536870912) (hk : k + 1 = k') (hn : n + N = n') (hk2 : k' ≤ (yR y).cells) (hn2 : n' ≤ (yR y).slots) (K : xj y G nx ls (.ref (h.1 + 1) :: st) (hpush h (.inl (2, (N, .inr (.inr (.inr (.inr (fun _ => none)))))))) k' n') : xj y G pc ls (.int i :: st) h k n := by
  intro E p l e s m args below meth c H locs la C hH hS hl
  obtain ⟨hx, hb, hr, hml, hown, hts, hlk, hK, hbs, hnm, hNo, hex⟩ := id C
  obtain ⟨d, rfl⟩ := d
  subst hk; subst hn; subst hN
  have hsz : H.size = E.1 + (h.1 + 1) := by rw [hH.2]; omega
  refine W.anew hx hb hown (hts _ hw) (va_AO.use hNo.2) rfl d rfl h0 hbytes hk2 hn2 fun cA kA comp f1 f2 f3 f4 => ?_
  obtain ⟨kA2, comp2, -, -, -, f5⟩ := (hK.2 2 _ rfl).2
  have hcA : cA = E.2.2.2 2 := Option.some.inj (f1.symm.trans f5)
  subst hcA
  have := K E p l e s m args below meth c _ locs la C (HH_push (cc0 := .inl (2, (i.toNatClampNeg, .inr (.inr (.inr (.inr (fun _ => none))))))) hH (H1 := H.push ({ cls := E.2.2.2 2, slots := Array.replicate i.toNatClampNeg .null, vm := .none } : Cell)) ?_ (by rw [Array.size_push]) (fun q hq => by rw [Array.getElem?_push, if_neg (Nat.ne_of_lt hq)])) ⟨Nat.le_trans hS.1 (by rw [Array.size_push]; omega), fun x g1 g2 => (by rw [Array.getElem?_push, if_neg (Nat.ne_of_lt (Nat.lt_of_lt_of_le g1 hS.1))]; exact hS.2.1 x g1 g2), hS.2.2⟩ hl
  · simp only [List.map_cons, trv_ref (show 1 ≤ h.1 + 1 by omega)] at this
    rw [hsz]
    exact this
  · show (H.push _)[E.1 + (h.1 + 1)]? = some (vp_cell (E.2.2.2 2) (i.toNatClampNeg, .inr (.inr (.inr (.inr (fun _ => none))))))
    rw [← hsz, vp_cell_q, Array.getElem?_push_size, ← arrV_new]
    rfl
/-- returns -/
theorem x_ireturn {y : YI} {pc nx : Nat} {ls : List (Option Value)} {h : HS} {k n : Nat} {Po : Option Value → HS → Prop} {v : Int32} {ty : FieldType} (d : Dc y pc .ireturn 1 nx) (ht : yT y = some ty) (hn : narrow ty (.int v) = .int v) (hk : k ≤ (yR y).cells) (hk2 : n ≤ (yR y).slots) (hp : Po (some (.int v)) h) : xj y (mG y Po) pc ls [.int v] h k n := by
  intro E p l e s m args below meth c H locs la C hH hS hl
  obtain ⟨hx, hb, hr, hml, hown, hts, hlk, hK, hbs, hnm, hNo, hex⟩ := id C
  refine W.widen hk hk2 ?_
  exact W.zret (ty := ty) hx hb (hr.trans ht) hn (fun t ht' hW => ⟨⟨some (.int v), h, rfl, hp, by rw [ht']; exact hH, va_K.moved hW.alike hK⟩, hS.F ht'⟩) hS.2.2 d.1
theorem x_lreturn {y : YI} {pc nx : Nat} {ls : List (Option Value)} {h : HS} {k n : Nat} {Po : Option Value → HS → Prop} {v : Int64} (d : Dc y pc .lreturn 1 nx) (ht : yT y = some .long) (hk : k ≤ (yR y).cells) (hk2 : n ≤ (yR y).slots) (hp : Po (some (.long v)) h) : xj y (mG y Po) pc ls [.long v] h k n := by
  intro E p l e s m args below meth c H locs la C hH hS hl
  obtain ⟨hx, hb, hr, hml, hown, hts, hlk, hK, hbs, hnm, hNo, hex⟩ := id C
  refine W.widen hk hk2 ?_
  exact W.lret hx hb (hr.trans ht) (fun t ht' hW => ⟨⟨some (.long v), h, rfl, hp, by rw [ht']; exact hH, va_K.moved hW.alike hK⟩, hS.F ht'⟩) hS.2.2 d.1
theorem x_return {y : YI} {pc nx : Nat} {ls : List (Option Value)} {h : HS} {k n : Nat} {Po : Option Value → HS → Prop} (d : Dc y pc .return_ 1 nx) (ht : yT y = none) (hk : k ≤ (yR y).cells) (hk2 : n ≤ (yR y).slots) (hp : Po none h) : xj y (mG y Po) pc ls [] h k n := by
  intro E p l e s m args below meth c H locs la C hH hS hl
  obtain ⟨hx, hb, hr, hml, hown, hts, hlk, hK, hbs, hnm, hNo, hex⟩ := id C
  refine W.widen hk hk2 ?_
  exact W.vret hx hb (hr.trans ht) (fun t ht' hW => ⟨⟨none, h, rfl, hp, by rw [ht']; exact hH, va_K.moved hW.alike hK⟩, hS.F ht'⟩) hS.2.2 d.1
theorem x_areturn {y : YI} {pc nx : Nat} {ls : List (Option Value)} {h : HS} {k n : Nat} {Po : Option Value → HS → Prop} {v : Value} {rt : FieldType} (d : Dc y pc .areturn 1 nx) (ht : yT y = some rt) (hrt : (∃ n, rt = .object n) ∨ ∃ t, rt = .array t) (hv : v = .null ∨ ∃ a, v = .ref a) (hk : k ≤ (yR y).cells) (hk2 : n ≤ (yR y).slots) (hp : Po (some v) h) : xj y (mG y Po) pc ls [v] h k n := by
  intro E p l e s m args below meth c H locs la C hH hS hl
  obtain ⟨hx, hb, hr, hml, hown, hts, hlk, hK, hbs, hnm, hNo, hex⟩ := id C
  refine W.widen hk hk2 ?_
  refine W.aret (v := trv E v) hx hb (hr.trans ht) hrt ?_ (fun t ht' hW => ⟨⟨some v, h, rfl, hp, by rw [ht']; exact hH, va_K.moved hW.alike hK⟩, hS.F ht'⟩) hS.2.2 d.1
  rcases hv with rfl | ⟨a, rfl⟩
  · exact Or.inl rfl
  · exact Or.inr ⟨_, rfl⟩
def R_law : String := "KiteYardsLaw"
def lw_P (b : Addr) (xs : List Int32) (args : Array Value) (s : State) : Prop := args = #[.ref b] ∧ s.IntsAt b xs ∧ xs.length ≤ 3072 ∧ (Jvm.Cond.and given_1 narrow_1).before args s = true
def lw_Q (_ : Array Value) (s : State) (o : Outcome) (t : State) : Prop := o = .returned (some (.int 1)) ∧ Framed s o t [] 600000 7302250
def lw_Z (below : List Frame) (a : Array Value) (s : State) : State → Prop := fun t => ∃ o, t.status = .running ∧ Ended t below o ∧ lw_Q a s o t
/-- Object's constructor -/
theorem x_objInit {y : YI} {G : GT} {pc nx : Nat} {ls : List (Option Value)} {st : List Value} {h : HS} {k n : Nat} {ix a : Nat} (d : Dc y pc (.invokespecial ix) 3 nx) (hw : Cond.methodLink (yN y).cls ix Lib.objectInit ∈ WT) (hf : 1 ≤ (yR y).frames) (hlo : (st.map fun v => v.category).sum + 12 ≤ (yR y).locals) (K : xj y G nx ls st h k n) : xj y G pc ls (.ref a :: st) h k n := by
  intro E p l e s m args below meth c H locs la C hH hS hl
  obtain ⟨hx, hb, hr, hml, hown, hts, hlk, hK, hbs, hnm, hNo, hex⟩ := id C
  obtain ⟨d, rfl⟩ := d
  refine W.objInit (a := if a = 0 then E.2.1 else E.1 + a) hx hb hown (hts _ hw) (hts _ obj_inst) (hts _ obj_code) rfl (hl.1.trans hml.symm) rfl d hf ?_ (K E p l e s m args below meth c H locs la C hH hS hl)
  rw [trv_cats]
  have : 2 * (F0 m pc la (st.map (trv E))).monitorRoom = 0 := rfl
  show 2 * (F0 m pc la _).monitorRoom + _ + 12 ≤ _
  have e0 : (F0 m pc la (List.map (trv E) (Value.ref a :: st))).monitorRoom = 0 := rfl
  rw [e0]
  omega
/-- behind a call: the callee's end is the caller's next state -/
theorem x_after {y : YI} {G : GT} {pc : Nat} {ls : List (Option Value)} {st stf : List Value} {k n mc ms : Nat} {E : EV} {p : Program} {l : Launch} {e : Env} {s : State} {m : MethodId} {args : Array Value} {below : List Frame} {meth : Method} {c : Code} {H : Heap} {locs : List Loc} {la : Array Slot} {a : Array Value} {rest : List Value}
    (C : Cx y E G.1 p s m args meth c) (hS : va_S (fun q => E.1 < q) s.heap H locs) (hl : lv_has la (yL y) (lvl E 0 ls)) (hrest : rest = st.map (trv E))
    (run : va_Run p l e (yR y) s m args below meth c H locs k n mc ms (F0 m pc la stf) rest (QQ E (fun r h' => xj y G (pc + 3) ls (pushR r st) h' (k + mc) (n + ms)) a) (fun q => E.1 < q)) :
    W p l e (yR y) s m args below meth c H locs k n (G.2 E s args below) (F0 m pc la stf) := by
  intro T hT XX
  obtain ⟨v, st₀, t, T', L, h0, X', hL, e1, e2, ⟨⟨r, h', hv, hp, hHH, hK'⟩, hz, hkk⟩, stp⟩ := run T hT XX
  rw [h0] at hz hkk
  have hv : v = r.map (trv E) := by injection hv
  subst hv
  obtain ⟨t2, a1, b1⟩ := hp E p l e s m args below meth c T'.heap (locs ++ L) la C (by rw [e1]; exact hHH)
    ⟨Nat.le_trans hS.1 (by rw [e1]; exact hz), fun q h1 h2 => by rw [e1, hkk q (Nat.lt_of_lt_of_le h1 hS.1) h2]; exact hS.2.1 q h1 h2, fun q hq => by
      rcases List.mem_append.mp hq with h | h
      · exact hS.2.2 q h
      · exact hL q h⟩ hl T' rfl X'
  refine ⟨t2, stp t2 ?_, b1⟩
  rw [pushR_eq] at a1
  rw [hrest]
  exact a1
theorem blind_pc {E : EV} {av : List Value} {h : HS} : FrameBlind (va_Pc (av.map (trv E)) (fun U => HH E h U.heap ∧ va_K E.2.2.1 kcl (tyl E) U ∧ NOk U)) := fun a U g mk q => by
  obtain ⟨q0, q1, q2, q3⟩ := q
  exact ⟨q0, q1, va_K.moved (u := U) (U := U.calling g mk a) (Vm.Alike.refl U.vm) q2, NOk.same rfl q3⟩
theorem room_of {E : EV} {m : MethodId} {pc : Nat} {la : Array Slot} {stf : List Value} {st : List Value} (h : (st.map fun v => v.category).sum ≤ 8) : 2 * (F0 m pc la stf).monitorRoom + ((st.map (trv E)).map fun v => v.category).sum ≤ 8 := lv_room (by rw [trv_cats]; exact h)
theorem x_callV {y y' : YI} {G : GT} {pc nx : Nat} {ls ls0 : List (Option Value)} {st : List Value} {h : HS} {k n k' n' : Nat} {ix np ci b : Nat} {fs : List Value} {As : List Value} (d : Dc y pc (.invokevirtual ix) 3 nx) (cf : CV (yN y).cls ix y') (ok : YOK y' np) (rm : rmOk y y') (hAs : As.length = np) (hlen : (entl (.ref b :: As)).length ≤ yL y') (he : ent0 y' (.ref b :: As) = ls0) (hst : (st.map fun v => v.category).sum ≤ 8) (b1 : 1 ≤ b) (b2 : b ≤ h.1) (hc : h.2 b = .inr (ci, fs)) (hcc : ∃ r, kcl[ci]? = some r ∧ r.1 = (yN y').cls)
    (hk : k + (yR y').cells = k') (hn : n + (yR y').slots = n') (hk2 : k' ≤ (yR y).cells) (hn2 : n' ≤ (yR y).slots)
    (K : xj y' (mG y' (fun r h' => xj y G nx ls (pushR r st) h' k' n')) 0 ls0 [] h 0 0) : xj y G pc ls (As.reverse ++ .ref b :: st) h k n := by
  intro E p l e s m args below meth c H locs la C hH hS hl
  obtain ⟨hx, hb, hr, hml, hown, hts, hlk, hK, hbs, hnm, hNo, hex⟩ := id C
  obtain ⟨d, rfl⟩ := d
  subst hk; subst hn
  obtain ⟨r, hc0, hrc⟩ := hcc
  have hM := met_of_X E l ok he hlen K
  refine x_after C hS hl (st := st) (rest := st.map (trv E)) rfl (va_runV (b := E.1 + b) (As := As.map (trv E)) (rest := st.map (trv E)) (n := np) (C := (yN y').cls) (bytes := yB y') (maxL := yL y') (ret := yT y') ⟨hx, hb, hml, hown, hts⟩ hM ?_ ?_ rfl (by rw [List.length_map]; exact hAs) hl.1 ?_ (room_of hst) d ⟨hk2, hn2⟩)
  · refine ⟨⟨rfl, rfl, rm.1, rm.2, pay_in hts (goodT ?_), List.mem_cons_self, hts _ ok.2.1, hts _ ok.2.2.2.2, ok.2.2.1, ?_, hts _ cf.1⟩, hts _ cf.2.1, hts _ cf.2.2⟩
    · intro w hw
      rcases List.mem_cons.mp hw with rfl | hw
      · exact ok.2.1
      · exact hw
    · intro sig h2
      have h3 := ok.2.2.2.1
      rw [h2] at h3
      exact (Option.some.inj h3).symm
  · refine ⟨?_, ?_, fun U hU hW => ⟨by rw [List.map_cons, trv_ref b1], by rw [hU]; exact hH, va_K.moved hW.alike hK, NOk.warm hW hNo⟩⟩
    · exact blind_pc
    · have he2 := wl_get (E := E) b1 b2
      rw [hc] at he2
      have := va_recv (q := r) hK hH.1 hc0 he2
      rw [hrc] at this
      exact this
  · show (As.reverse ++ .ref b :: st).map (trv E) = _
    rw [List.map_append, List.map_reverse, List.map_cons, trv_ref b1]
theorem x_callS {y y' : YI} {G : GT} {pc nx : Nat} {ls ls0 : List (Option Value)} {st : List Value} {h : HS} {k n k' n' : Nat} {ix np : Nat} {As : List Value} (d : Dc y pc (.invokestatic ix) 3 nx) (cf : CS (yN y).cls ix y') (ok : YOK y' np) (rm : rmOk y y') (hAs : As.length = np) (hlen : (entl As).length ≤ yL y') (he : ent0 y' As = ls0) (hst : (st.map fun v => v.category).sum ≤ 8)
    (hk : k + (yR y').cells = k') (hn : n + (yR y').slots = n') (hk2 : k' ≤ (yR y).cells) (hn2 : n' ≤ (yR y).slots)
    (K : xj y' (mG y' (fun r h' => xj y G nx ls (pushR r st) h' k' n')) 0 ls0 [] h 0 0) : xj y G pc ls (As.reverse ++ st) h k n := by
  intro E p l e s m args below meth c H locs la C hH hS hl
  obtain ⟨hx, hb, hr, hml, hown, hts, hlk, hK, hbs, hnm, hNo, hex⟩ := id C
  obtain ⟨d, rfl⟩ := d
  subst hk; subst hn
  have hM := met_of_X E l ok he hlen K
  refine x_after C hS hl (st := st) (rest := st.map (trv E)) rfl (va_runS (bytes := yB y') (maxL := yL y') (ret := yT y') (As := As.map (trv E)) (rest := st.map (trv E)) (n := np) ⟨hx, hb, hml, hown, hts⟩ hM ?_ ?_ rfl (by rw [List.length_map]; exact hAs) hl.1 ?_ (room_of hst) d ⟨hk2, hn2⟩)
  · refine ⟨⟨rfl, rfl, rm.1, rm.2, pay_in hts (goodT ?_), List.mem_cons_self, hts _ ok.2.1, hts _ ok.2.2.2.2, ok.2.2.1, ?_, hts _ cf.1⟩, hts _ cf.2⟩
    · intro w hw
      rcases List.mem_cons.mp hw with rfl | hw
      · exact ok.2.1
      · exact hw
    · intro sig h2
      have h3 := ok.2.2.2.1
      rw [h2] at h3
      exact (Option.some.inj h3).symm
  · exact ⟨blind_pc, fun U hU hW => ⟨rfl, by rw [hU]; exact hH, va_K.moved hW.alike hK, NOk.warm hW hNo⟩⟩
  · show (As.reverse ++ st).map (trv E) = _
    rw [List.map_append, List.map_reverse]
theorem x_callSN {y y' : YI} {G : GT} {pc nx : Nat} {ls ls0 : List (Option Value)} {st : List Value} {h : HS} {k n k' n' : Nat} {ix np : Nat} {As : List Value} (d : Dc y pc (.invokestatic ix) 3 nx) (cf : CSN (yN y).cls ix y') (ok : YOK y' np) (rm : rmOk y y') (hAs : As.length = np) (hlen : (entl As).length ≤ yL y') (he : ent0 y' As = ls0) (hst : (st.map fun v => v.category).sum ≤ 8)
    (hk : k + (yR y').cells = k') (hn : n + (yR y').slots = n') (hk2 : k' ≤ (yR y).cells) (hn2 : n' ≤ (yR y).slots)
    (K : xj y' (mG y' (fun r h' => xj y G nx ls (pushR r st) h' k' n')) 0 ls0 [] h 0 0) : xj y G pc ls (As.reverse ++ st) h k n := by
  intro E p l e s m args below meth c H locs la C hH hS hl
  obtain ⟨hx, hb, hr, hml, hown, hts, hlk, hK, hbs, hnm, hNo, hex⟩ := id C
  obtain ⟨d, rfl⟩ := d
  subst hk; subst hn
  obtain ⟨host, cf1, cf2⟩ := cf
  have hM := met_of_X E l ok he hlen K
  refine x_after C hS hl (st := st) (rest := st.map (trv E)) rfl (va_runSN (host := host) (bytes := yB y') (maxL := yL y') (ret := yT y') (As := As.map (trv E)) (rest := st.map (trv E)) (n := np) ⟨hx, hb, hml, hown, hts⟩ hM ?_ ?_ rfl (by rw [List.length_map]; exact hAs) hl.1 ?_ (room_of hst) d ⟨hk2, hn2⟩)
  · refine ⟨⟨⟨rfl, rfl, rm.1, rm.2, pay_in hts (goodT ?_), List.mem_cons_self⟩, hts _ ok.2.1, hts _ ok.2.2.2.2, ok.2.2.1, ?_, va_Nw.use rfl (hNo.1 _ _ _ _ cf1)⟩, hts _ cf2, trivial⟩
    · intro w hw
      rcases List.mem_cons.mp hw with rfl | hw
      · exact ok.2.1
      · exact hw
    · intro sig h2
      have h3 := ok.2.2.2.1
      rw [h2] at h3
      exact (Option.some.inj h3).symm
  · exact ⟨blind_pc, fun U hU hW => ⟨rfl, by rw [hU]; exact hH, va_K.moved hW.alike hK, NOk.warm hW hNo⟩⟩
  · show (As.reverse ++ st).map (trv E) = _
    rw [List.map_append, List.map_reverse]
theorem x_callIN {y y' : YI} {G : GT} {pc nx : Nat} {ls ls0 : List (Option Value)} {st : List Value} {h : HS} {k n k' n' : Nat} {ix np b : Nat} {As : List Value} (d : Dc y pc (.invokespecial ix) 3 nx) (cf : CIN (yN y).cls ix y') (ok : YOK y' np) (hT : yT y' = none) (rm : rmOk y y') (hAs : As.length = np) (hlen : (entl (.ref b :: As)).length ≤ yL y') (he : ent0 y' (.ref b :: As) = ls0) (hst : (st.map fun v => v.category).sum ≤ 8) (b1 : 1 ≤ b)
    (hk : k + (yR y').cells = k') (hn : n + (yR y').slots = n') (hk2 : k' ≤ (yR y).cells) (hn2 : n' ≤ (yR y).slots)
    (K : xj y' (mG y' (fun r h' => xj y G nx ls (pushR r st) h' k' n')) 0 ls0 [] h 0 0) : xj y G pc ls (As.reverse ++ .ref b :: st) h k n := by
  intro E p l e s m args below meth c H locs la C hH hS hl
  obtain ⟨hx, hb, hr, hml, hown, hts, hlk, hK, hbs, hnm, hNo, hex⟩ := id C
  obtain ⟨d, rfl⟩ := d
  subst hk; subst hn
  obtain ⟨host, cf1, cf2, cf3⟩ := cf
  have hM := met_of_X E l ok he hlen K
  have okc := ok.2.1
  rw [hT] at okc
  have hin : Cond.code (yN y') (yB y') (yL y') none ∈ wsy y' := by unfold wsy; rw [hT]; exact List.mem_cons_self
  refine x_after C hS hl (st := st) (rest := st.map (trv E)) rfl (va_runIN (host := host) (b := E.1 + b) (As := As.map (trv E)) (rest := st.map (trv E)) (n := np) (bytes := yB y') (maxL := yL y') ⟨hx, hb, hml, hown, hts⟩ hM ?_ ?_ rfl (by rw [List.length_map]; exact hAs) hl.1 ?_ (room_of hst) d ⟨hk2, hn2⟩)
  · refine ⟨⟨⟨rfl, rfl, rm.1, rm.2, pay_in hts (goodT ?_), hin⟩, hts _ okc, hts _ ok.2.2.2.2, ok.2.2.1, ?_, va_Nw.use rfl (hNo.1 _ _ _ _ cf1)⟩, cf3, hts _ cf2⟩
    · intro w hw
      rcases List.mem_cons.mp hw with rfl | hw
      · exact ok.2.1
      · exact hw
    · intro sig h2
      have h3 := ok.2.2.2.1
      rw [h2] at h3
      exact (Option.some.inj h3).symm
  · exact ⟨blind_pc, fun U hU hW => ⟨by rw [List.map_cons, trv_ref b1], by rw [hU]; exact hH, va_K.moved hW.alike hK, NOk.warm hW hNo⟩⟩
  · show (As.reverse ++ .ref b :: st).map (trv E) = _
    rw [List.map_append, List.map_reverse, List.map_cons, trv_ref b1]
theorem x_callI {y y' : YI} {G : GT} {pc nx : Nat} {ls ls0 : List (Option Value)} {st : List Value} {h : HS} {k n k' n' : Nat} {ix np b : Nat} {As : List Value} (d : Dc y pc (.invokespecial ix) 3 nx) (cf : CI (yN y).cls ix y') (ok : YOK y' np) (hT : yT y' = none) (rm : rmOk y y') (hAs : As.length = np) (hlen : (entl (.ref b :: As)).length ≤ yL y') (he : ent0 y' (.ref b :: As) = ls0) (hst : (st.map fun v => v.category).sum ≤ 8) (b1 : 1 ≤ b)
    (hk : k + (yR y').cells = k') (hn : n + (yR y').slots = n') (hk2 : k' ≤ (yR y).cells) (hn2 : n' ≤ (yR y).slots)
    (K : xj y' (mG y' (fun r h' => xj y G nx ls (pushR r st) h' k' n')) 0 ls0 [] h 0 0) : xj y G pc ls (As.reverse ++ .ref b :: st) h k n := by
  intro E p l e s m args below meth c H locs la C hH hS hl
  obtain ⟨hx, hb, hr, hml, hown, hts, hlk, hK, hbs, hnm, hNo, hex⟩ := id C
  obtain ⟨d, rfl⟩ := d
  subst hk; subst hn
  obtain ⟨cf1, cf2, cf3⟩ := cf
  have hM := met_of_X E l ok he hlen K
  have okc := ok.2.1
  rw [hT] at okc
  have hin : Cond.code (yN y') (yB y') (yL y') none ∈ wsy y' := by unfold wsy; rw [hT]; exact List.mem_cons_self
  refine x_after C hS hl (st := st) (rest := st.map (trv E)) rfl (va_runI (b := E.1 + b) (As := As.map (trv E)) (rest := st.map (trv E)) (n := np) (bytes := yB y') (maxL := yL y') ⟨hx, hb, hml, hown, hts⟩ hM ?_ ?_ rfl (by rw [List.length_map]; exact hAs) hl.1 ?_ (room_of hst) d ⟨hk2, hn2⟩)
  · refine ⟨⟨rfl, rfl, rm.1, rm.2, pay_in hts (goodT ?_), hin, hts _ okc, hts _ ok.2.2.2.2, ok.2.2.1, ?_, hts _ cf1⟩, cf3, hts _ cf2⟩
    · intro w hw
      rcases List.mem_cons.mp hw with rfl | hw
      · exact ok.2.1
      · exact hw
    · intro sig h2
      have h3 := ok.2.2.2.1
      rw [h2] at h3
      exact (Option.some.inj h3).symm
  · exact ⟨blind_pc, fun U hU hW => ⟨by rw [List.map_cons, trv_ref b1], by rw [hU]; exact hH, va_K.moved hW.alike hK, NOk.warm hW hNo⟩⟩
  · show (As.reverse ++ .ref b :: st).map (trv E) = _
    rw [List.map_append, List.map_reverse, List.map_cons, trv_ref b1]
/-- the law's script -/
def GL (L : Nat) (xs : Nat → Int32) : GT := (fun E s args => args = #[.ref E.2.1] ∧ va_X E.2.1 L xs s s.heap ∧ E.2.1 < s.heap.size ∧ E.2.1 ≤ E.1, fun E s args below => lw_Z below args s)
theorem x_slen {y : YI} {pc nx : Nat} {ls : List (Option Value)} {st : List Value} {h : HS} {k n : Nat} {L : Nat} {xs : Nat → Int32} (d : Dc y pc .arraylength 1 nx) (K : xj y (GL L xs) nx ls (.int (Int32.ofNat L) :: st) h k n) : xj y (GL L xs) pc ls (.ref 0 :: st) h k n := by
  intro E p l e s m args below meth c H locs la C hH hS hl
  obtain ⟨hx, hb, hr, hml, hown, hts, hlk, hK, hbs, hnm, hNo, hex⟩ := id C
  obtain ⟨d, rfl⟩ := d
  obtain ⟨e1, e2, e3, e4⟩ := hex
  exact va_slen hx hb e2 e3 (Nat.not_lt.mpr e4) hS d (K E p l e s m args below meth c H locs la C hH hS hl)
theorem x_sld {y : YI} {pc nx : Nat} {ls : List (Option Value)} {st : List Value} {h : HS} {k n : Nat} {L : Nat} {xs : Nat → Int32} {i : Int32} (d : Dc y pc .iaload 1 nx) (hi : vp_in i L) (K : xj y (GL L xs) nx ls (.int (xs i.toNatClampNeg) :: st) h k n) : xj y (GL L xs) pc ls (.int i :: .ref 0 :: st) h k n := by
  intro E p l e s m args below meth c H locs la C hH hS hl
  obtain ⟨hx, hb, hr, hml, hown, hts, hlk, hK, hbs, hnm, hNo, hex⟩ := id C
  obtain ⟨d, rfl⟩ := d
  obtain ⟨e1, e2, e3, e4⟩ := hex
  exact va_sld hx hb e2 e3 (Nat.not_lt.mpr e4) hS hi d (K E p l e s m args below meth c H locs la C hH hS hl)
end
