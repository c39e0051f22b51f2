-- ===== PART A: goes FIRST, ahead of the names: the tables' words, and 'selects' of the private methods out of them =====
/-- a private method of a class that the tables say can be made, by its rows of tables_1 -/
def lw_okq (q : MethodName × Nat) : Prop := (q.1.cls ≠ "java/lang/invoke/MethodHandle" ∧ q.1.cls ≠ "java/lang/invoke/VarHandle") ∧ Cond.instantiable q.1.cls q.2 ∈ tables_1 ∧ Cond.privateMethod q.1 ∈ tables_1 ∧ Cond.instanceMethod q.1 ∈ tables_1
theorem lw_p0 : lw_okq (⟨"java/lang/Throwable", "fillInStackTrace", "(I)Ljava/lang/Throwable;"⟩, 6) := ⟨⟨by decide +kernel, by decide +kernel⟩, List.mem_of_getElem? (i := 136) (by decide +kernel), List.mem_of_getElem? (i := 134) (by decide +kernel), List.mem_of_getElem? (i := 135) (by decide +kernel)⟩
theorem lw_p1 : lw_okq (⟨"TesseraeRow", "needLot", "(I)LTesseraeRow$Lot;"⟩, 6) := ⟨⟨by decide +kernel, by decide +kernel⟩, List.mem_of_getElem? (i := 15) (by decide +kernel), List.mem_of_getElem? (i := 228) (by decide +kernel), List.mem_of_getElem? (i := 229) (by decide +kernel)⟩
theorem lw_p2 : lw_okq (⟨"TesseraeRow", "needCell", "(III)LTesseraeRow$Cell;"⟩, 6) := ⟨⟨by decide +kernel, by decide +kernel⟩, List.mem_of_getElem? (i := 15) (by decide +kernel), List.mem_of_getElem? (i := 336) (by decide +kernel), List.mem_of_getElem? (i := 337) (by decide +kernel)⟩
theorem lw_p3 : lw_okq (⟨"TesseraeRow", "needPicture", "(I)LTesseraeRow$Picture;"⟩, 6) := ⟨⟨by decide +kernel, by decide +kernel⟩, List.mem_of_getElem? (i := 15) (by decide +kernel), List.mem_of_getElem? (i := 340) (by decide +kernel), List.mem_of_getElem? (i := 341) (by decide +kernel)⟩
theorem lw_p4 : lw_okq (⟨"TesseraeRow$Picture", "fillRound", "(I)I"⟩, 4) := ⟨⟨by decide +kernel, by decide +kernel⟩, List.mem_of_getElem? (i := 256) (by decide +kernel), List.mem_of_getElem? (i := 379) (by decide +kernel), List.mem_of_getElem? (i := 380) (by decide +kernel)⟩
theorem lw_p5 : lw_okq (⟨"TesseraeRow$Picture", "fillCell", "(LTesseraeRow$Cell;I)Z"⟩, 4) := ⟨⟨by decide +kernel, by decide +kernel⟩, List.mem_of_getElem? (i := 256) (by decide +kernel), List.mem_of_getElem? (i := 383) (by decide +kernel), List.mem_of_getElem? (i := 384) (by decide +kernel)⟩
theorem lw_p6 : lw_okq (⟨"TesseraeRow$Picture", "forgetBrought", "()V"⟩, 4) := ⟨⟨by decide +kernel, by decide +kernel⟩, List.mem_of_getElem? (i := 256) (by decide +kernel), List.mem_of_getElem? (i := 403) (by decide +kernel), List.mem_of_getElem? (i := 404) (by decide +kernel)⟩
theorem lw_p7 : lw_okq (⟨"TesseraeRow$Picture", "passOn", "(LTesseraeRow$Cell;F)V"⟩, 4) := ⟨⟨by decide +kernel, by decide +kernel⟩, List.mem_of_getElem? (i := 256) (by decide +kernel), List.mem_of_getElem? (i := 425) (by decide +kernel), List.mem_of_getElem? (i := 426) (by decide +kernel)⟩
theorem lw_p8 : lw_okq (⟨"TesseraeRow$Picture", "bringTo", "(IIF)V"⟩, 4) := ⟨⟨by decide +kernel, by decide +kernel⟩, List.mem_of_getElem? (i := 256) (by decide +kernel), List.mem_of_getElem? (i := 430) (by decide +kernel), List.mem_of_getElem? (i := 431) (by decide +kernel)⟩
theorem lw_p9 : lw_okq (⟨"TesseraeRow", "needCrew", "(I)LTesseraeRow$Crew;"⟩, 6) := ⟨⟨by decide +kernel, by decide +kernel⟩, List.mem_of_getElem? (i := 15) (by decide +kernel), List.mem_of_getElem? (i := 464) (by decide +kernel), List.mem_of_getElem? (i := 465) (by decide +kernel)⟩
theorem lw_p10 : lw_okq (⟨"TesseraeRow$Crew", "layNext", "(I)Z"⟩, 7) := ⟨⟨by decide +kernel, by decide +kernel⟩, List.mem_of_getElem? (i := 28) (by decide +kernel), List.mem_of_getElem? (i := 513) (by decide +kernel), List.mem_of_getElem? (i := 514) (by decide +kernel)⟩
theorem lw_p11 : lw_okq (⟨"TesseraeRowModel", "asked", "(ZZ)Z"⟩, 26) := ⟨⟨by decide +kernel, by decide +kernel⟩, List.mem_of_getElem? (i := 592) (by decide +kernel), List.mem_of_getElem? (i := 691) (by decide +kernel), List.mem_of_getElem? (i := 692) (by decide +kernel)⟩
theorem lw_p12 : lw_okq (⟨"TesseraeRowModel", "isLot", "(I)Z"⟩, 26) := ⟨⟨by decide +kernel, by decide +kernel⟩, List.mem_of_getElem? (i := 592) (by decide +kernel), List.mem_of_getElem? (i := 700) (by decide +kernel), List.mem_of_getElem? (i := 701) (by decide +kernel)⟩
theorem lw_p13 : lw_okq (⟨"TesseraeRowModel", "left", "(I)I"⟩, 26) := ⟨⟨by decide +kernel, by decide +kernel⟩, List.mem_of_getElem? (i := 592) (by decide +kernel), List.mem_of_getElem? (i := 704) (by decide +kernel), List.mem_of_getElem? (i := 705) (by decide +kernel)⟩
theorem lw_p14 : lw_okq (⟨"TesseraeRowModel", "isCell", "(III)Z"⟩, 26) := ⟨⟨by decide +kernel, by decide +kernel⟩, List.mem_of_getElem? (i := 592) (by decide +kernel), List.mem_of_getElem? (i := 716) (by decide +kernel), List.mem_of_getElem? (i := 717) (by decide +kernel)⟩
theorem lw_p15 : lw_okq (⟨"TesseraeRowModel", "isPicture", "(I)Z"⟩, 26) := ⟨⟨by decide +kernel, by decide +kernel⟩, List.mem_of_getElem? (i := 592) (by decide +kernel), List.mem_of_getElem? (i := 720) (by decide +kernel), List.mem_of_getElem? (i := 721) (by decide +kernel)⟩
def lw_privs_1 : List (MethodName × Nat) := [(⟨"java/lang/Throwable", "fillInStackTrace", "(I)Ljava/lang/Throwable;"⟩, 6), (⟨"TesseraeRow", "needLot", "(I)LTesseraeRow$Lot;"⟩, 6), (⟨"TesseraeRow", "needCell", "(III)LTesseraeRow$Cell;"⟩, 6), (⟨"TesseraeRow", "needPicture", "(I)LTesseraeRow$Picture;"⟩, 6), (⟨"TesseraeRow$Picture", "fillRound", "(I)I"⟩, 4), (⟨"TesseraeRow$Picture", "fillCell", "(LTesseraeRow$Cell;I)Z"⟩, 4), (⟨"TesseraeRow$Picture", "forgetBrought", "()V"⟩, 4), (⟨"TesseraeRow$Picture", "passOn", "(LTesseraeRow$Cell;F)V"⟩, 4), (⟨"TesseraeRow$Picture", "bringTo", "(IIF)V"⟩, 4), (⟨"TesseraeRow", "needCrew", "(I)LTesseraeRow$Crew;"⟩, 6), (⟨"TesseraeRow$Crew", "layNext", "(I)Z"⟩, 7), (⟨"TesseraeRowModel", "asked", "(ZZ)Z"⟩, 26), (⟨"TesseraeRowModel", "isLot", "(I)Z"⟩, 26), (⟨"TesseraeRowModel", "left", "(I)I"⟩, 26), (⟨"TesseraeRowModel", "isCell", "(III)Z"⟩, 26), (⟨"TesseraeRowModel", "isPicture", "(I)Z"⟩, 26)]
theorem lw_r1 : ∀ q ∈ lw_privs_1, lw_okq q := List.forall_mem_cons.mpr ⟨lw_p0, List.forall_mem_cons.mpr ⟨lw_p1, List.forall_mem_cons.mpr ⟨lw_p2, List.forall_mem_cons.mpr ⟨lw_p3, List.forall_mem_cons.mpr ⟨lw_p4, List.forall_mem_cons.mpr ⟨lw_p5, List.forall_mem_cons.mpr ⟨lw_p6, List.forall_mem_cons.mpr ⟨lw_p7, List.forall_mem_cons.mpr ⟨lw_p8, List.forall_mem_cons.mpr ⟨lw_p9, List.forall_mem_cons.mpr ⟨lw_p10, List.forall_mem_cons.mpr ⟨lw_p11, List.forall_mem_cons.mpr ⟨lw_p12, List.forall_mem_cons.mpr ⟨lw_p13, List.forall_mem_cons.mpr ⟨lw_p14, List.forall_mem_cons.mpr ⟨lw_p15, fun _ h => absurd h List.not_mem_nil⟩⟩⟩⟩⟩⟩⟩⟩⟩⟩⟩⟩⟩⟩⟩⟩
theorem lw_p16 : lw_okq (⟨"TesseraeRowModel", "asked", "(ZZZ)Z"⟩, 26) := ⟨⟨by decide +kernel, by decide +kernel⟩, List.mem_of_getElem? (i := 592) (by decide +kernel), List.mem_of_getElem? (i := 727) (by decide +kernel), List.mem_of_getElem? (i := 728) (by decide +kernel)⟩
theorem lw_p17 : lw_okq (⟨"TesseraeRowModel", "count", "(II)I"⟩, 26) := ⟨⟨by decide +kernel, by decide +kernel⟩, List.mem_of_getElem? (i := 592) (by decide +kernel), List.mem_of_getElem? (i := 735) (by decide +kernel), List.mem_of_getElem? (i := 736) (by decide +kernel)⟩
theorem lw_p18 : lw_okq (⟨"TesseraeRowModel", "asked", "(Z)Z"⟩, 26) := ⟨⟨by decide +kernel, by decide +kernel⟩, List.mem_of_getElem? (i := 592) (by decide +kernel), List.mem_of_getElem? (i := 743) (by decide +kernel), List.mem_of_getElem? (i := 744) (by decide +kernel)⟩
theorem lw_p19 : lw_okq (⟨"TesseraeRowModel", "nearest", "(F)I"⟩, 26) := ⟨⟨by decide +kernel, by decide +kernel⟩, List.mem_of_getElem? (i := 592) (by decide +kernel), List.mem_of_getElem? (i := 751) (by decide +kernel), List.mem_of_getElem? (i := 752) (by decide +kernel)⟩
theorem lw_p20 : lw_okq (⟨"TesseraeRowModel", "passesOn", "(IIIF)V"⟩, 26) := ⟨⟨by decide +kernel, by decide +kernel⟩, List.mem_of_getElem? (i := 592) (by decide +kernel), List.mem_of_getElem? (i := 758) (by decide +kernel), List.mem_of_getElem? (i := 759) (by decide +kernel)⟩
theorem lw_p21 : lw_okq (⟨"TesseraeRowModel", "brings", "(IIIF)V"⟩, 26) := ⟨⟨by decide +kernel, by decide +kernel⟩, List.mem_of_getElem? (i := 592) (by decide +kernel), List.mem_of_getElem? (i := 763) (by decide +kernel), List.mem_of_getElem? (i := 764) (by decide +kernel)⟩
theorem lw_p22 : lw_okq (⟨"TesseraeRowModel", "onTray", "(I)I"⟩, 26) := ⟨⟨by decide +kernel, by decide +kernel⟩, List.mem_of_getElem? (i := 592) (by decide +kernel), List.mem_of_getElem? (i := 789) (by decide +kernel), List.mem_of_getElem? (i := 790) (by decide +kernel)⟩
theorem lw_p23 : lw_okq (⟨"TesseraeRowModel", "lays", "(I)Z"⟩, 26) := ⟨⟨by decide +kernel, by decide +kernel⟩, List.mem_of_getElem? (i := 592) (by decide +kernel), List.mem_of_getElem? (i := 801) (by decide +kernel), List.mem_of_getElem? (i := 802) (by decide +kernel)⟩
theorem lw_p24 : lw_okq (⟨"TesseraeRowModel", "isDry", "(II)Z"⟩, 26) := ⟨⟨by decide +kernel, by decide +kernel⟩, List.mem_of_getElem? (i := 592) (by decide +kernel), List.mem_of_getElem? (i := 805) (by decide +kernel), List.mem_of_getElem? (i := 806) (by decide +kernel)⟩
theorem lw_p25 : lw_okq (⟨"TesseraeRowModel", "apart", "(II)F"⟩, 26) := ⟨⟨by decide +kernel, by decide +kernel⟩, List.mem_of_getElem? (i := 592) (by decide +kernel), List.mem_of_getElem? (i := 835) (by decide +kernel), List.mem_of_getElem? (i := 836) (by decide +kernel)⟩
theorem lw_p26 : lw_okq (⟨"TesseraeRowModel", "toneOf", "(I)F"⟩, 26) := ⟨⟨by decide +kernel, by decide +kernel⟩, List.mem_of_getElem? (i := 592) (by decide +kernel), List.mem_of_getElem? (i := 839) (by decide +kernel), List.mem_of_getElem? (i := 840) (by decide +kernel)⟩
def lw_privs_2 : List (MethodName × Nat) := [(⟨"TesseraeRowModel", "asked", "(ZZZ)Z"⟩, 26), (⟨"TesseraeRowModel", "count", "(II)I"⟩, 26), (⟨"TesseraeRowModel", "asked", "(Z)Z"⟩, 26), (⟨"TesseraeRowModel", "nearest", "(F)I"⟩, 26), (⟨"TesseraeRowModel", "passesOn", "(IIIF)V"⟩, 26), (⟨"TesseraeRowModel", "brings", "(IIIF)V"⟩, 26), (⟨"TesseraeRowModel", "onTray", "(I)I"⟩, 26), (⟨"TesseraeRowModel", "lays", "(I)Z"⟩, 26), (⟨"TesseraeRowModel", "isDry", "(II)Z"⟩, 26), (⟨"TesseraeRowModel", "apart", "(II)F"⟩, 26), (⟨"TesseraeRowModel", "toneOf", "(I)F"⟩, 26)]
theorem lw_r2 : ∀ q ∈ lw_privs_2, lw_okq q := List.forall_mem_cons.mpr ⟨lw_p16, List.forall_mem_cons.mpr ⟨lw_p17, List.forall_mem_cons.mpr ⟨lw_p18, List.forall_mem_cons.mpr ⟨lw_p19, List.forall_mem_cons.mpr ⟨lw_p20, List.forall_mem_cons.mpr ⟨lw_p21, List.forall_mem_cons.mpr ⟨lw_p22, List.forall_mem_cons.mpr ⟨lw_p23, List.forall_mem_cons.mpr ⟨lw_p24, List.forall_mem_cons.mpr ⟨lw_p25, List.forall_mem_cons.mpr ⟨lw_p26, fun _ h => absurd h List.not_mem_nil⟩⟩⟩⟩⟩⟩⟩⟩⟩⟩⟩
def lw_privs : List (MethodName × Nat) := lw_privs_1 ++ (lw_privs_2)
def lw_tbl : List Cond := k2_sels lw_privs ++ tables_1
theorem lw_privs_ok : ∀ q ∈ lw_privs, lw_okq q := by
  show ∀ q ∈ lw_privs_1 ++ (lw_privs_2), lw_okq q
  exact List.forall_mem_append.mpr ⟨lw_r1, lw_r2⟩
/-- the streams that the claim lets the run draw from -/
abbrev lw_cs : List Choice := [Jvm.Choice.named "NaN.bits"]
theorem lw_bits : nanBits ∈ lw_cs := by first | decide | exact List.mem_cons_self | simp [lw_cs, nanBits]
/-! ===== BEGIN words of one list among another's, by their places ===== -/
theorem goodIn_r {big : List Cond} (ws : List Cond) (ps : List Nat) (hp : ws = ps.filterMap (fun i => big[i]?)) (h : ws.all goodWord = true) : GoodIn big ws := by
  intro w hw
  have h1 := List.all_eq_true.mp h w hw
  rw [hp] at hw
  obtain ⟨i, -, hi⟩ := List.mem_filterMap.mp hw
  have hm : w ∈ big := by first | exact List.mem_of_getElem? hi | exact List.getElem?_mem hi
  exact ⟨hm, good_of_word h1⟩
theorem goodIn_app {big a b : List Cond} (ha : GoodIn big a) (hb : GoodIn big b) : GoodIn big (a ++ b) := fun w h => (List.mem_append.mp h).elim (ha w) (hb w)
theorem goodIn_ca {big a b : List Cond} {c : Cond} (ha : GoodIn big (c :: a)) (hb : GoodIn big b) : GoodIn big (c :: (a ++ b)) := fun w h => (List.mem_cons.mp h).elim (fun e => ha w (List.mem_cons.mpr (Or.inl e))) (fun h => (List.mem_append.mp h).elim (fun h => ha w (List.mem_cons.mpr (Or.inr h))) (hb w))
theorem goodIn_sub {big ws : List Cond} (hm : ∀ w ∈ ws, w ∈ big) (h : ws.all goodWord = true) : GoodIn big ws := fun w hw => ⟨hm w hw, good_of_word (List.all_eq_true.mp h w hw)⟩
/-! ===== END ===== -/

/-! ===== BEGIN exceptions that leave a method, and their catching by the caller (launches without stack traces) ===== -/
section VXA
/-! The laws vx_back, vx_callV, vx_callS, vx_callSW, vx_throw0, vx_throwS follow proofs of the library, with one case more: JvmDerived/Free/Laws.lean (Back.of_free), Shelf42/LK1.lean (callV, callS), Shelf/KitTraced.lean (throwNew0V, throwNewS). -/
/-- where a method has thrown q: the class by its name, the cell, what was written, the world -/
def vx_T (XC : String → State → State → Prop) (st : State) (q : Addr) (t : State) (mc ms : Nat) (free : Addr → Prop) : Prop :=
  ∃ (E : String) (ce : Cell) (L : List Loc), XC E st t ∧ t.heap[q]? = some ce ∧ ce.vm = .none ∧ st.vm.findClass E = some ce.cls ∧ st.WarmedH t.vm ∧ st.sameButNew ({ t with vm := st.vm } : State) L mc ms ∧ ∀ z ∈ L, free z.base
def vx_Q (Qc : Array Value → State → Outcome → State → Prop) (XC : String → State → State → Prop) (mc ms : Nat) (free : Addr → Prop) : Array Value → State → Outcome → State → Prop := fun a st o t =>
  (Qc a st o t ∧ ∃ L, FrameEnd st o t L mc ms ∧ ∀ q ∈ L, free q.base) ∨ ∃ q, o = .threw q ∧ vx_T XC st q t mc ms free
/-- a callee that returns or throws -/
def vx_Met (l : Launch) (y : MethodName) (ws : List Cond) (rm : Room) (Pc : Array Value → State → Prop) (Qc : Array Value → State → Outcome → State → Prop) (XC : String → State → State → Prop) (mc ms : Nat) (free : Addr → Prop) : Prop :=
  MetFree l y (headSpec ws rm) Pc (fun _ _ _ _ _ => True) (vx_Q Qc XC mc ms free)
def vx_Post (XC : String → State → State → Prop) (mc ms : Nat) (free : Addr → Prop) : Pt → Array Value → Addr → Pt → Prop := fun A a q B =>
  ∃ (g : JFrame) (mk : MethodId) (t : State) (L : List Loc) (E : String) (ce : Cell), B.U.heap = t.heap ∧ B.U.vm = t.vm ∧ XC E (A.U.calling g mk a) t ∧ t.heap[q]? = some ce ∧ ce.vm = .none ∧ A.U.vm.findClass E = some ce.cls ∧ B.locs = A.locs ++ L ∧ (∀ z ∈ L, free z.base) ∧ B.cells = A.cells + mc ∧ B.slots = A.slots + ms
def vx_Back (l : Launch) (R : Room) (p : Program) (e : Env) (below : List Frame) (s : State) (sargs : Array Value) (y : MethodName) (len W9 : Nat)
    (Pre : Pt → Array Value → Prop) (Post : Pt → Array Value → Option Value → Pt → Prop) (PostX : Pt → Array Value → Addr → Pt → Prop) : Prop :=
  ∀ (m : MethodId) (meth : Method) (c : Code) (A : Pt) (g : JFrame) (ig : Instr) (mk : MethodId) (a : Array Value),
    Stand p l e R s m sargs below meth c A.U A.locs A.cells A.slots → g.method = m → g.locals.size = c.maxLocals → decode c.code g.pc = .ok (ig, len) →
    2 * g.monitorRoom + (g.stack.map fun v => v.category).sum ≤ W9 → A.U.methodNamed? y = some mk → Pre A a →
    (∃ (v : Option Value) (B : Pt), Stand p l e R s m sargs below meth c B.U B.locs B.cells B.slots ∧ Post A a v B ∧
      Steps p.tables e below (doInvoke e (A.U.setTop g) [] mk a).1 (B.U.setTop { g with pc := g.pc + len, stack := v.toList ++ g.stack })) ∨
    (∃ (q : Addr) (B : Pt), Stand p l e R s m sargs below meth c B.U B.locs B.cells B.slots ∧ PostX A a q B ∧
      Steps p.tables e below (doInvoke e (A.U.setTop g) [] mk a).1 ((B.U.setTop g).pushFrame (.throwing q)))
section Payer
variable {l : Launch} {R : Room} {p : Program} {e : Env} {below : List Frame} {s : State} {sargs : Array Value} {y : MethodName} {len W9 : Nat}
theorem vx_back {ws : List Cond} {rm : Room} {Pc : Array Value → State → Prop} {Qc : Array Value → State → Outcome → State → Prop} {XC : String → State → State → Prop} {mc ms : Nat} {free : Addr → Prop} {bytes : ByteArray} {maxL : Nat} {ret : Option FieldType}
    (hM : vx_Met l y ws rm Pc Qc XC mc ms free) (hblind : FrameBlind Pc) (hrc : rm.cells = mc) (hrs : rm.slots = ms)
    (hframes : rm.frames + 1 ≤ R.frames) (hlocals : W9 + (maxL + 11) + rm.locals ≤ R.locals)
    (hws : ∀ w ∈ ws, ∀ a' U, s.WarmedH U.vm → w.before a' U = true) (hcode : Cond.code y bytes maxL ret ∈ ws) (hinit : ∀ a' U, s.WarmedH U.vm → (Cond.initialized y.cls).before a' U = true) :
    vx_Back l R p e below s sargs y len W9 (PreOf R mc ms Pc) (PostOf Qc mc ms free) (vx_Post XC mc ms free) := by
  intro m meth c A g ig mk a X hg hsize hdg hW hn hp
  have h1 : (headSpec ws rm).pre.before a A.U = true := atoms_intro fun w hw => hws w hw _ _ X.warmed
  have h2 : (Cond.code y bytes maxL ret).before a A.U = true := hws _ hcode _ _ X.warmed
  have h3 : (Cond.initialized y.cls).before a A.U = true := hinit _ _ X.warmed
  have h4 : A.cells + (headSpec ws rm).room.cells ≤ R.cells := by rw [show (headSpec ws rm).room.cells = mc from hrc]; exact hp.1
  have h5 : A.slots + (headSpec ws rm).room.slots ≤ R.slots := by rw [show (headSpec ws rm).room.slots = ms from hrs]; exact hp.2.1
  have hPc : Pc a (A.U.calling g mk a) := hblind _ _ _ _ hp.2.2
  obtain ⟨U, Ls, c0, s0⟩ := A
  dsimp only [Pt.U, Pt.locs, Pt.cells, Pt.slots] at h1 h2 h3 h4 h5 X hn hPc ⊢
  obtain ⟨methY, cY, hmY, hcY, -, hlY, -, -, -, -⟩ := Cond.code_spec hn h2
  obtain ⟨kY, hkY, -⟩ := className_of_methodNamed hn
  have hinitY : kY.init = .initialized := Cond.initialized_spec (findClass_of_methodNamed hn) hkY h3
  have h : At U g.method c below := by rw [hg]; exact X.here
  have hlocals9 : W9 + (maxL + 11) + (headSpec ws rm).room.locals ≤ R.locals := hlocals
  have happ : (headSpec ws rm).appliesLoose y e.platform (U.calling g mk a) = true :=
    Spec.appliesLoose_calling (g := g) h hdg hn hkY hinitY
      (X.room_calling (g := g) (R' := (headSpec ws rm).room) hsize hmY hcY hframes (by rw [hlY]; omega) h4 h5) h1
  obtain ⟨mid, hmid⟩ := h.above
  have hfr : (U.setTop g).frames = (.java g :: mid) ++ below := by rw [State.frames_setTop' g h.top, hmid]; rfl
  obtain ⟨o, s₂, hsteps, -, hend, hq⟩ := Steps.callFree hM p X.admits X.cas X.clock (acts := []) hfr happ hPc trivial
  have hq' : vx_Q Qc XC mc ms free a (U.calling g mk a) o s₂ := hq
  rw [State.frames_setTop' g h.top] at hend
  obtain ⟨g₀, hg0⟩ := Option.isSome_iff_exists.mp h.top
  obtain ⟨r, hr⟩ := State.topJava?_eq_some.mp hg0
  have hr' : (({ U with heap := s₂.heap, slotsUsed := s₂.slotsUsed } : State).setVm s₂.vm).frames = .java g₀ :: r := hr
  rcases hq' with ⟨hqc, L, hfe, hL⟩ | ⟨q, rfl, E, ce, L, hx, hce, hcv, hcl, hW₂, hsm, hL⟩
  · obtain ⟨⟨v, rfl⟩, hW₂, e2, q2, q3, q4, q5, q6⟩ := id hfe
    have e3 : s₂ = ({ (U.calling g mk a).setFrames s₂.frames with heap := s₂.heap, slotsUsed := s₂.slotsUsed } : State).setVm s₂.vm := by
      have : s₂ = ({ s₂ with vm := (U.calling g mk a).vm } : State).setVm s₂.vm := rfl
      rw [e2] at this
      exact this
    obtain ⟨c₂, i₂, len₂, hc₂, hd₂, hf₂⟩ := hend
    have hW' : U.WarmedH s₂.vm := hW₂
    have hcc : c₂ = c := by
      have h1 : s₂.code? g.method = U.code? g.method := by
        rw [State.code?_eq, State.code?_eq, hW'.alike.method?]
      exact Option.some.inj (hc₂.symm.trans (h1.trans h.code))
    subst hcc
    have hlen : len₂ = len := by rw [hdg] at hd₂; cases hd₂; rfl
    subst hlen
    have hs₂ : s₂ = (({ U with heap := s₂.heap, slotsUsed := s₂.slotsUsed } : State).setVm s₂.vm).setTop { g with pc := g.pc + len₂, stack := v.toList ++ g.stack } := by
      refine e3.trans ?_
      rw [hf₂, State.calling_eq h.top, State.setFrames_setFrames, State.setTop_of_frames _ hr', hr]
      rfl
    have hsame : U.sameButNew ({ U with heap := s₂.heap, slotsUsed := s₂.slotsUsed } : State) L mc ms := by
      refine ⟨?_, q2, q3, q4, q5, q6⟩
      obtain ⟨t, ht, -⟩ := State.frames_cons hr
      show ({ U with heap := s₂.heap, slotsUsed := s₂.slotsUsed } : State) = { U.setFrames U.frames with heap := s₂.heap, slotsUsed := s₂.slotsUsed }
      rw [State.setFrames_self ht]
    subst hg
    refine Or.inl ⟨v, ⟨(({ U with heap := s₂.heap, slotsUsed := s₂.slotsUsed } : State).setVm s₂.vm), Ls ++ L, c0 + mc, s0 + ms⟩,
      ⟨X.admits, X.cas, X.clock, X.frames, X.room, X.hears, X.method, X.code, (X.here.setHeapUsed s₂.heap s₂.slotsUsed).setVm hW'.alike, X.tail, State.WarmedH.trans X.warmed hW', X.limits, X.bytes, X.same.trans (hsame.setVm s.vm)⟩,
      ⟨g, mk, s₂, L, rfl, rfl, hqc, rfl, hL, rfl, rfl⟩, ?_⟩
    show Steps p.tables e below _ ((({ U with heap := s₂.heap, slotsUsed := s₂.slotsUsed } : State).setVm s₂.vm).setTop { g with pc := g.pc + len₂, stack := v.toList ++ g.stack })
    rw [← hs₂]
    exact hsteps
  · obtain ⟨e2, q2, q3, q4, q5, q6⟩ := id hsm
    have e3 : s₂ = ({ (U.calling g mk a).setFrames s₂.frames with heap := s₂.heap, slotsUsed := s₂.slotsUsed } : State).setVm s₂.vm := by
      have : s₂ = ({ s₂ with vm := (U.calling g mk a).vm } : State).setVm s₂.vm := rfl
      rw [e2] at this
      exact this
    have hf₂ : s₂.frames = .throwing q :: .java g :: U.frames.tail := hend
    have hW' : U.WarmedH s₂.vm := hW₂
    have hs₂ : s₂ = ((({ U with heap := s₂.heap, slotsUsed := s₂.slotsUsed } : State).setVm s₂.vm).setTop g).pushFrame (.throwing q) := by
      refine e3.trans ?_
      rw [hf₂, State.calling_eq h.top, State.setFrames_setFrames, State.pushFrame, State.frames_setTop _ hr', State.setTop_of_frames _ hr', State.setFrames_setFrames, hr]
      rfl
    have hsame : U.sameButNew ({ U with heap := s₂.heap, slotsUsed := s₂.slotsUsed } : State) L mc ms := by
      refine ⟨?_, q2, q3, q4, q5, q6⟩
      obtain ⟨t, ht, -⟩ := State.frames_cons hr
      show ({ U with heap := s₂.heap, slotsUsed := s₂.slotsUsed } : State) = { U.setFrames U.frames with heap := s₂.heap, slotsUsed := s₂.slotsUsed }
      rw [State.setFrames_self ht]
    subst hg
    refine Or.inr ⟨q, ⟨(({ U with heap := s₂.heap, slotsUsed := s₂.slotsUsed } : State).setVm s₂.vm), Ls ++ L, c0 + mc, s0 + ms⟩,
      ⟨X.admits, X.cas, X.clock, X.frames, X.room, X.hears, X.method, X.code, (X.here.setHeapUsed s₂.heap s₂.slotsUsed).setVm hW'.alike, X.tail, State.WarmedH.trans X.warmed hW', X.limits, X.bytes, X.same.trans (hsame.setVm s.vm)⟩,
      ⟨g, mk, s₂, L, E, ce, rfl, rfl, hx, hce, hcv, hcl, rfl, hL, rfl, rfl⟩, ?_⟩
    show Steps p.tables e below _ (((({ U with heap := s₂.heap, slotsUsed := s₂.slotsUsed } : State).setVm s₂.vm).setTop g).pushFrame (.throwing q))
    rw [← hs₂]
    exact hsteps
end Payer
section Calls
variable {p : Program} {l : Launch} {e : Env} {R : Room} {s : State} {m : MethodId} {args : Array Value} {below : List Frame} {meth : Method} {c : Code} {T : State} {locs : List Loc} {cells slots : Nat}
theorem vx_callV (X : Stand p l e R s m args below meth c T locs cells slots) (hexec : p.tables.exec = Jvm.exec) {own C : String} {index : Nat} {y : MethodName} {bytes : ByteArray} {maxL : Nat} {ret : Option FieldType}
    (hown : s.vm.findClass own = some m.cls) (hlink : (Cond.methodLink own index y).before args s = true) (hinst : (Cond.instanceMethod y).before args s = true) (hsel : (Cond.selects C y y).before args s = true)
    (hcode : (Cond.code y bytes maxL ret).before args s = true) (hy : y.cls ≠ "java/lang/invoke/MethodHandle" ∧ y.cls ≠ "java/lang/invoke/VarHandle")
    {W9 : Nat} {Pre : Pt → Array Value → Prop} {Post : Pt → Array Value → Option Value → Pt → Prop} {PostX : Pt → Array Value → Addr → Pt → Prop} (hK : vx_Back l R p e below s args y 3 W9 Pre Post PostX)
    {b : Addr} {cellB : Cell} (hcell : T.heap[b]? = some cellB) (hobj : cellB.vm.isStatics = false) (hcls : s.vm.findClass C = some cellB.cls)
    {g : JFrame} (hg : g.method = m) (hsize : g.locals.size = c.maxLocals) {argsL rest : List Value} (hlen : ∀ sig, parseMethodDescriptor y.desc = some sig → argsL.length = sig.parameters.length)
    (hstack : g.stack = argsL.reverse ++ .ref b :: rest) (hW : 2 * g.monitorRoom + (rest.map fun v => v.category).sum ≤ W9) (hdg : decode c.code g.pc = .ok (.invokevirtual index, 3))
    (hpre : ∀ vm₁, s.WarmedH vm₁ → Pre ⟨T.setVm vm₁, locs, cells, slots⟩ (Value.ref b :: argsL).toArray) :
    (∃ (v : Option Value) (vm₁ : Vm) (B : Pt), s.WarmedH vm₁ ∧ Stand p l e R s m args below meth c B.U B.locs B.cells B.slots ∧ Post ⟨T.setVm vm₁, locs, cells, slots⟩ (Value.ref b :: argsL).toArray v B ∧
      ∀ target, Steps p.tables e below (B.U.setTop { g with pc := g.pc + 3, stack := v.toList ++ rest }) target → Steps p.tables e below (T.setTop g) target) ∨
    (∃ (q : Addr) (vm₁ : Vm) (B : Pt), s.WarmedH vm₁ ∧ Stand p l e R s m args below meth c B.U B.locs B.cells B.slots ∧ PostX ⟨T.setVm vm₁, locs, cells, slots⟩ (Value.ref b :: argsL).toArray q B ∧
      Steps p.tables e below (T.setTop g) ((B.U.setTop { g with stack := rest }).pushFrame (.throwing q))) := by
  obtain ⟨mk, methM, hnamed, hmethM, hstM, habM⟩ := Cond.instanceMethod_spec hinst
  obtain ⟨methM', cM, hmethM', -, -, -, -, -, -, hsigM⟩ := Cond.code_spec hnamed hcode
  cases hmethM.symm.trans hmethM'
  obtain ⟨c2, r2, m2, q1, q2, q3, q4, kP, hkP, hkPi⟩ := Cond.selects_spec hsel
  cases hcls.symm.trans q1
  cases (State.methodFound?_of_named hnamed hy).symm.trans q2
  cases hnamed.symm.trans q3
  have hselP : selectMethod e.platform s.vm cellB.cls mk = .method mk := by rw [Launch.admits_selectMethod X.admits]; exact q4
  obtain ⟨vm₁, X₁, hstep₁⟩ := X.invokevirtual hexec hown hlink hnamed hmethM hstM hkP hkPi hy (a := b) (cell := cellB) hcell
    (fun z h => by rw [h] at hobj; cases hobj) hselP hmethM habM hkP hkPi (g := g) hg (argsL := argsL) (rest := rest) (hlen _ hsigM) hstack hdg
  rcases hK m meth c ⟨T.setVm vm₁, locs, cells, slots⟩ { g with stack := rest } (.invokevirtual index) mk (Value.ref b :: argsL).toArray X₁ hg hsize hdg hW (X₁.named hnamed) (hpre vm₁ X₁.warmed) with ⟨v, B, X', hpost, hsteps⟩ | ⟨q, B, X', hpost, hsteps⟩
  · exact Or.inl ⟨v, vm₁, B, X₁.warmed, X', hpost, fun target h => hstep₁ _ fun acts => by rw [doInvoke_state]; exact hsteps.trans h⟩
  · exact Or.inr ⟨q, vm₁, B, X₁.warmed, X', hpost, hstep₁ _ fun acts => by rw [doInvoke_state]; exact hsteps⟩
theorem vx_callS (X : Stand p l e R s m args below meth c T locs cells slots) (hexec : p.tables.exec = Jvm.exec) {own : String} {index : Nat} {y : MethodName} {bytes : ByteArray} {maxL : Nat} {ret : Option FieldType}
    (hown : s.vm.findClass own = some m.cls) (hlink : (Cond.methodLink own index y).before args s = true) (hstat : (Cond.static y).before args s = true) (hinit : (Cond.initialized y.cls).before args s = true)
    (hcode : (Cond.code y bytes maxL ret).before args s = true) (hy : y.cls ≠ "java/lang/invoke/MethodHandle" ∧ y.cls ≠ "java/lang/invoke/VarHandle")
    {W9 : Nat} {Pre : Pt → Array Value → Prop} {Post : Pt → Array Value → Option Value → Pt → Prop} {PostX : Pt → Array Value → Addr → Pt → Prop} (hK : vx_Back l R p e below s args y 3 W9 Pre Post PostX)
    {g : JFrame} (hg : g.method = m) (hsize : g.locals.size = c.maxLocals) {argsL rest : List Value} (hlen : ∀ sig, parseMethodDescriptor y.desc = some sig → argsL.length = sig.parameters.length)
    (hstack : g.stack = argsL.reverse ++ rest) (hW : 2 * g.monitorRoom + (rest.map fun v => v.category).sum ≤ W9) (hdg : decode c.code g.pc = .ok (.invokestatic index, 3))
    (hpre : ∀ vm₁, s.WarmedH vm₁ → Pre ⟨T.setVm vm₁, locs, cells, slots⟩ argsL.toArray) :
    (∃ (v : Option Value) (vm₁ : Vm) (B : Pt), s.WarmedH vm₁ ∧ Stand p l e R s m args below meth c B.U B.locs B.cells B.slots ∧ Post ⟨T.setVm vm₁, locs, cells, slots⟩ argsL.toArray v B ∧
      ∀ target, Steps p.tables e below (B.U.setTop { g with pc := g.pc + 3, stack := v.toList ++ rest }) target → Steps p.tables e below (T.setTop g) target) ∨
    (∃ (q : Addr) (vm₁ : Vm) (B : Pt), s.WarmedH vm₁ ∧ Stand p l e R s m args below meth c B.U B.locs B.cells B.slots ∧ PostX ⟨T.setVm vm₁, locs, cells, slots⟩ argsL.toArray q B ∧
      Steps p.tables e below (T.setTop g) ((B.U.setTop { g with stack := rest }).pushFrame (.throwing q))) := by
  obtain ⟨mk, hnamed⟩ := Cond.code_named hcode
  obtain ⟨methM, cM, hmethM, -, -, -, -, -, -, hsigM⟩ := Cond.code_spec hnamed hcode
  have hstatic : methM.isStatic = true := Cond.static_spec hnamed hmethM hstat
  obtain ⟨kP, hkP, -⟩ := className_of_methodNamed hnamed
  have hinitP : kP.init = .initialized := Cond.initialized_spec (findClass_of_methodNamed hnamed) hkP hinit
  obtain ⟨vm₁, X₁, hstep₁⟩ := X.invokestatic hexec hown hlink hnamed hmethM hstatic hkP hinitP hy (g := g) hg (argsL := argsL) (rest := rest) (hlen _ hsigM) hstack hdg
  rcases hK m meth c ⟨T.setVm vm₁, locs, cells, slots⟩ { g with stack := rest } (.invokestatic index) mk argsL.toArray X₁ hg hsize hdg hW (X₁.named hnamed) (hpre vm₁ X₁.warmed) with ⟨v, B, X', hpost, hsteps⟩ | ⟨q, B, X', hpost, hsteps⟩
  · exact Or.inl ⟨v, vm₁, B, X₁.warmed, X', hpost, fun target h => hstep₁ _ fun acts => by rw [doInvoke_state]; exact hsteps.trans h⟩
  · exact Or.inr ⟨q, vm₁, B, X₁.warmed, X', hpost, hstep₁ _ fun acts => by rw [doInvoke_state]; exact hsteps⟩
end Calls
theorem vx_cls {s : State} {T : State} {vm₁ : Vm} {E : String} {k : ClassId} (hW : s.WarmedH vm₁) (h : (T.setVm vm₁).vm.findClass E = some k) : s.vm.findClass E = some k := by
  have h1 : vm₁.findClass E = some k := h
  rw [hW.alike.findClass] at h1
  exact h1
/-- the method's frame g, with q thrown over it -/
def vx_W (p : Program) (l : Launch) (e : Env) (R : Room) (s : State) (m : MethodId) (args : Array Value) (below : List Frame) (meth : Method) (c : Code) (H : Heap) (locs : List Loc) (cells slots : Nat) (Q : State → Prop) (g : JFrame) (q : Addr) : Prop :=
  ∀ T : State, T.heap = H → Stand p l e R s m args below meth c T locs cells slots → ∃ t, Steps p.tables e below ((T.setTop g).pushFrame (.throwing q)) t ∧ Q t
def vx_Run (p : Program) (l : Launch) (e : Env) (R : Room) (s : State) (m : MethodId) (args : Array Value) (below : List Frame) (meth : Method) (c : Code) (H : Heap) (locs : List Loc) (cells slots mc ms : Nat) (g : JFrame) (rest : List Value) (Qa : State → Outcome → State → Prop) (XC : String → State → State → Prop) (free : Addr → Prop) : Prop :=
  ∀ T : State, T.heap = H → Stand p l e R s m args below meth c T locs cells slots →
    (∃ (v : Option Value) (st₀ t T' : State) (L : List Loc), st₀.heap = H ∧ Stand p l e R s m args below meth c T' (locs ++ L) (cells + mc) (slots + ms) ∧ (∀ q ∈ L, free q.base) ∧ T'.heap = t.heap ∧ T'.vm = t.vm ∧ Qa st₀ (.returned v) t ∧
      Goes p e below T g T' { g with pc := g.pc + 3, stack := v.toList ++ rest }) ∨
    (∃ (q : Addr) (st₀ t T' : State) (L : List Loc) (E : String) (ce : Cell), st₀.heap = H ∧ Stand p l e R s m args below meth c T' (locs ++ L) (cells + mc) (slots + ms) ∧ (∀ z ∈ L, free z.base) ∧ T'.heap = t.heap ∧ T'.vm = t.vm ∧ XC E st₀ t ∧ t.heap[q]? = some ce ∧ ce.vm = .none ∧ s.vm.findClass E = some ce.cls ∧
      Steps p.tables e below (T.setTop g) ((T'.setTop { g with stack := rest }).pushFrame (.throwing q)))
def vx_X {S : Type} (px : S → Prop) (B : String → S → State → Prop) (A : Nat → Prop) : String → State → State → Prop := fun E st t => ∃ u : S, px u ∧ B E u t ∧ va_F A st t
section Runs
variable {p : Program} {l : Launch} {e : Env} {R : Room} {s : State} {m : MethodId} {args : Array Value} {below : List Frame} {meth : Method} {c : Code} {H : Heap} {locs : List Loc} {cells slots : Nat}
variable {y : MethodName} {bytes cc : ByteArray} {maxL nL mc ms n index : Nat} {ret : Option FieldType} {ws : List Cond} {rm : Room} {Pc : Array Value → State → Prop} {Qc : Array Value → State → Outcome → State → Prop} {XC : String → State → State → Prop} {free : Addr → Prop} {Ts : List Cond} {own C : String} {b : Addr} {As rest : List Value} {g : JFrame}
theorem vx_callBack (cb : CallB R s args own index y bytes maxL ret ws rm mc ms n) (hM : vx_Met l y ws rm Pc Qc XC mc ms free) (hbl : FrameBlind Pc) : vx_Back l R p e below s args y 3 8 (PreOf R mc ms Pc) (PostOf Qc mc ms free) (vx_Post XC mc ms free) := by
  obtain ⟨hrc, hrs, hfr, hlo, hws, hcw, -, hini, -⟩ := cb
  exact vx_back (bytes := bytes) (maxL := maxL) (ret := ret) hM hbl hrc hrs hfr hlo hws hcw (fun a' U hW => word_at hW (Or.inl (by first | rfl | simp [Cond.onTables, Cond.keeps, Cond.steady])) hini)
theorem vx_runV (S : CallFix p m c cc nL s args Ts own) (hM : vx_Met l y ws rm Pc Qc XC mc ms free) (cw : CallW R s args own C index y bytes maxL ret ws rm mc ms n) (hp : PreV s H C b Pc As)
    (hg : g.method = m) (hn : As.length = n) (hsize : g.locals.size = nL) (hstack : g.stack = As.reverse ++ .ref b :: rest) (hW : 2 * g.monitorRoom + (rest.map fun v => v.category).sum ≤ 8) (hdg : decode cc g.pc = .ok (.invokevirtual index, 3)) (hf : cells + mc ≤ R.cells ∧ slots + ms ≤ R.slots) :
    vx_Run p l e R s m args below meth c H locs cells slots mc ms g rest (Qc (Value.ref b :: As).toArray) XC free := by
  have hK : vx_Back l R p e below s args y 3 8 (PreOf R mc ms Pc) (PostOf Qc mc ms free) (vx_Post XC mc ms free) := vx_callBack cw.1 hM hp.1
  obtain ⟨⟨-, -, -, -, -, -, hcode, -, hy, hlen, hl⟩, hin, hse⟩ := cw
  obtain ⟨hx, hb, hml, ho, -⟩ := S
  obtain ⟨-, ⟨cellB, hcB, hoB, hclB⟩, hPc⟩ := hp
  intro T hT X
  rcases vx_callV X hx (C := C) (bytes := bytes) (maxL := maxL) (ret := ret) ho hl hin hse hcode hy hK (by rw [hT]; exact hcB) hoB hclB hg (hsize.trans hml.symm) (argsL := As) (rest := rest) (fun sig h => hn.trans (hlen sig h)) hstack hW (by rw [hb]; exact hdg)
    (fun vm₁ hW₁ => ⟨hf.1, hf.2, hPc (T.setVm vm₁) hT hW₁⟩) with ⟨v, vm₁, ⟨U', l2, c2, s2⟩, hW₁, X', ⟨g', mk, t, L, e1, e2, hq, h1, hL, h2, h3⟩, st⟩ | ⟨q, vm₁, ⟨U', l2, c2, s2⟩, hW₁, X', ⟨g', mk, t, L, E, ce, e1, e2, hq, hce, hcv, hcl, h1, hL, h2, h3⟩, st⟩
  · dsimp only [Pt.U, Pt.locs, Pt.cells, Pt.slots] at X' e1 e2 h1 h2 h3 st
    subst h1; subst h2; subst h3
    exact Or.inl ⟨v, (T.setVm vm₁).calling g' mk (Value.ref b :: As).toArray, t, U', L, hT, X', hL, e1, e2, hq, st⟩
  · dsimp only [Pt.U, Pt.locs, Pt.cells, Pt.slots] at X' e1 e2 h1 h2 h3 st hcl
    subst h1; subst h2; subst h3
    exact Or.inr ⟨q, (T.setVm vm₁).calling g' mk (Value.ref b :: As).toArray, t, U', L, E, ce, hT, X', hL, e1, e2, hq, hce, hcv, vx_cls hW₁ hcl, st⟩
theorem vx_runS (S : CallFix p m c cc nL s args Ts own) (hM : vx_Met l y ws rm Pc Qc XC mc ms free) (cw : CallB R s args own index y bytes maxL ret ws rm mc ms n ∧ (Cond.static y).before args s = true) (hp : PreS s H Pc As)
    (hg : g.method = m) (hn : As.length = n) (hsize : g.locals.size = nL) (hstack : g.stack = As.reverse ++ rest) (hW : 2 * g.monitorRoom + (rest.map fun v => v.category).sum ≤ 8) (hdg : decode cc g.pc = .ok (.invokestatic index, 3)) (hf : cells + mc ≤ R.cells ∧ slots + ms ≤ R.slots) :
    vx_Run p l e R s m args below meth c H locs cells slots mc ms g rest (Qc As.toArray) XC free := by
  have hK : vx_Back l R p e below s args y 3 8 (PreOf R mc ms Pc) (PostOf Qc mc ms free) (vx_Post XC mc ms free) := vx_callBack cw.1 hM hp.1
  obtain ⟨⟨-, -, -, -, -, -, hcode, hini, hy, hlen, hl⟩, hstt⟩ := cw
  obtain ⟨hx, hb, hml, ho, -⟩ := S
  intro T hT X
  rcases vx_callS X hx (bytes := bytes) (maxL := maxL) (ret := ret) ho hl hstt hini hcode hy hK hg (hsize.trans hml.symm) (argsL := As) (rest := rest) (fun sig h => hn.trans (hlen sig h)) hstack hW (by rw [hb]; exact hdg)
    (fun vm₁ hW₁ => ⟨hf.1, hf.2, hp.2 (T.setVm vm₁) hT hW₁⟩) with ⟨v, vm₁, ⟨U', l2, c2, s2⟩, hW₁, X', ⟨g', mk, t, L, e1, e2, hq, h1, hL, h2, h3⟩, st⟩ | ⟨q, vm₁, ⟨U', l2, c2, s2⟩, hW₁, X', ⟨g', mk, t, L, E, ce, e1, e2, hq, hce, hcv, hcl, h1, hL, h2, h3⟩, st⟩
  · dsimp only [Pt.U, Pt.locs, Pt.cells, Pt.slots] at X' e1 e2 h1 h2 h3 st
    subst h1; subst h2; subst h3
    exact Or.inl ⟨v, (T.setVm vm₁).calling g' mk As.toArray, t, U', L, hT, X', hL, e1, e2, hq, st⟩
  · dsimp only [Pt.U, Pt.locs, Pt.cells, Pt.slots] at X' e1 e2 h1 h2 h3 st hcl
    subst h1; subst h2; subst h3
    exact Or.inr ⟨q, (T.setVm vm₁).calling g' mk As.toArray, t, U', L, E, ce, hT, X', hL, e1, e2, hq, hce, hcv, vx_cls hW₁ hcl, st⟩
end Runs
section Rows
variable {p : Program} {l : Launch} {e : Env} {R : Room} {s : State} {m : MethodId} {args : Array Value} {below : List Frame} {meth : Method} {c : Code} {H : Heap} {locs : List Loc} {cells slots : Nat} {Q : State → Prop}
variable {mc ms : Nat} {free : Addr → Prop} {A0 A1 : Nat → Prop} {H0 : Heap} {a : Array Value} {pc : Nat} {ls : Array Slot} {st0 rest : List Value}
theorem vx_keep {st₀ t T' : State} {L : List Loc} (h0 : st₀.heap = H) (e1 : T'.heap = t.heap) (hS : va_S A0 H0 H locs) (hA : ∀ q, q < H.size → A1 q → A0 q) (hf : ∀ q, free q → A0 q) (hL : ∀ q ∈ L, free q.base) (hF : va_F A1 st₀ t) :
    H.size ≤ T'.heap.size ∧ (∀ q : Nat, q < H.size → ¬ A1 q → T'.heap[q]? = H[q]?) ∧ va_S A0 H0 T'.heap (locs ++ L) := by
  obtain ⟨hz, hk⟩ := hF
  rw [h0] at hz hk
  exact ⟨by rw [e1]; exact hz, fun q h1 h2 => by rw [e1]; exact hk q h1 h2,
    ⟨Nat.le_trans hS.1 (by rw [e1]; exact hz), fun q h1 h2 => by rw [e1, hk q (Nat.lt_of_lt_of_le h1 hS.1) (fun z => h2 (hA q (Nat.lt_of_lt_of_le h1 hS.1) z))]; exact hS.2.1 q h1 h2, fun q hq => by
      rcases List.mem_append.mp hq with h | h
      · exact hS.2.2 q h
      · exact hf _ (hL q h)⟩⟩
theorem vx_calli {S SX : Type} {post : Int32 → S → Prop} {px : SX → Prop} {B : S → State → Prop} {BX : String → SX → State → Prop} {AX : Nat → Prop} (hr : vx_Run p l e R s m args below meth c H locs cells slots mc ms (F0 m pc ls st0) rest (va_Qi post B A1 a) (vx_X px BX AX) free) (hS : va_S A0 H0 H locs) (hA : ∀ q, q < H.size → A1 q → A0 q) (hf : ∀ q, free q → A0 q) (hAX : ∀ q, q < H.size → AX q → A0 q)
    (kx : ∀ (E : String) (ce : Cell) (q9 : Addr) (u : SX) (t : State) (H1 : Heap) (locs1 : List Loc), t.heap = H1 → s.vm.Alike t.vm → px u → BX E u t → H.size ≤ H1.size → (∀ q : Nat, q < H.size → ¬ AX q → H1[q]? = H[q]?) → va_S A0 H0 H1 locs1 → H1[q9]? = some ce → ce.vm = .none → s.vm.findClass E = some ce.cls → vx_W p l e R s m args below meth c H1 locs1 (cells + mc) (slots + ms) Q (F0 m pc ls rest) q9)
    (kk : ∀ (r : Int32) (u : S) (t : State) (H1 : Heap) (locs1 : List Loc), t.heap = H1 → s.vm.Alike t.vm → post r u → B u t → H.size ≤ H1.size → (∀ q : Nat, q < H.size → ¬ A1 q → H1[q]? = H[q]?) → va_S A0 H0 H1 locs1 → W p l e R s m args below meth c H1 locs1 (cells + mc) (slots + ms) Q (F0 m (pc + 3) ls (.int r :: rest))) : W p l e R s m args below meth c H locs cells slots Q (F0 m pc ls st0) := by
  intro T hT X
  rcases hr T hT X with ⟨v, st₀, t, T', L, h0, X', hL, e1, e2, ⟨⟨r, u, hv, hp, hb⟩, hF⟩, st⟩ | ⟨q, st₀, t, T', L, E, ce, h0, X', hL, e1, e2, ⟨u, hp, hb, hF⟩, hce, hcv, hcl, st⟩
  · cases hv
    obtain ⟨k1, k2, k3⟩ := vx_keep h0 e1 hS hA hf hL hF
    obtain ⟨t2, a1, b1⟩ := kk r u t T'.heap (locs ++ L) e1.symm (by rw [← e2]; exact X'.warmed.alike) hp hb k1 k2 k3 T' rfl X'
    exact ⟨t2, st t2 a1, b1⟩
  · obtain ⟨k1, k2, k3⟩ := vx_keep h0 e1 hS hAX hf hL hF
    obtain ⟨t2, a1, b1⟩ := kx E ce q u t T'.heap (locs ++ L) e1.symm (by rw [← e2]; exact X'.warmed.alike) hp hb k1 k2 k3 (by rw [e1]; exact hce) hcv hcl T' rfl X'
    exact ⟨t2, st.trans a1, b1⟩
theorem vx_calll {S SX : Type} {post : Int64 → S → Prop} {px : SX → Prop} {B : S → State → Prop} {BX : String → SX → State → Prop} {AX : Nat → Prop} (hr : vx_Run p l e R s m args below meth c H locs cells slots mc ms (F0 m pc ls st0) rest (va_Ql post B A1 a) (vx_X px BX AX) free) (hS : va_S A0 H0 H locs) (hA : ∀ q, q < H.size → A1 q → A0 q) (hf : ∀ q, free q → A0 q) (hAX : ∀ q, q < H.size → AX q → A0 q)
    (kx : ∀ (E : String) (ce : Cell) (q9 : Addr) (u : SX) (t : State) (H1 : Heap) (locs1 : List Loc), t.heap = H1 → s.vm.Alike t.vm → px u → BX E u t → H.size ≤ H1.size → (∀ q : Nat, q < H.size → ¬ AX q → H1[q]? = H[q]?) → va_S A0 H0 H1 locs1 → H1[q9]? = some ce → ce.vm = .none → s.vm.findClass E = some ce.cls → vx_W p l e R s m args below meth c H1 locs1 (cells + mc) (slots + ms) Q (F0 m pc ls rest) q9)
    (kk : ∀ (r : Int64) (u : S) (t : State) (H1 : Heap) (locs1 : List Loc), t.heap = H1 → s.vm.Alike t.vm → post r u → B u t → H.size ≤ H1.size → (∀ q : Nat, q < H.size → ¬ A1 q → H1[q]? = H[q]?) → va_S A0 H0 H1 locs1 → W p l e R s m args below meth c H1 locs1 (cells + mc) (slots + ms) Q (F0 m (pc + 3) ls (.long r :: rest))) : W p l e R s m args below meth c H locs cells slots Q (F0 m pc ls st0) := by
  intro T hT X
  rcases hr T hT X with ⟨v, st₀, t, T', L, h0, X', hL, e1, e2, ⟨⟨r, u, hv, hp, hb⟩, hF⟩, st⟩ | ⟨q, st₀, t, T', L, E, ce, h0, X', hL, e1, e2, ⟨u, hp, hb, hF⟩, hce, hcv, hcl, st⟩
  · cases hv
    obtain ⟨k1, k2, k3⟩ := vx_keep h0 e1 hS hA hf hL hF
    obtain ⟨t2, a1, b1⟩ := kk r u t T'.heap (locs ++ L) e1.symm (by rw [← e2]; exact X'.warmed.alike) hp hb k1 k2 k3 T' rfl X'
    exact ⟨t2, st t2 a1, b1⟩
  · obtain ⟨k1, k2, k3⟩ := vx_keep h0 e1 hS hAX hf hL hF
    obtain ⟨t2, a1, b1⟩ := kx E ce q u t T'.heap (locs ++ L) e1.symm (by rw [← e2]; exact X'.warmed.alike) hp hb k1 k2 k3 (by rw [e1]; exact hce) hcv hcl T' rfl X'
    exact ⟨t2, st.trans a1, b1⟩
theorem vx_callf {S SX : Type} {post : UInt32 → S → Prop} {px : SX → Prop} {B : S → State → Prop} {BX : String → SX → State → Prop} {AX : Nat → Prop} (hr : vx_Run p l e R s m args below meth c H locs cells slots mc ms (F0 m pc ls st0) rest (va_Qf post B A1 a) (vx_X px BX AX) free) (hS : va_S A0 H0 H locs) (hA : ∀ q, q < H.size → A1 q → A0 q) (hf : ∀ q, free q → A0 q) (hAX : ∀ q, q < H.size → AX q → A0 q)
    (kx : ∀ (E : String) (ce : Cell) (q9 : Addr) (u : SX) (t : State) (H1 : Heap) (locs1 : List Loc), t.heap = H1 → s.vm.Alike t.vm → px u → BX E u t → H.size ≤ H1.size → (∀ q : Nat, q < H.size → ¬ AX q → H1[q]? = H[q]?) → va_S A0 H0 H1 locs1 → H1[q9]? = some ce → ce.vm = .none → s.vm.findClass E = some ce.cls → vx_W p l e R s m args below meth c H1 locs1 (cells + mc) (slots + ms) Q (F0 m pc ls rest) q9)
    (kk : ∀ (r : UInt32) (u : S) (t : State) (H1 : Heap) (locs1 : List Loc), t.heap = H1 → s.vm.Alike t.vm → post r u → B u t → H.size ≤ H1.size → (∀ q : Nat, q < H.size → ¬ A1 q → H1[q]? = H[q]?) → va_S A0 H0 H1 locs1 → W p l e R s m args below meth c H1 locs1 (cells + mc) (slots + ms) Q (F0 m (pc + 3) ls (.float r :: rest))) : W p l e R s m args below meth c H locs cells slots Q (F0 m pc ls st0) := by
  intro T hT X
  rcases hr T hT X with ⟨v, st₀, t, T', L, h0, X', hL, e1, e2, ⟨⟨r, u, hv, hp, hb⟩, hF⟩, st⟩ | ⟨q, st₀, t, T', L, E, ce, h0, X', hL, e1, e2, ⟨u, hp, hb, hF⟩, hce, hcv, hcl, st⟩
  · cases hv
    obtain ⟨k1, k2, k3⟩ := vx_keep h0 e1 hS hA hf hL hF
    obtain ⟨t2, a1, b1⟩ := kk r u t T'.heap (locs ++ L) e1.symm (by rw [← e2]; exact X'.warmed.alike) hp hb k1 k2 k3 T' rfl X'
    exact ⟨t2, st t2 a1, b1⟩
  · obtain ⟨k1, k2, k3⟩ := vx_keep h0 e1 hS hAX hf hL hF
    obtain ⟨t2, a1, b1⟩ := kx E ce q u t T'.heap (locs ++ L) e1.symm (by rw [← e2]; exact X'.warmed.alike) hp hb k1 k2 k3 (by rw [e1]; exact hce) hcv hcl T' rfl X'
    exact ⟨t2, st.trans a1, b1⟩
theorem vx_calld {S SX : Type} {post : UInt64 → S → Prop} {px : SX → Prop} {B : S → State → Prop} {BX : String → SX → State → Prop} {AX : Nat → Prop} (hr : vx_Run p l e R s m args below meth c H locs cells slots mc ms (F0 m pc ls st0) rest (va_Qd post B A1 a) (vx_X px BX AX) free) (hS : va_S A0 H0 H locs) (hA : ∀ q, q < H.size → A1 q → A0 q) (hf : ∀ q, free q → A0 q) (hAX : ∀ q, q < H.size → AX q → A0 q)
    (kx : ∀ (E : String) (ce : Cell) (q9 : Addr) (u : SX) (t : State) (H1 : Heap) (locs1 : List Loc), t.heap = H1 → s.vm.Alike t.vm → px u → BX E u t → H.size ≤ H1.size → (∀ q : Nat, q < H.size → ¬ AX q → H1[q]? = H[q]?) → va_S A0 H0 H1 locs1 → H1[q9]? = some ce → ce.vm = .none → s.vm.findClass E = some ce.cls → vx_W p l e R s m args below meth c H1 locs1 (cells + mc) (slots + ms) Q (F0 m pc ls rest) q9)
    (kk : ∀ (r : UInt64) (u : S) (t : State) (H1 : Heap) (locs1 : List Loc), t.heap = H1 → s.vm.Alike t.vm → post r u → B u t → H.size ≤ H1.size → (∀ q : Nat, q < H.size → ¬ A1 q → H1[q]? = H[q]?) → va_S A0 H0 H1 locs1 → W p l e R s m args below meth c H1 locs1 (cells + mc) (slots + ms) Q (F0 m (pc + 3) ls (.double r :: rest))) : W p l e R s m args below meth c H locs cells slots Q (F0 m pc ls st0) := by
  intro T hT X
  rcases hr T hT X with ⟨v, st₀, t, T', L, h0, X', hL, e1, e2, ⟨⟨r, u, hv, hp, hb⟩, hF⟩, st⟩ | ⟨q, st₀, t, T', L, E, ce, h0, X', hL, e1, e2, ⟨u, hp, hb, hF⟩, hce, hcv, hcl, st⟩
  · cases hv
    obtain ⟨k1, k2, k3⟩ := vx_keep h0 e1 hS hA hf hL hF
    obtain ⟨t2, a1, b1⟩ := kk r u t T'.heap (locs ++ L) e1.symm (by rw [← e2]; exact X'.warmed.alike) hp hb k1 k2 k3 T' rfl X'
    exact ⟨t2, st t2 a1, b1⟩
  · obtain ⟨k1, k2, k3⟩ := vx_keep h0 e1 hS hAX hf hL hF
    obtain ⟨t2, a1, b1⟩ := kx E ce q u t T'.heap (locs ++ L) e1.symm (by rw [← e2]; exact X'.warmed.alike) hp hb k1 k2 k3 (by rw [e1]; exact hce) hcv hcl T' rfl X'
    exact ⟨t2, st.trans a1, b1⟩
theorem vx_callv {S SX : Type} {post : S → Prop} {px : SX → Prop} {B : S → State → Prop} {BX : String → SX → State → Prop} {AX : Nat → Prop} (hr : vx_Run p l e R s m args below meth c H locs cells slots mc ms (F0 m pc ls st0) rest (va_Qv post B A1 a) (vx_X px BX AX) free) (hS : va_S A0 H0 H locs) (hA : ∀ q, q < H.size → A1 q → A0 q) (hf : ∀ q, free q → A0 q) (hAX : ∀ q, q < H.size → AX q → A0 q)
    (kx : ∀ (E : String) (ce : Cell) (q9 : Addr) (u : SX) (t : State) (H1 : Heap) (locs1 : List Loc), t.heap = H1 → s.vm.Alike t.vm → px u → BX E u t → H.size ≤ H1.size → (∀ q : Nat, q < H.size → ¬ AX q → H1[q]? = H[q]?) → va_S A0 H0 H1 locs1 → H1[q9]? = some ce → ce.vm = .none → s.vm.findClass E = some ce.cls → vx_W p l e R s m args below meth c H1 locs1 (cells + mc) (slots + ms) Q (F0 m pc ls rest) q9)
    (kk : ∀ (u : S) (t : State) (H1 : Heap) (locs1 : List Loc), t.heap = H1 → s.vm.Alike t.vm → post u → B u t → H.size ≤ H1.size → (∀ q : Nat, q < H.size → ¬ A1 q → H1[q]? = H[q]?) → va_S A0 H0 H1 locs1 → W p l e R s m args below meth c H1 locs1 (cells + mc) (slots + ms) Q (F0 m (pc + 3) ls (rest))) : W p l e R s m args below meth c H locs cells slots Q (F0 m pc ls st0) := by
  intro T hT X
  rcases hr T hT X with ⟨v, st₀, t, T', L, h0, X', hL, e1, e2, ⟨⟨u, hv, hp, hb⟩, hF⟩, st⟩ | ⟨q, st₀, t, T', L, E, ce, h0, X', hL, e1, e2, ⟨u, hp, hb, hF⟩, hce, hcv, hcl, st⟩
  · cases hv
    obtain ⟨k1, k2, k3⟩ := vx_keep h0 e1 hS hA hf hL hF
    obtain ⟨t2, a1, b1⟩ := kk u t T'.heap (locs ++ L) e1.symm (by rw [← e2]; exact X'.warmed.alike) hp hb k1 k2 k3 T' rfl X'
    exact ⟨t2, st t2 a1, b1⟩
  · obtain ⟨k1, k2, k3⟩ := vx_keep h0 e1 hS hAX hf hL hF
    obtain ⟨t2, a1, b1⟩ := kx E ce q u t T'.heap (locs ++ L) e1.symm (by rw [← e2]; exact X'.warmed.alike) hp hb k1 k2 k3 (by rw [e1]; exact hce) hcv hcl T' rfl X'
    exact ⟨t2, st.trans a1, b1⟩
/-- caught by the row x of this method's table; the rows ahead don't take it -/
theorem vx_catch {own name : String} {E : String} {ce : Cell} {q : Addr} (hown : s.vm.findClass own = some m.cls) (pre : List ExceptionTableEntry) (x : ExceptionTableEntry) (suf : List ExceptionTableEntry) (hsplit : c.exceptionTable.toList = pre ++ x :: suf)
    (hpass : ∀ z ∈ pre, covers z pc = false ∨ (z.catchType ≠ 0 ∧ ∃ nm : String, (Cond.classLink own z.catchType nm).before args s = true ∧ va_Nc E nm s)) (hx : covers x pc = true) (h0 : x.catchType ≠ 0)
    (hlink : (Cond.classLink own x.catchType name).before args s = true) (hcast : (Cond.castable E name).before args s = true) (hcell : H[q]? = some ce) (hv : ce.vm = .none) (hcl : s.vm.findClass E = some ce.cls)
    (kk : W p l e R s m args below meth c H locs cells slots Q (F0 m x.handlerPc ls [.ref q])) : vx_W p l e R s m args below meth c H locs cells slots Q (F0 m pc ls rest) q := by
  intro T hT X
  have hpl : e.platform.magicAccessors = ({} : Platform).magicAccessors := by rw [X.admits.platform]
  obtain ⟨c3, c4, hc3, hc4, hasg⟩ := Cond.castable_spec hcast
  cases Option.some.inj (hc3.symm.trans hcl)
  obtain ⟨c5, hc5, hcl5⟩ := Cond.classLink_spec hown hlink e.platform hpl
  cases Option.some.inj (hc4.symm.trans hc5)
  obtain ⟨vm', X', st⟩ := X.thenCaughtThrough q (g := F0 m pc ls rest) rfl (Steps.refl _) (by rw [hT]; exact hcell) (by rw [hv]; rfl) (by obtain ⟨k9, h9, -⟩ := Vm.findClass_spec hcl; exact ⟨k9, h9⟩) pre x suf hsplit
    (fun z hz => by
      rcases hpass z hz with h | ⟨hz0, nm, hl1, hn1⟩
      · exact Or.inl h
      · obtain ⟨c6, hc6, hcl6⟩ := Cond.classLink_spec hown hl1 e.platform hpl
        obtain ⟨a8, b8, h1, h2, h3⟩ := hn1
        cases Option.some.inj (h1.symm.trans hcl)
        cases Option.some.inj (h2.symm.trans hc6)
        exact Or.inr ⟨hz0, _, hcl6, h3⟩) hx (Or.inr ⟨h0, c4, hcl5, hasg⟩)
  obtain ⟨t, a1, b1⟩ := kk (T.setVm vm') hT X'
  exact ⟨t, st.trans a1, b1⟩
end Rows
section Ends
variable {p : Program} {l : Launch} {e : Env} {R : Room} {s : State} {m : MethodId} {args : Array Value} {below : List Frame} {meth : Method} {c : Code} {H : Heap} {locs : List Loc} {cells slots : Nat} {Q : State → Prop}
variable {mc ms : Nat} {free : Addr → Prop} {A0 A1 : Nat → Prop} {H0 : Heap} {a : Array Value} {ls : Array Slot} {st0 rest : List Value}
variable {Qc : Array Value → State → Outcome → State → Prop} {XC : String → State → State → Prop}
/-- what a body that may throw owes at its end -/
def vx_MQ (below : List Frame) (Qc : Array Value → State → Outcome → State → Prop) (XC : String → State → State → Prop) (a : Array Value) (s : State) (mc ms : Nat) (free : Addr → Prop) : State → Prop := fun t =>
  ∃ o, t.status = .running ∧ Ended t below o ∧ vx_Q Qc XC mc ms free a s o t
theorem vx_ret {g : JFrame} {mc ms : Nat} (k : W p l e R s m args below meth c H locs cells slots (MQ below Qc args s mc ms free) g) : W p l e R s m args below meth c H locs cells slots (vx_MQ below Qc XC args s mc ms free) g := by
  intro T hT X
  obtain ⟨t, a1, o, b1, b2, b3, b4⟩ := k T hT X
  exact ⟨t, a1, o, b1, b2, Or.inl ⟨b3, b4⟩⟩
/-- not caught here: it goes on to the caller -/
theorem vx_widen {g : JFrame} {q : Addr} {k n : Nat} (h1 : cells ≤ k) (h2 : slots ≤ n) (kk : vx_W p l e R s m args below meth c H locs k n Q g q) : vx_W p l e R s m args below meth c H locs cells slots Q g q := fun T hT X => kk T hT (stand_widen X h1 h2)
theorem vx_out {pc : Nat} {E : String} {ce : Cell} {q : Addr} {mc ms : Nat} (hout : ∀ x ∈ c.exceptionTable.toList, covers x pc = false) (hlocks : meth.locks = false) (hcell : H[q]? = some ce) (hv : ce.vm = .none) (hcl : s.vm.findClass E = some ce.cls)
    (hx : ∀ t : State, t.heap = H → s.vm.Alike t.vm → XC E s t) (hf : ∀ z ∈ locs, free z.base) (hc : cells ≤ mc) (hs : slots ≤ ms) :
    vx_W p l e R s m args below meth c H locs cells slots (vx_MQ below Qc XC args s mc ms free) (F0 m pc ls rest) q := by
  intro T hT X
  obtain ⟨st1, hrun, hend, hW, hsm⟩ := X.leaveThrown q (g := F0 m pc ls rest) rfl rfl rfl hout hlocks
  have hcell9 : (T.setFrames (.throwing q :: below)).heap[q]? = some ce := by
    show T.heap[q]? = some ce
    rw [hT]; exact hcell
  exact ⟨_, st1, .threw q, hrun, hend, Or.inr ⟨q, rfl, E, ce, locs, hx _ hT hW.alike, hcell9, hv, hcl, hW, hsm.mono hc hs, hf⟩⟩
theorem vx_frame {U : State} {k n : Nat} (h : s.sameButNew ({ U with vm := s.vm } : State) locs k n) : s.heap.size ≤ U.heap.size ∧ ∀ q : Nat, q < s.heap.size → (∀ z ∈ locs, z.base ≠ q) → U.heap[q]? = s.heap[q]? := by
  obtain ⟨-, h2, -, -, -, h6⟩ := h
  refine ⟨h2, fun q hq hz => ?_⟩
  obtain ⟨c9, e1, e2, e3, e4⟩ := h6 q _ (Array.getElem?_eq_getElem hq)
  have hs : c9.slots = (s.heap[q]).slots := Array.ext_getElem? fun i => e4 i fun hm => hz _ hm rfl
  have h9 : c9 = s.heap[q] := by
    rw [hs] at e2
    exact e2
  have e5 : U.heap[q]? = some c9 := e1
  rw [e5, h9, Array.getElem?_eq_getElem hq]
/-- the words of a throw but the four that speak of the heap -/
def vx_no (w : Cond) : Bool := decide (w ≠ .isRef (.static Bundle.tN "UNASSIGNED_STACK" Bundle.steD)) && decide (w ≠ .isRef (.static Bundle.tN "SUPPRESSED_SENTINEL" Bundle.listD)) && decide (w ≠ .laysStatic Bundle.tN "UNASSIGNED_STACK" Bundle.steD) && decide (w ≠ .laysStatic Bundle.tN "SUPPRESSED_SENTINEL" Bundle.listD)
def vx_at0 (own : String) (ic : Nat) (X : String) (names : List String) : List Cond := (Bundle.ownAtoms0 own ic X names).filter vx_no
def vx_atS (own : String) (ic : Nat) (X : String) (names : List String) : List Cond := (Bundle.ownAtoms own ic X names).filter vx_no
/-- a word that the tables alone decide, or a good one -/
def vx_ot (w : Cond) : Bool := w.onTables || goodWord w
theorem vx_ot_at {args a' : Array Value} {s U : State} {w : Cond} (hW : s.WarmedH U.vm) (hvm : s.vm = U.vm) (hg : vx_ot w = true) (h : w.before args s = true) : w.before a' U = true := by
  simp only [vx_ot, Bool.or_eq_true] at hg
  rcases hg with hg | hg
  · exact va_tabs hg hvm h
  · exact word_at hW (good_of_word hg) h
/-- a list's words: the good ones out of the method's own list, the others by premises of their own -/
theorem vx_hat {args : Array Value} {s : State} {L B : List Cond} (h1 : ∀ w ∈ L.filter goodWord, w.before args s = true) (h2 : ∀ w ∈ L.filter (fun w => !goodWord w), w ∈ B) (h3 : ∀ w ∈ B, w.before args s = true) : ∀ w ∈ L, w.before args s = true := by
  intro w hw
  by_cases g : goodWord w = true
  · exact h1 w (List.mem_filter.mpr ⟨hw, g⟩)
  · refine h3 w (h2 w (List.mem_filter.mpr ⟨hw, ?_⟩))
    show (!goodWord w) = true
    cases hgw : goodWord w
    · rfl
    · exact absurd hgw g
theorem vx_c {args : Array Value} {s : State} {w : Cond} {B : List Cond} (h : w.before args s = true) (t : ∀ w ∈ B, w.before args s = true) : ∀ w' ∈ w :: B, w'.before args s = true := fun w' h' => (List.mem_cons.mp h').elim (fun e => by rw [e]; exact h) (t w')
theorem vx_n {args : Array Value} {s : State} : ∀ w ∈ ([] : List Cond), w.before args s = true := fun _ h => nomatch h
theorem vx_own {args : Array Value} {s : State} {L : List Cond} (h1 : ∀ w ∈ L.filter vx_no, w.before args s = true)
    (hU : (Cond.isRef (.static Bundle.tN "UNASSIGNED_STACK" Bundle.steD)).before args s = true) (hN : (Cond.isRef (.static Bundle.tN "SUPPRESSED_SENTINEL" Bundle.listD)).before args s = true)
    (lU : (Cond.laysStatic Bundle.tN "UNASSIGNED_STACK" Bundle.steD).before args s = true) (lN : (Cond.laysStatic Bundle.tN "SUPPRESSED_SENTINEL" Bundle.listD).before args s = true) : ∀ w ∈ L, w.before args s = true := by
  intro w hw
  by_cases e1 : w = .isRef (.static Bundle.tN "UNASSIGNED_STACK" Bundle.steD)
  · rw [e1]; exact hU
  · by_cases e2 : w = .isRef (.static Bundle.tN "SUPPRESSED_SENTINEL" Bundle.listD)
    · rw [e2]; exact hN
    · by_cases e3 : w = .laysStatic Bundle.tN "UNASSIGNED_STACK" Bundle.steD
      · rw [e3]; exact lU
      · by_cases e4 : w = .laysStatic Bundle.tN "SUPPRESSED_SENTINEL" Bundle.listD
        · rw [e4]; exact lN
        · exact h1 w (List.mem_filter.mpr ⟨hw, by unfold vx_no; rw [decide_eq_true e1, decide_eq_true e2, decide_eq_true e3, decide_eq_true e4]; rfl⟩)
/-- where a static field lies, its class's statics cell in H -/
def vx_L (C n d : String) (A : Nat → Prop) (U : State) (H : Heap) : Prop := ∃ (c : ClassId) (k : Class) (i : Nat) (f : Field) (a : Nat) (cell : Cell), U.vm.findClass C = some c ∧ U.fieldFound? C n d = some (c, k, i, f) ∧ f.isStatic = true ∧ k.statics = some a ∧ H[a]? = some cell ∧ cell.vm.isStatics = true ∧ cell.cls = c ∧ f.slot < cell.slots.size ∧ k.staticTypes[f.slot]? = some f.type ∧ ¬ A a
theorem vx_L.moved {C n d : String} {A : Nat → Prop} {u U : State} {H : Heap} (hvm : u.vm.Alike U.vm) (h : vx_L C n d A u H) : vx_L C n d A U H := by
  obtain ⟨c, k, i, f, a, cell, h1, h2, h3, h4, h5, h6, h7, h8, h9, h10⟩ := h
  obtain ⟨k', hi', he⟩ := State.fieldFound?_setVm hvm h2
  exact ⟨c, k', i, f, a, cell, by rw [hvm.findClass]; exact h1, hi', h3, by rw [he]; exact h4, h5, h6, h7, h8, by rw [he]; exact h9, h10⟩
theorem vx_L.kept {C n d : String} {A : Nat → Prop} {U : State} {H H1 : Heap} (h : vx_L C n d A U H) (hq : ∀ a : Nat, a < H.size → ¬ A a → H1[a]? = H[a]?) : vx_L C n d A U H1 := by
  obtain ⟨c, k, i, f, a, cell, h1, h2, h3, h4, h5, h6, h7, h8, h9, h10⟩ := h
  exact ⟨c, k, i, f, a, cell, h1, h2, h3, h4, by rw [hq a (Array.getElem?_eq_some_iff.mp h5).1 h10]; exact h5, h6, h7, h8, h9, h10⟩
theorem vx_L.narrow {C n d : String} {A B : Nat → Prop} {U : State} {H : Heap} (h : vx_L C n d A U H) (hAB : ∀ q, B q → A q) : vx_L C n d B U H := by
  obtain ⟨c, k, i, f, a, cell, h1, h2, h3, h4, h5, h6, h7, h8, h9, h10⟩ := h
  exact ⟨c, k, i, f, a, cell, h1, h2, h3, h4, h5, h6, h7, h8, h9, fun z => h10 (hAB _ z)⟩
theorem vx_L.word {C n d : String} {A : Nat → Prop} {s : State} {args : Array Value} (h : vx_L C n d A s s.heap) : (Cond.laysStatic C n d).before args s = true := by
  obtain ⟨c, k, i, f, a, cell, h1, h2, h3, h4, h5, h6, h7, h8, h9, -⟩ := h
  show (Cond.laysStatic C n d).holds args s none s [] = true
  exact Cond.laysStatic_of h1 h2 h3 h4 h5 h6 h7 h8 h9
/-- .. and what it holds: null or some reference -/
def vx_Zq (C n d : String) (A : Nat → Prop) (U : State) (H : Heap) : Prop := va_Zq C n d A U H ∧ vx_L C n d A U H
theorem vx_Zq.moved {C n d : String} {A : Nat → Prop} {u U : State} {H : Heap} (hvm : u.vm.Alike U.vm) (h : vx_Zq C n d A u H) : vx_Zq C n d A U H := ⟨va_Zq.moved hvm h.1, vx_L.moved hvm h.2⟩
theorem vx_Zq.kept {C n d : String} {A : Nat → Prop} {U : State} {H H1 : Heap} (h : vx_Zq C n d A U H) (hq : ∀ a : Nat, a < H.size → ¬ A a → H1[a]? = H[a]?) : vx_Zq C n d A U H1 := ⟨va_Zq.kept h.1 hq, vx_L.kept h.2 hq⟩
theorem vx_Zq.narrow {C n d : String} {A B : Nat → Prop} {U : State} {H : Heap} (h : vx_Zq C n d A U H) (hAB : ∀ q, B q → A q) : vx_Zq C n d B U H := ⟨va_Zq.narrow h.1 hAB, vx_L.narrow h.2 hAB⟩
theorem vx_Zqof {args : Array Value} {s : State} {C n d : String} {A : Nat → Prop} (hl : (Cond.laysStatic C n d).before args s = true) (hini : (Cond.initialized C).before args s = true) (h : (Cond.isRef (.static C n d)).before args s = true) (hA : ∀ a : Nat, a < s.heap.size → ¬ A a) : vx_Zq C n d A s s.heap := by
  refine ⟨va_Zqof hl hini h hA, ?_⟩
  obtain ⟨c, k, i, f, a, cell, h1, h2, h3, h4, h5, h6, h7, h8, h9⟩ := Cond.laysStatic_spec hl
  exact ⟨c, k, i, f, a, cell, h1, h2, h3, h4, h5, h6, h7, h8, h9, hA a (Array.getElem?_eq_some_iff.mp h5).1⟩
theorem vx_isRef {C n d : String} {v : Value} {A : Nat → Prop} {s : State} {args : Array Value} (h : va_Z C n d v A s s.heap) (hv : v.isRef = true) : (Cond.isRef (.static C n d)).before args s = true := by
  obtain ⟨cf, kf, fi, f, a, cell, h1, h2, h3, h4, h5, h6, h7, -⟩ := h
  have he : (Term.static C n d).eval args s none [] s = some v := by
    simp [Term.eval, State.fieldNamed?, h1, h2, h4, h5, h6, h7]
  simp only [Cond.before, Cond.holds, Cond.value, he]
  cases v <;> simp_all [Value.isRef]
theorem vx_isRefq {C n d : String} {A : Nat → Prop} {s : State} {args : Array Value} (h : va_Zq C n d A s s.heap) : (Cond.isRef (.static C n d)).before args s = true := by
  rcases h with h | ⟨t, h⟩
  · exact vx_isRef h rfl
  · exact vx_isRef h rfl
/-- the same frame, seen from here: as if the method were called anew in this heap -/
theorem vx_rebase {T : State} (X : Stand p l e R s m args below meth c T locs cells slots) {R' : Room} (hf : R'.frames ≤ R.frames) (hl : R'.locals ≤ R.locals) (hc : cells + R'.cells ≤ R.cells) (hs : slots + R'.slots ≤ R.slots) :
    Stand p l e R' ((T.setVm s.vm).setFrames (.invoking m args :: below)) m args below meth c T [] 0 0 := by
  have htop : (T.setVm s.vm).topJava?.isSome := X.here.top
  have hF : ((T.setVm s.vm).setFrames (.invoking m args :: below)).frames = .invoking m args :: below := State.frames_setFrames _ (State.cur_lt_of_top htop)
  obtain ⟨g₀, hg0⟩ := Option.isSome_iff_exists.mp htop
  obtain ⟨r, hr⟩ := State.topJava?_eq_some.mp hg0
  have hl9 : e.platform.stackLimits (T.setVm s.vm).me = e.platform.stackLimits s.me := X.limits
  have hb9 : (T.setVm s.vm).me.stackBytes = s.me.stackBytes := X.bytes
  refine ⟨X.admits, X.cas, X.clock, hF, ?_, X.hears, X.method, X.code, X.here, X.tail, X.warmed, ?_, ?_, ?_⟩
  · have h := X.room
    have hU : ((T.setVm s.vm).setFrames (.invoking m args :: below)).localsInUse = s.localsInUse := by
      rw [State.localsInUse_invoking hF (meth := meth) (c := c) X.method X.code, State.localsInUse_invoking X.frames X.method X.code]
    simp only [State.hasRoom, Bool.and_eq_true, decide_eq_true_eq] at h ⊢
    obtain ⟨⟨⟨⟨h1, h2, h3, h4, h5, h6⟩, h7⟩, h8⟩, h9⟩ := h
    rw [X.frames, List.length_cons] at h2 h3
    have q1 := X.heapSize
    have q2 := X.used
    simp only [hF, hU, List.length_cons, State.stackLimits_setFrames, State.stackBytes_setFrames, hl9, hb9]
    refine ⟨⟨⟨⟨by omega, by omega, by omega, by omega, by omega, h6⟩, ?_⟩, ?_⟩, X.book⟩
    · show T.heap.size + R'.cells ≤ e.platform.maxCells
      omega
    · show T.slotsUsed + R'.slots ≤ e.platform.maxSlots
      omega
  · rw [State.stackLimits_setFrames]; rfl
  · rw [State.stackBytes_setFrames]; rfl
  · refine ⟨?_, Nat.le_refl _, Nat.le_refl _, ?_, ?_, fun a c9 h9 => ⟨c9, h9, rfl, rfl, fun _ _ => rfl⟩⟩
    · obtain ⟨t, ht, -⟩ := State.frames_cons hr
      show T.setVm s.vm = { ((T.setVm s.vm).setFrames (.invoking m args :: below)).setFrames (T.setVm s.vm).frames with heap := T.heap, slotsUsed := T.slotsUsed }
      rw [State.setFrames_setFrames, State.setFrames_self ht]
      rfl
    · show T.slotsUsed = T.slotsUsed + ((T.heap.toList.drop T.heap.size).map (·.slots.size)).sum
      rw [List.drop_eq_nil_of_le (Nat.le_of_eq Array.length_toList)]
      rfl
    · show ((T.heap.toList.drop T.heap.size).map (·.slots.size)).sum ≤ 0
      rw [List.drop_eq_nil_of_le (Nat.le_of_eq Array.length_toList)]
      exact Nat.le_refl _
/-- 'throw new E()': new; dup; invokespecial; athrow -/
theorem vx_throw0 {cc : ByteArray} {pc : Nat} (hexec : p.tables.exec = Jvm.exec) (hb : c.code = cc) (hl : l.stackTraces = false) {own cls : String} {names : List String} {ik ic mc ms : Nat} {A : Nat → Prop}
    (hown : s.vm.findClass own = some m.cls) (hcls : Bundle.fit cls = true) (hnames : ∀ n ∈ names, Bundle.fit n = true)
    (hk : (Cond.classLink own ik cls).before args s = true) (hini : (Cond.initialized cls).before args s = true) (hat : ∀ w ∈ vx_at0 own ic cls names, w.before args s = true)
    (hgood : ∀ w ∈ Cond.classLink own ik cls :: Cond.initialized cls :: vx_at0 own ic cls names, vx_ot w = true)
    (hU : vx_Zq Bundle.tN "UNASSIGNED_STACK" Bundle.steD A s s.heap) (hN : vx_Zq Bundle.tN "SUPPRESSED_SENTINEL" Bundle.listD A s s.heap) (hS : va_S A s.heap H locs) (hsize : ls.size = c.maxLocals)
    (d0 : decode cc pc = .ok (.new ik, 3)) (d3 : decode cc (pc + 3) = .ok (.dup, 1)) (d4 : decode cc (pc + 4) = .ok (.invokespecial ic, 3)) (d7 : decode cc (pc + 7) = .ok (.athrow, 1))
    (hout : ∀ x ∈ c.exceptionTable.toList, covers x (pc + 7) = false)
    (hRframes : names.length + 3 < R.frames) (hRlocals : (rest.map fun v => v.category).sum + (13 * (names.length + 1) + 42) ≤ R.locals) (hRcells : cells + 1 ≤ R.cells) (hRslots : slots + 6 ≤ R.slots) (hlocks : meth.locks = false)
    (hx : ∀ t : State, s.vm.Alike t.vm → H.size ≤ t.heap.size → (∀ q : Nat, q < H.size → t.heap[q]? = H[q]?) → XC cls s t)
    (hf : ∀ z ∈ locs, free z.base) (hc : cells + 1 ≤ mc) (hs : slots + 6 ≤ ms) :
    W p l e R s m args below meth c H locs cells slots (vx_MQ below Qc XC args s mc ms free) (F0 m pc ls rest) := by
  intro T hT X
  have htr : e.platform.stackTraces = false := (show e.platform.stackTraces = l.stackTraces by rw [X.admits.platform]).trans hl
  have Y := vx_rebase X (R' := { frames := R.frames, locals := R.locals, cells := 1, slots := 6 }) (Nat.le_refl _) (Nat.le_refl _) hRcells hRslots
  obtain ⟨s', hA⟩ : ∃ z, z = (T.setVm s.vm).setFrames (.invoking m args :: below) := ⟨_, rfl⟩
  rw [← hA] at Y
  have hvm : s'.vm = s.vm := by rw [hA]; rfl
  have hhp : s'.heap = H := by rw [hA]; exact hT
  have hW0 : s.WarmedH s'.vm := by rw [hvm]; exact State.WarmedH.refl s
  have hat' : ∀ w ∈ vx_at0 own ic cls names, w.before args s' = true := fun w hw => vx_ot_at hW0 hvm.symm (hgood w (List.mem_cons_of_mem _ (List.mem_cons_of_mem _ hw))) (hat w hw)
  have hk' : (Cond.classLink own ik cls).before args s' = true := vx_ot_at hW0 hvm.symm (hgood _ List.mem_cons_self) hk
  have hini' : (Cond.initialized cls).before args s' = true := vx_ot_at hW0 hvm.symm (hgood _ (List.mem_cons_of_mem _ List.mem_cons_self)) hini
  have hU' : vx_Zq Bundle.tN "UNASSIGNED_STACK" Bundle.steD A s' s'.heap := by rw [hhp]; exact vx_Zq.moved hW0.alike (hU.kept hS.2.1)
  have hN' : vx_Zq Bundle.tN "SUPPRESSED_SENTINEL" Bundle.listD A s' s'.heap := by rw [hhp]; exact vx_Zq.moved hW0.alike (hN.kept hS.2.1)
  have h : ∀ w ∈ Bundle.ownAtoms0 own ic cls names, w.before args s' = true := vx_own hat' (vx_isRefq hU'.1) (vx_isRefq hN'.1) hU'.2.word hN'.2.word
  have hown' : s'.vm.findClass own = some m.cls := by rw [hvm]; exact hown
  have hins : (Cond.instantiable cls 6).before args s' = true := h _ (by simp [Bundle.ownAtoms0])
  obtain ⟨vm₁, cX, kX, hfX, hkX, -, -, X₁, st1⟩ := Y.newCold hexec (own := own) (C := cls) (index := ik) (n := 6) hown' hk' hins hini'
    (g := F0 m pc ls rest) rfl (by rw [hb]; exact d0) (Nat.le_refl _) (Nat.le_refl _)
  generalize hT1 : (T.setVm vm₁).pushCell { cls := cX, slots := kX.instanceTypes.map defaultValue, vm := .none } = T1 at X₁ st1
  have hcat : (Value.ref T.heap.size).category = 1 := rfl
  have hcellA : T1.heap[T.heap.size]? = some (freshCell cX kX) := by rw [← hT1]; exact State.heap_pushCell_size _ _
  have d3' : decode c.code (pc + 3) = .ok (.dup, 1) := by rw [hb]; exact d3
  obtain ⟨U, hsteps, hrun, hend, hW, hsame, ce, hce, hO⟩ := X₁.ctorThrow0 hexec htr (own := own) (cls := cls) (names := names) (ic := ic) hown' hcls hnames h (fun x hx => nomatch hx) hfX hkX hcellA (by rw [hhp, hT]; exact Nat.le_refl _)
    (g := { method := m, pc := pc + 4, locals := ls, stack := .ref T.heap.size :: .ref T.heap.size :: rest, locked := none }) rfl hsize rfl rfl (rest := rest) rfl
    (by rw [hb]; exact d4) (by rw [hb]; exact d7) hout hRframes (by simp only [List.map_cons, List.sum_cons, hcat]; omega) hlocks
  obtain ⟨f1, f2⟩ := vx_frame hsame
  rw [hhp] at f1 f2
  have hWs : s.WarmedH U.vm := State.WarmedH.trans hW0 hW
  have hcl : s.vm.findClass cls = some ce.cls := by
    have h9 := hO.cls
    rw [hvm] at h9
    exact h9
  have hall : s.sameButNew ({ U with vm := s.vm } : State) locs mc ms := by
    subst hA
    obtain ⟨e1, e2⟩ := hsame
    rw [State.setFrames_setFrames] at e1
    have h2 : (T.setVm s.vm).sameButNew ({ U with vm := s.vm } : State) [] (0 + 1) (0 + 6) := ⟨e1, e2⟩
    have h3 := X.same.trans h2
    rw [List.append_nil] at h3
    exact h3.mono hc hs
  refine ⟨U, ?_, .threw T.heap.size, hrun, hend, Or.inr ⟨T.heap.size, rfl, cls, ce, locs, hx U hWs.alike f1 (fun q hq => f2 q hq (fun z hz => nomatch hz)), hce, hO.vm, hcl, hWs, hall, hf⟩⟩
  refine st1 _ ?_
  show Steps p.tables e below (T1.setTop { method := m, pc := pc + 3, locals := ls, stack := .ref T.heap.size :: rest, locked := none }) _
  jvm_step X₁.here [X₁.here.top, hexec, d3', Value.category]
  exact hsteps
/-- 'throw new E("text")': new; dup; ldc; invokespecial; athrow -/
theorem vx_throwS {cc : ByteArray} {pc : Nat} (hexec : p.tables.exec = Jvm.exec) (hb : c.code = cc) (hl : l.stackTraces = false) {own cls text : String} {names : List String} {ik is ic mc ms sa : Nat} {A : Nat → Prop}
    (hown : s.vm.findClass own = some m.cls) (hcls : Bundle.fit cls = true) (hnames : ∀ n ∈ names, Bundle.fit n = true)
    (hk : (Cond.classLink own ik cls).before args s = true) (hini : (Cond.initialized cls).before args s = true) (hstr : vk_R own is text sa s) (hat : ∀ w ∈ vx_atS own ic cls names, w.before args s = true)
    (hgood : ∀ w ∈ Cond.classLink own ik cls :: Cond.initialized cls :: vx_atS own ic cls names, vx_ot w = true)
    (hU : vx_Zq Bundle.tN "UNASSIGNED_STACK" Bundle.steD A s s.heap) (hN : vx_Zq Bundle.tN "SUPPRESSED_SENTINEL" Bundle.listD A s s.heap) (hS : va_S A s.heap H locs) (hsize : ls.size = c.maxLocals)
    (d0 : decode cc pc = .ok (.new ik, 3)) (d3 : decode cc (pc + 3) = .ok (.dup, 1)) (d4 : decode cc (pc + 4) = .ok (.ldc is, 2)) (d6 : decode cc (pc + 6) = .ok (.invokespecial ic, 3)) (d9 : decode cc (pc + 9) = .ok (.athrow, 1))
    (hout : ∀ x ∈ c.exceptionTable.toList, covers x (pc + 9) = false)
    (hRframes : names.length + 3 < R.frames) (hRlocals : (rest.map fun v => v.category).sum + (13 * (names.length + 1) + 43) ≤ R.locals) (hRcells : cells + 1 ≤ R.cells) (hRslots : slots + 6 ≤ R.slots) (hlocks : meth.locks = false)
    (hx : ∀ t : State, s.vm.Alike t.vm → H.size ≤ t.heap.size → (∀ q : Nat, q < H.size → t.heap[q]? = H[q]?) → XC cls s t)
    (hf : ∀ z ∈ locs, free z.base) (hc : cells + 1 ≤ mc) (hs : slots + 6 ≤ ms) :
    W p l e R s m args below meth c H locs cells slots (vx_MQ below Qc XC args s mc ms free) (F0 m pc ls rest) := by
  intro T hT X
  have htr : e.platform.stackTraces = false := (show e.platform.stackTraces = l.stackTraces by rw [X.admits.platform]).trans hl
  have Y := vx_rebase X (R' := { frames := R.frames, locals := R.locals, cells := 1, slots := 6 }) (Nat.le_refl _) (Nat.le_refl _) hRcells hRslots
  obtain ⟨s', hA⟩ : ∃ z, z = (T.setVm s.vm).setFrames (.invoking m args :: below) := ⟨_, rfl⟩
  rw [← hA] at Y
  have hvm : s'.vm = s.vm := by rw [hA]; rfl
  have hhp : s'.heap = H := by rw [hA]; exact hT
  have hW0 : s.WarmedH s'.vm := by rw [hvm]; exact State.WarmedH.refl s
  have hat' : ∀ w ∈ vx_atS own ic cls names, w.before args s' = true := fun w hw => vx_ot_at hW0 hvm.symm (hgood w (List.mem_cons_of_mem _ (List.mem_cons_of_mem _ hw))) (hat w hw)
  have hk' : (Cond.classLink own ik cls).before args s' = true := vx_ot_at hW0 hvm.symm (hgood _ List.mem_cons_self) hk
  have hini' : (Cond.initialized cls).before args s' = true := vx_ot_at hW0 hvm.symm (hgood _ (List.mem_cons_of_mem _ List.mem_cons_self)) hini
  have hU' : vx_Zq Bundle.tN "UNASSIGNED_STACK" Bundle.steD A s' s'.heap := by rw [hhp]; exact vx_Zq.moved hW0.alike (hU.kept hS.2.1)
  have hN' : vx_Zq Bundle.tN "SUPPRESSED_SENTINEL" Bundle.listD A s' s'.heap := by rw [hhp]; exact vx_Zq.moved hW0.alike (hN.kept hS.2.1)
  have h : ∀ w ∈ Bundle.ownAtoms own ic cls names, w.before args s' = true := vx_own hat' (vx_isRefq hU'.1) (vx_isRefq hN'.1) hU'.2.word hN'.2.word
  have hown' : s'.vm.findClass own = some m.cls := by rw [hvm]; exact hown
  have hins : (Cond.instantiable cls 6).before args s' = true := h _ (by simp [Bundle.ownAtoms])
  obtain ⟨vm₁, cX, kX, hfX, hkX, -, -, X₁, st1⟩ := Y.newCold hexec (own := own) (C := cls) (index := ik) (n := 6) hown' hk' hins hini'
    (g := F0 m pc ls rest) rfl (by rw [hb]; exact d0) (Nat.le_refl _) (Nat.le_refl _)
  generalize hT1 : (T.setVm vm₁).pushCell { cls := cX, slots := kX.instanceTypes.map defaultValue, vm := .none } = T1 at X₁ st1
  have hcat : (Value.ref T.heap.size).category = 1 := rfl
  have hcellA : T1.heap[T.heap.size]? = some (freshCell cX kX) := by rw [← hT1]; exact State.heap_pushCell_size _ _
  have d3' : decode c.code (pc + 3) = .ok (.dup, 1) := by rw [hb]; exact d3
  have d4' : decode c.code (pc + 4) = .ok (.ldc is, 2) := by rw [hb]; exact d4
  have hstr' : vk_R own is text sa s' := vk_R.warm hW0 hstr
  obtain ⟨U, hsteps, hrun, hend, hW, hsame, ce, hce, hO⟩ := X₁.ctorThrowS hexec htr (own := own) (cls := cls) (names := names) (ic := ic) hown' hcls hnames h (fun x hx => nomatch hx) hfX hkX hcellA (by rw [hhp, hT]; exact Nat.le_refl _) (msg := .ref sa) rfl
    (g := { method := m, pc := pc + 6, locals := ls, stack := .ref sa :: .ref T.heap.size :: .ref T.heap.size :: rest, locked := none }) rfl hsize rfl rfl (rest := rest) rfl
    (by rw [hb]; exact d6) (by rw [hb]; exact d9) hout hRframes (by simp only [List.map_cons, List.sum_cons, hcat]; omega) hlocks
  obtain ⟨f1, f2⟩ := vx_frame hsame
  rw [hhp] at f1 f2
  have hWs : s.WarmedH U.vm := State.WarmedH.trans hW0 hW
  have hcl : s.vm.findClass cls = some ce.cls := by
    have h9 := hO.cls
    rw [hvm] at h9
    exact h9
  have hall : s.sameButNew ({ U with vm := s.vm } : State) locs mc ms := by
    subst hA
    obtain ⟨e1, e2⟩ := hsame
    rw [State.setFrames_setFrames] at e1
    have h2 : (T.setVm s.vm).sameButNew ({ U with vm := s.vm } : State) [] (0 + 1) (0 + 6) := ⟨e1, e2⟩
    have h3 := X.same.trans h2
    rw [List.append_nil] at h3
    exact h3.mono hc hs
  refine ⟨U, ?_, .threw T.heap.size, hrun, hend, Or.inr ⟨T.heap.size, rfl, cls, ce, locs, hx U hWs.alike f1 (fun q hq => f2 q hq (fun z hz => nomatch hz)), hce, hO.vm, hcl, hWs, hall, hf⟩⟩
  refine st1 _ ?_
  show Steps p.tables e below (T1.setTop { method := m, pc := pc + 3, locals := ls, stack := .ref T.heap.size :: rest, locked := none }) _
  jvm_step X₁.here [X₁.here.top, hexec, d3', Value.category]
  exact X₁.ldcString hexec (own := own) (text := text) (index := is) (a := sa) hown' hstr'.1 hstr'.2
    (g := { method := m, pc := pc + 4, locals := ls, stack := .ref T.heap.size :: .ref T.heap.size :: rest, locked := none }) rfl d4' _ hsteps
/-- 'throw new E("text")', the text by a wide index -/
theorem vx_throwSW {cc : ByteArray} {pc : Nat} (hexec : p.tables.exec = Jvm.exec) (hb : c.code = cc) (hl : l.stackTraces = false) {own cls text : String} {names : List String} {ik is ic mc ms sa : Nat} {A : Nat → Prop}
    (hown : s.vm.findClass own = some m.cls) (hcls : Bundle.fit cls = true) (hnames : ∀ n ∈ names, Bundle.fit n = true)
    (hk : (Cond.classLink own ik cls).before args s = true) (hini : (Cond.initialized cls).before args s = true) (hstr : vk_R own is text sa s) (hat : ∀ w ∈ vx_atS own ic cls names, w.before args s = true)
    (hgood : ∀ w ∈ Cond.classLink own ik cls :: Cond.initialized cls :: vx_atS own ic cls names, vx_ot w = true)
    (hU : vx_Zq Bundle.tN "UNASSIGNED_STACK" Bundle.steD A s s.heap) (hN : vx_Zq Bundle.tN "SUPPRESSED_SENTINEL" Bundle.listD A s s.heap) (hS : va_S A s.heap H locs) (hsize : ls.size = c.maxLocals)
    (d0 : decode cc pc = .ok (.new ik, 3)) (d3 : decode cc (pc + 3) = .ok (.dup, 1)) (d4 : decode cc (pc + 4) = .ok (.ldc_w is, 3)) (d7 : decode cc (pc + 7) = .ok (.invokespecial ic, 3)) (d10 : decode cc (pc + 10) = .ok (.athrow, 1))
    (hout : ∀ x ∈ c.exceptionTable.toList, covers x (pc + 10) = false)
    (hRframes : names.length + 3 < R.frames) (hRlocals : (rest.map fun v => v.category).sum + (13 * (names.length + 1) + 43) ≤ R.locals) (hRcells : cells + 1 ≤ R.cells) (hRslots : slots + 6 ≤ R.slots) (hlocks : meth.locks = false)
    (hx : ∀ t : State, s.vm.Alike t.vm → H.size ≤ t.heap.size → (∀ q : Nat, q < H.size → t.heap[q]? = H[q]?) → XC cls s t)
    (hf : ∀ z ∈ locs, free z.base) (hc : cells + 1 ≤ mc) (hs : slots + 6 ≤ ms) :
    W p l e R s m args below meth c H locs cells slots (vx_MQ below Qc XC args s mc ms free) (F0 m pc ls rest) := by
  intro T hT X
  have htr : e.platform.stackTraces = false := (show e.platform.stackTraces = l.stackTraces by rw [X.admits.platform]).trans hl
  have Y := vx_rebase X (R' := { frames := R.frames, locals := R.locals, cells := 1, slots := 6 }) (Nat.le_refl _) (Nat.le_refl _) hRcells hRslots
  obtain ⟨s', hA⟩ : ∃ z, z = (T.setVm s.vm).setFrames (.invoking m args :: below) := ⟨_, rfl⟩
  rw [← hA] at Y
  have hvm : s'.vm = s.vm := by rw [hA]; rfl
  have hhp : s'.heap = H := by rw [hA]; exact hT
  have hW0 : s.WarmedH s'.vm := by rw [hvm]; exact State.WarmedH.refl s
  have hat' : ∀ w ∈ vx_atS own ic cls names, w.before args s' = true := fun w hw => vx_ot_at hW0 hvm.symm (hgood w (List.mem_cons_of_mem _ (List.mem_cons_of_mem _ hw))) (hat w hw)
  have hk' : (Cond.classLink own ik cls).before args s' = true := vx_ot_at hW0 hvm.symm (hgood _ List.mem_cons_self) hk
  have hini' : (Cond.initialized cls).before args s' = true := vx_ot_at hW0 hvm.symm (hgood _ (List.mem_cons_of_mem _ List.mem_cons_self)) hini
  have hU' : vx_Zq Bundle.tN "UNASSIGNED_STACK" Bundle.steD A s' s'.heap := by rw [hhp]; exact vx_Zq.moved hW0.alike (hU.kept hS.2.1)
  have hN' : vx_Zq Bundle.tN "SUPPRESSED_SENTINEL" Bundle.listD A s' s'.heap := by rw [hhp]; exact vx_Zq.moved hW0.alike (hN.kept hS.2.1)
  have h : ∀ w ∈ Bundle.ownAtoms own ic cls names, w.before args s' = true := vx_own hat' (vx_isRefq hU'.1) (vx_isRefq hN'.1) hU'.2.word hN'.2.word
  have hown' : s'.vm.findClass own = some m.cls := by rw [hvm]; exact hown
  have hins : (Cond.instantiable cls 6).before args s' = true := h _ (by simp [Bundle.ownAtoms])
  obtain ⟨vm₁, cX, kX, hfX, hkX, -, -, X₁, st1⟩ := Y.newCold hexec (own := own) (C := cls) (index := ik) (n := 6) hown' hk' hins hini'
    (g := F0 m pc ls rest) rfl (by rw [hb]; exact d0) (Nat.le_refl _) (Nat.le_refl _)
  generalize hT1 : (T.setVm vm₁).pushCell { cls := cX, slots := kX.instanceTypes.map defaultValue, vm := .none } = T1 at X₁ st1
  have hcat : (Value.ref T.heap.size).category = 1 := rfl
  have hcellA : T1.heap[T.heap.size]? = some (freshCell cX kX) := by rw [← hT1]; exact State.heap_pushCell_size _ _
  have d3' : decode c.code (pc + 3) = .ok (.dup, 1) := by rw [hb]; exact d3
  have d4' : decode c.code (pc + 4) = .ok (.ldc_w is, 3) := by rw [hb]; exact d4
  have hstr' : vk_R own is text sa s' := vk_R.warm hW0 hstr
  obtain ⟨U, hsteps, hrun, hend, hW, hsame, ce, hce, hO⟩ := X₁.ctorThrowS hexec htr (own := own) (cls := cls) (names := names) (ic := ic) hown' hcls hnames h (fun x hx => nomatch hx) hfX hkX hcellA (by rw [hhp, hT]; exact Nat.le_refl _) (msg := .ref sa) rfl
    (g := { method := m, pc := pc + 7, locals := ls, stack := .ref sa :: .ref T.heap.size :: .ref T.heap.size :: rest, locked := none }) rfl hsize rfl rfl (rest := rest) rfl
    (by rw [hb]; exact d7) (by rw [hb]; exact d10) hout hRframes (by simp only [List.map_cons, List.sum_cons, hcat]; omega) hlocks
  obtain ⟨f1, f2⟩ := vx_frame hsame
  rw [hhp] at f1 f2
  have hWs : s.WarmedH U.vm := State.WarmedH.trans hW0 hW
  have hcl : s.vm.findClass cls = some ce.cls := by
    have h9 := hO.cls
    rw [hvm] at h9
    exact h9
  have hall : s.sameButNew ({ U with vm := s.vm } : State) locs mc ms := by
    subst hA
    obtain ⟨e1, e2⟩ := hsame
    rw [State.setFrames_setFrames] at e1
    have h2 : (T.setVm s.vm).sameButNew ({ U with vm := s.vm } : State) [] (0 + 1) (0 + 6) := ⟨e1, e2⟩
    have h3 := X.same.trans h2
    rw [List.append_nil] at h3
    exact h3.mono hc hs
  refine ⟨U, ?_, .threw T.heap.size, hrun, hend, Or.inr ⟨T.heap.size, rfl, cls, ce, locs, hx U hWs.alike f1 (fun q hq => f2 q hq (fun z hz => nomatch hz)), hce, hO.vm, hcl, hWs, hall, hf⟩⟩
  refine st1 _ ?_
  show Steps p.tables e below (T1.setTop { method := m, pc := pc + 3, locals := ls, stack := .ref T.heap.size :: rest, locked := none }) _
  jvm_step X₁.here [X₁.here.top, hexec, d3', Value.category]
  exact X₁.ldcStringW hexec (own := own) (text := text) (index := is) (a := sa) hown' hstr'.1 hstr'.2
    (g := { method := m, pc := pc + 4, locals := ls, stack := .ref T.heap.size :: .ref T.heap.size :: rest, locked := none }) rfl d4' _ hsteps
end Ends
section Bodies
variable {l : Launch}
theorem vx_ofW {y : MethodName} {ws ws' : List Cond} {rm : Room} {Pc : Array Value → State → Prop} {Qc : Array Value → State → Outcome → State → Prop} {XC : String → State → State → Prop} {mc ms : Nat} {free : Addr → Prop} {cc : ByteArray} {maxL : Nat} {ret : Option FieldType}
    (hy : plainName y.cls = true) (hw : ws = Cond.code y cc maxL ret :: ws')
    (body : ∀ p e s m args below meth c s₁, BodyLoose p l y (headSpec ws rm) cc maxL ret e s m args below meth c s₁ → c.maxLocals = maxL → (∀ x ∈ c.exceptionTable.toList, False) → Pc args s →
      W p l e (headSpec ws rm).room s m args below meth c s.heap [] 0 0 (vx_MQ below Qc XC args s mc ms free) (entryFrame m args maxL)) : vx_Met l y ws rm Pc Qc XC mc ms free := by
  refine MetFree.of_bodyS (code := cc) (maxLocals := maxL) (ret := ret) hy ?_ ?_
  · intro args s m h hn
    obtain ⟨meth, c, h1, h2, h3, h4, h5, h6, -, -⟩ := Cond.code_spec hn (atoms_spec (ws := ws) h _ (by rw [hw]; exact List.mem_cons_self))
    exact ⟨meth, c, h1, h2, h3, h4, h5, h6⟩
  · intro p e s m args below meth c s₁ B hml hP _
    have hh0 : s₁.heap = s.heap := by rw [B.state]; rfl
    have ht : ∀ x ∈ c.exceptionTable.toList, False := by
      obtain ⟨meth9, c9, h1, h2, -, -, -, -, h7, -⟩ := Cond.code_spec B.named (atoms_spec (ws := ws) B.pre _ (by rw [hw]; exact List.mem_cons_self))
      cases Option.some.inj (h1.symm.trans B.method)
      cases Option.some.inj (h2.symm.trans (Stand.of_body B).code)
      intro x hx
      rw [Array.isEmpty_iff.mp h7] at hx
      cases hx
    obtain ⟨t, a1, o, b1, b2, b3⟩ := body p e s m args below meth c s₁ B hml ht hP s₁ hh0 (Stand.of_body B)
    exact ⟨t, o, a1, b1, b2, b3⟩
/-- the table of a body with handlers -/
theorem vx_table {p : Program} {x y : MethodName} {S : Spec} {cc bytes : ByteArray} {maxL maxL' : Nat} {ret ret' : Option FieldType} {e : Env} {s s₁ : State} {m : MethodId} {args : Array Value} {below : List Frame} {meth : Method} {c : Code} {hh : List (Nat × Nat × Nat × Nat)}
    (B : BodyLoose p l y S cc maxL ret e s m args below meth c s₁) (h : (Cond.codeWith y bytes maxL' ret' hh).before args s = true) : c.exceptionTable.toList = tableOf hh := by
  obtain ⟨m9, meth9, c9, hn9, h1, h2, -, -, h6, -⟩ := Cond.codeWith_spec h
  cases Option.some.inj (hn9.symm.trans B.named)
  cases Option.some.inj (h1.symm.trans B.method)
  cases Option.some.inj (h2.symm.trans (Stand.of_body B).code)
  rw [← h6, table_eq]
end Bodies
end VXA
/-! ===== END ===== -/
/-! ===== BEGIN a static call of a method with an exception table ===== -/
section VXS
variable {p : Program} {l : Launch} {e : Env} {R : Room} {s : State} {m : MethodId} {args : Array Value} {below : List Frame} {meth : Method} {c : Code} {T : State} {H : Heap} {locs : List Loc} {cells slots : Nat}
abbrev vx_CSW (R : Room) (s : State) (args : Array Value) (own : String) (index : Nat) (y : MethodName) (bytes : ByteArray) (maxL : Nat) (ret : Option FieldType) (hh : List (Nat × Nat × Nat × Nat)) (ws : List Cond) (rm : Room) (mc ms n : Nat) : Prop :=
  (rm.cells = mc ∧ rm.slots = ms ∧ rm.frames + 1 ≤ R.frames ∧ 8 + (maxL + 11) + rm.locals ≤ R.locals ∧ (∀ w ∈ ws, ∀ (a' : Array Value) (U : State), s.WarmedH U.vm → w.before a' U = true) ∧ Cond.codeWith y bytes maxL ret hh ∈ ws) ∧
  (Cond.codeWith y bytes maxL ret hh).before args s = true ∧ (Cond.initialized y.cls).before args s = true ∧ (y.cls ≠ "java/lang/invoke/MethodHandle" ∧ y.cls ≠ "java/lang/invoke/VarHandle") ∧
  (∀ sig, parseMethodDescriptor y.desc = some sig → n = sig.parameters.length) ∧ (Cond.methodLink own index y).before args s = true ∧ (Cond.static y).before args s = true
theorem vx_cwSW {own : String} {index maxL mc ms : Nat} {y : MethodName} {bytes : ByteArray} {ret : Option FieldType} {hh : List (Nat × Nat × Nat × Nat)} {Ts ws ws' : List Cond} {rm : Room} (n : Nat) (ht : ∀ w ∈ Ts, w.before args s = true) (hT : GoodIn Ts (va_wsS own index y ws)) (hw : ws = Cond.codeWith y bytes maxL ret hh :: ws') (hrc : rm.cells = mc) (hrs : rm.slots = ms)
    (hd : y.cls ≠ "java/lang/invoke/MethodHandle" ∧ y.cls ≠ "java/lang/invoke/VarHandle" ∧ (parseMethodDescriptor y.desc).map (fun d => d.parameters.length) = some n) (hR : rm.frames + 1 ≤ R.frames ∧ 8 + (maxL + 11) + rm.locals ≤ R.locals) :
    vx_CSW R s args own index y bytes maxL ret hh ws rm mc ms n := by
  have ok : ∀ w ∈ va_wsS own index y ws, w.before args s = true := fun w h => ht w (hT w h).1
  have hG : GoodIn Ts ws := fun w h => hT w (by unfold va_wsS; exact List.mem_append_right _ h)
  have hc : Cond.codeWith y bytes maxL ret hh ∈ ws := by rw [hw]; exact List.mem_cons_self
  refine ⟨⟨hrc, hrs, hR.1, hR.2, pay_in ht hG, hc⟩, ht _ (hG _ hc).1, ok _ (by simp [va_wsS]), ⟨hd.1, hd.2.1⟩, fun sig h => ?_, ok _ (by simp [va_wsS]), ok _ (by simp [va_wsS])⟩
  have h2 := hd.2.2
  rw [h] at h2
  exact (Option.some.inj h2).symm
theorem vx_callSW (X : Stand p l e R s m args below meth c T locs cells slots) (hexec : p.tables.exec = Jvm.exec) {own : String} {index : Nat} {y : MethodName} {bytes : ByteArray} {maxL : Nat} {ret : Option FieldType} {hh : List (Nat × Nat × Nat × Nat)}
    (hown : s.vm.findClass own = some m.cls) (hlink : (Cond.methodLink own index y).before args s = true) (hstat : (Cond.static y).before args s = true) (hinit : (Cond.initialized y.cls).before args s = true)
    (hcode : (Cond.codeWith y bytes maxL ret hh).before args s = true) (hy : y.cls ≠ "java/lang/invoke/MethodHandle" ∧ y.cls ≠ "java/lang/invoke/VarHandle")
    {W9 : Nat} {Pre : Pt → Array Value → Prop} {Post : Pt → Array Value → Option Value → Pt → Prop} (hK : Back l R p e below s args y 3 W9 Pre Post)
    {g : JFrame} (hg : g.method = m) (hsize : g.locals.size = c.maxLocals) {argsL rest : List Value} (hlen : ∀ sig, parseMethodDescriptor y.desc = some sig → argsL.length = sig.parameters.length)
    (hstack : g.stack = argsL.reverse ++ rest) (hW : 2 * g.monitorRoom + (rest.map fun v => v.category).sum ≤ W9) (hdg : decode c.code g.pc = .ok (.invokestatic index, 3))
    (hpre : ∀ vm₁, s.WarmedH vm₁ → Pre ⟨T.setVm vm₁, locs, cells, slots⟩ argsL.toArray) :
    ∃ (v : Option Value) (vm₁ : Vm) (B : Pt), s.WarmedH vm₁ ∧ Stand p l e R s m args below meth c B.U B.locs B.cells B.slots ∧ Post ⟨T.setVm vm₁, locs, cells, slots⟩ argsL.toArray v B ∧
      ∀ target, Steps p.tables e below (B.U.setTop { g with pc := g.pc + 3, stack := v.toList ++ rest }) target → Steps p.tables e below (T.setTop g) target := by
  obtain ⟨mk, methM, cM, hnamed, hmethM, -, -, -, -, -, -, hsigM⟩ := Cond.codeWith_spec hcode
  have hstatic : methM.isStatic = true := Cond.static_spec hnamed hmethM hstat
  obtain ⟨kP, hkP, -⟩ := className_of_methodNamed hnamed
  have hinitP : kP.init = .initialized := Cond.initialized_spec (findClass_of_methodNamed hnamed) hkP hinit
  obtain ⟨vm₁, X₁, hstep₁⟩ := X.invokestatic hexec hown hlink hnamed hmethM hstatic hkP hinitP hy (g := g) hg (argsL := argsL) (rest := rest) (hlen _ hsigM) hstack hdg
  obtain ⟨v, B, X', hpost, hsteps⟩ := hK m meth c ⟨T.setVm vm₁, locs, cells, slots⟩ { g with stack := rest } (.invokestatic index) mk argsL.toArray X₁ hg hsize hdg hW (X₁.named hnamed) (hpre vm₁ X₁.warmed)
  exact ⟨v, vm₁, B, X₁.warmed, X', hpost, fun target h => hstep₁ _ fun acts => by rw [doInvoke_state]; exact hsteps.trans h⟩
theorem vx_runSW {y : MethodName} {bytes cc : ByteArray} {maxL nL mc ms n index : Nat} {ret : Option FieldType} {hh : List (Nat × Nat × Nat × Nat)} {ws : List Cond} {rm : Room} {Pc : Array Value → State → Prop} {Qc : Array Value → State → Outcome → State → Prop} {free : Addr → Prop} {Ts : List Cond} {own : String} {As rest : List Value} {g : JFrame}
    (S : CallFix p m c cc nL s args Ts own) (hM : Met l y ws rm Pc Qc mc ms free) (cw : vx_CSW R s args own index y bytes maxL ret hh ws rm mc ms n) (hp : PreS s H Pc As)
    (hg : g.method = m) (hn : As.length = n) (hsize : g.locals.size = nL) (hstack : g.stack = As.reverse ++ rest) (hW : 2 * g.monitorRoom + (rest.map fun v => v.category).sum ≤ 8) (hdg : decode cc g.pc = .ok (.invokestatic index, 3)) (hf : cells + mc ≤ R.cells ∧ slots + ms ≤ R.slots) :
    va_Run p l e R s m args below meth c H locs cells slots mc ms g rest (Qc As.toArray) (free) := by
  obtain ⟨⟨hrc, hrs, hfr, hlo, hws, hcw⟩, hcode, hini, hy, hlen, hl, hstt⟩ := cw
  have hK : Back l R p e below s args y 3 8 (PreOf R mc ms Pc) (PostOf Qc mc ms free) := va_backW (hh := hh) (bytes := bytes) (maxL := maxL) (ret := ret) hM hp.1 hrc hrs hfr hlo hws hcw (fun a' U hW => word_at hW (Or.inl (by first | rfl | simp [Cond.onTables, Cond.keeps, Cond.steady])) hini)
  obtain ⟨hx, hb, hml, ho, -⟩ := S
  intro T hT X
  obtain ⟨v, vm₁, ⟨U', l2, c2, s2⟩, hW₁, X', ⟨g', mk, t, L, e1, e2, hq, h1, hL, h2, h3⟩, st⟩ := vx_callSW X hx (hh := hh) (bytes := bytes) (maxL := maxL) (ret := ret) ho hl hstt hini hcode hy hK hg (hsize.trans hml.symm) (argsL := As) (rest := rest) (fun sig h => hn.trans (hlen sig h)) hstack hW (by rw [hb]; exact hdg)
    (fun vm₁ hW₁ => ⟨hf.1, hf.2, hp.2 (T.setVm vm₁) hT hW₁⟩)
  dsimp only [Pt.U, Pt.locs, Pt.cells, Pt.slots] at X' e1 e2 h1 h2 h3 st
  subst h1; subst h2; subst h3
  exact ⟨v, (T.setVm vm₁).calling g' mk As.toArray, t, U', L, hT, X', hL, e1, e2, hq, st⟩
/-- not caught here, past rows that name other classes: it goes on to the caller -/
theorem vx_outP {p : Program} {l : Launch} {e : Env} {R : Room} {s : State} {m : MethodId} {args : Array Value} {below : List Frame} {meth : Method} {c : Code} {H : Heap} {locs : List Loc} {cells slots : Nat} {free : Addr → Prop} {ls : Array Slot} {rest : List Value} {Qc : Array Value → State → Outcome → State → Prop} {XC : String → State → State → Prop}
    {pc : Nat} {own E : String} {ce : Cell} {q : Addr} {mc ms : Nat} (hown : s.vm.findClass own = some m.cls) (hlocks : meth.locks = false)
    (hpass : ∀ z ∈ c.exceptionTable.toList, covers z pc = false ∨ (z.catchType ≠ 0 ∧ ∃ nm : String, (Cond.classLink own z.catchType nm).before args s = true ∧ va_Nc E nm s)) (hcell : H[q]? = some ce) (hv : ce.vm = .none) (hcl : s.vm.findClass E = some ce.cls)
    (hx : ∀ t : State, t.heap = H → s.vm.Alike t.vm → XC E s t) (hf : ∀ z ∈ locs, free z.base) (hc : cells ≤ mc) (hs : slots ≤ ms) :
    vx_W p l e R s m args below meth c H locs cells slots (vx_MQ below Qc XC args s mc ms free) (F0 m pc ls rest) q := by
  intro T hT X
  have hpl : e.platform.magicAccessors = ({} : Platform).magicAccessors := by rw [X.admits.platform]
  obtain ⟨vm', hW', X', st⟩ := X.outThrough hlocks q (g := F0 m pc ls rest) rfl rfl rfl (cell := ce) (by rw [hT]; exact hcell) (by rw [hv]; rfl)
    (by obtain ⟨k9, h9, -⟩ := Vm.findClass_spec hcl; exact ⟨k9, h9⟩) (fun z hz => by
      rcases hpass z hz with h | ⟨hz0, nm, hl1, hn1⟩
      · exact Or.inl h
      · obtain ⟨c6, hc6, hcl6⟩ := Cond.classLink_spec hown hl1 e.platform hpl
        obtain ⟨a8, b8, h1, h2, h3⟩ := hn1
        cases Option.some.inj (h1.symm.trans hcl)
        cases Option.some.inj (h2.symm.trans hc6)
        exact Or.inr ⟨hz0, _, hcl6, h3⟩)
  obtain ⟨g₀, hfr⟩ := X'.frames_eq
  have hcell9 : ((T.setVm vm').setFrames (.throwing q :: below)).heap[q]? = some ce := by
    show T.heap[q]? = some ce
    rw [hT]; exact hcell
  have hend : Ended ((T.setVm vm').setFrames (.throwing q :: below)) below (.threw q) := State.frames_setFrames _ (State.cur_lt_of_frames hfr)
  refine ⟨(T.setVm vm').setFrames (.throwing q :: below), ?_, .threw q, X'.here.running, hend, Or.inr ⟨q, rfl, E, ce, locs, hx _ hT (X'.ends _).1.alike, hcell9, hv, hcl, (X'.ends _).1, (X'.ends _).2.mono hc hs, hf⟩⟩
  rw [X.pushThrowing_eq]
  exact st
/-- a thing of a world lies in the heap -/
theorem vx_lt {D : va_G} {cl : List vw_C} {ws : va_W} {H1 : Heap} (h : va_P D cl ws H1) {k : Nat} {q : Nat × va_E} (hk : ws[k]? = some q) : q.1 < H1.size := (h k q hk).lt
end VXS
/-! ===== END ===== -/
/-! ===== BEGIN methods with a table of their own: called by a name, returning or throwing ===== -/
section VXH
/-! vx_backW, vx_callVX, vx_callSX, vx_callVW, vx_runVW, vx_runVX, vx_runSX, vx_ofWH follow the same proofs as their sisters above (Free/Laws.lean, Shelf42/LK1.lean); vx_outP calls Shelf42/NT130.lean (outThrough). -/
section
variable {l : Launch} {R : Room} {p : Program} {e : Env} {below : List Frame} {s : State} {sargs : Array Value} {y : MethodName} {len W9 : Nat}
theorem vx_backW {ws : List Cond} {rm : Room} {Pc : Array Value → State → Prop} {Qc : Array Value → State → Outcome → State → Prop} {XC : String → State → State → Prop} {mc ms : Nat} {free : Addr → Prop} {bytes : ByteArray} {maxL : Nat} {ret : Option FieldType} {hh : List (Nat × Nat × Nat × Nat)}
    (hM : vx_Met l y ws rm Pc Qc XC mc ms free) (hblind : FrameBlind Pc) (hrc : rm.cells = mc) (hrs : rm.slots = ms)
    (hframes : rm.frames + 1 ≤ R.frames) (hlocals : W9 + (maxL + 11) + rm.locals ≤ R.locals)
    (hws : ∀ w ∈ ws, ∀ a' U, s.WarmedH U.vm → w.before a' U = true) (hcode : Cond.codeWith y bytes maxL ret hh ∈ ws) (hinit : ∀ a' U, s.WarmedH U.vm → (Cond.initialized y.cls).before a' U = true) :
    vx_Back l R p e below s sargs y len W9 (PreOf R mc ms Pc) (PostOf Qc mc ms free) (vx_Post XC mc ms free) := by
  intro m meth c A g ig mk a X hg hsize hdg hW hn hp
  have h1 : (headSpec ws rm).pre.before a A.U = true := atoms_intro fun w hw => hws w hw _ _ X.warmed
  have h2 : (Cond.codeWith y bytes maxL ret hh).before a A.U = true := hws _ hcode _ _ X.warmed
  have h3 : (Cond.initialized y.cls).before a A.U = true := hinit _ _ X.warmed
  have h4 : A.cells + (headSpec ws rm).room.cells ≤ R.cells := by rw [show (headSpec ws rm).room.cells = mc from hrc]; exact hp.1
  have h5 : A.slots + (headSpec ws rm).room.slots ≤ R.slots := by rw [show (headSpec ws rm).room.slots = ms from hrs]; exact hp.2.1
  have hPc : Pc a (A.U.calling g mk a) := hblind _ _ _ _ hp.2.2
  obtain ⟨U, Ls, c0, s0⟩ := A
  dsimp only [Pt.U, Pt.locs, Pt.cells, Pt.slots] at h1 h2 h3 h4 h5 X hn hPc ⊢
  obtain ⟨m9, methY, cY, hn9, hmY, hcY, -, hlY, -⟩ := Cond.codeWith_spec h2
  cases Option.some.inj (hn9.symm.trans hn)
  obtain ⟨kY, hkY, -⟩ := className_of_methodNamed hn
  have hinitY : kY.init = .initialized := Cond.initialized_spec (findClass_of_methodNamed hn) hkY h3
  have h : At U g.method c below := by rw [hg]; exact X.here
  have hlocals9 : W9 + (maxL + 11) + (headSpec ws rm).room.locals ≤ R.locals := hlocals
  have happ : (headSpec ws rm).appliesLoose y e.platform (U.calling g mk a) = true :=
    Spec.appliesLoose_calling (g := g) h hdg hn hkY hinitY
      (X.room_calling (g := g) (R' := (headSpec ws rm).room) hsize hmY hcY hframes (by rw [hlY]; omega) h4 h5) h1
  obtain ⟨mid, hmid⟩ := h.above
  have hfr : (U.setTop g).frames = (.java g :: mid) ++ below := by rw [State.frames_setTop' g h.top, hmid]; rfl
  obtain ⟨o, s₂, hsteps, -, hend, hq⟩ := Steps.callFree hM p X.admits X.cas X.clock (acts := []) hfr happ hPc trivial
  have hq' : vx_Q Qc XC mc ms free a (U.calling g mk a) o s₂ := hq
  rw [State.frames_setTop' g h.top] at hend
  obtain ⟨g₀, hg0⟩ := Option.isSome_iff_exists.mp h.top
  obtain ⟨r, hr⟩ := State.topJava?_eq_some.mp hg0
  have hr' : (({ U with heap := s₂.heap, slotsUsed := s₂.slotsUsed } : State).setVm s₂.vm).frames = .java g₀ :: r := hr
  rcases hq' with ⟨hqc, L, hfe, hL⟩ | ⟨q, rfl, E, ce, L, hx, hce, hcv, hcl, hW₂, hsm, hL⟩
  · obtain ⟨⟨v, rfl⟩, hW₂, e2, q2, q3, q4, q5, q6⟩ := id hfe
    have e3 : s₂ = ({ (U.calling g mk a).setFrames s₂.frames with heap := s₂.heap, slotsUsed := s₂.slotsUsed } : State).setVm s₂.vm := by
      have : s₂ = ({ s₂ with vm := (U.calling g mk a).vm } : State).setVm s₂.vm := rfl
      rw [e2] at this
      exact this
    obtain ⟨c₂, i₂, len₂, hc₂, hd₂, hf₂⟩ := hend
    have hW' : U.WarmedH s₂.vm := hW₂
    have hcc : c₂ = c := by
      have h1 : s₂.code? g.method = U.code? g.method := by
        rw [State.code?_eq, State.code?_eq, hW'.alike.method?]
      exact Option.some.inj (hc₂.symm.trans (h1.trans h.code))
    subst hcc
    have hlen : len₂ = len := by rw [hdg] at hd₂; cases hd₂; rfl
    subst hlen
    have hs₂ : s₂ = (({ U with heap := s₂.heap, slotsUsed := s₂.slotsUsed } : State).setVm s₂.vm).setTop { g with pc := g.pc + len₂, stack := v.toList ++ g.stack } := by
      refine e3.trans ?_
      rw [hf₂, State.calling_eq h.top, State.setFrames_setFrames, State.setTop_of_frames _ hr', hr]
      rfl
    have hsame : U.sameButNew ({ U with heap := s₂.heap, slotsUsed := s₂.slotsUsed } : State) L mc ms := by
      refine ⟨?_, q2, q3, q4, q5, q6⟩
      obtain ⟨t, ht, -⟩ := State.frames_cons hr
      show ({ U with heap := s₂.heap, slotsUsed := s₂.slotsUsed } : State) = { U.setFrames U.frames with heap := s₂.heap, slotsUsed := s₂.slotsUsed }
      rw [State.setFrames_self ht]
    subst hg
    refine Or.inl ⟨v, ⟨(({ U with heap := s₂.heap, slotsUsed := s₂.slotsUsed } : State).setVm s₂.vm), Ls ++ L, c0 + mc, s0 + ms⟩,
      ⟨X.admits, X.cas, X.clock, X.frames, X.room, X.hears, X.method, X.code, (X.here.setHeapUsed s₂.heap s₂.slotsUsed).setVm hW'.alike, X.tail, State.WarmedH.trans X.warmed hW', X.limits, X.bytes, X.same.trans (hsame.setVm s.vm)⟩,
      ⟨g, mk, s₂, L, rfl, rfl, hqc, rfl, hL, rfl, rfl⟩, ?_⟩
    show Steps p.tables e below _ ((({ U with heap := s₂.heap, slotsUsed := s₂.slotsUsed } : State).setVm s₂.vm).setTop { g with pc := g.pc + len₂, stack := v.toList ++ g.stack })
    rw [← hs₂]
    exact hsteps
  · obtain ⟨e2, q2, q3, q4, q5, q6⟩ := id hsm
    have e3 : s₂ = ({ (U.calling g mk a).setFrames s₂.frames with heap := s₂.heap, slotsUsed := s₂.slotsUsed } : State).setVm s₂.vm := by
      have : s₂ = ({ s₂ with vm := (U.calling g mk a).vm } : State).setVm s₂.vm := rfl
      rw [e2] at this
      exact this
    have hf₂ : s₂.frames = .throwing q :: .java g :: U.frames.tail := hend
    have hW' : U.WarmedH s₂.vm := hW₂
    have hs₂ : s₂ = ((({ U with heap := s₂.heap, slotsUsed := s₂.slotsUsed } : State).setVm s₂.vm).setTop g).pushFrame (.throwing q) := by
      refine e3.trans ?_
      rw [hf₂, State.calling_eq h.top, State.setFrames_setFrames, State.pushFrame, State.frames_setTop _ hr', State.setTop_of_frames _ hr', State.setFrames_setFrames, hr]
      rfl
    have hsame : U.sameButNew ({ U with heap := s₂.heap, slotsUsed := s₂.slotsUsed } : State) L mc ms := by
      refine ⟨?_, q2, q3, q4, q5, q6⟩
      obtain ⟨t, ht, -⟩ := State.frames_cons hr
      show ({ U with heap := s₂.heap, slotsUsed := s₂.slotsUsed } : State) = { U.setFrames U.frames with heap := s₂.heap, slotsUsed := s₂.slotsUsed }
      rw [State.setFrames_self ht]
    subst hg
    refine Or.inr ⟨q, ⟨(({ U with heap := s₂.heap, slotsUsed := s₂.slotsUsed } : State).setVm s₂.vm), Ls ++ L, c0 + mc, s0 + ms⟩,
      ⟨X.admits, X.cas, X.clock, X.frames, X.room, X.hears, X.method, X.code, (X.here.setHeapUsed s₂.heap s₂.slotsUsed).setVm hW'.alike, X.tail, State.WarmedH.trans X.warmed hW', X.limits, X.bytes, X.same.trans (hsame.setVm s.vm)⟩,
      ⟨g, mk, s₂, L, E, ce, rfl, rfl, hx, hce, hcv, hcl, rfl, hL, rfl, rfl⟩, ?_⟩
    show Steps p.tables e below _ (((({ U with heap := s₂.heap, slotsUsed := s₂.slotsUsed } : State).setVm s₂.vm).setTop g).pushFrame (.throwing q))
    rw [← hs₂]
    exact hsteps
end
variable {p : Program} {l : Launch} {e : Env} {R : Room} {s : State} {m : MethodId} {args : Array Value} {below : List Frame} {meth : Method} {c : Code} {T : State} {H : Heap} {locs : List Loc} {cells slots : Nat}
theorem vx_callVX (X : Stand p l e R s m args below meth c T locs cells slots) (hexec : p.tables.exec = Jvm.exec) {own C : String} {index : Nat} {y : MethodName} {bytes : ByteArray} {maxL : Nat} {ret : Option FieldType} {hh : List (Nat × Nat × Nat × Nat)}
    (hown : s.vm.findClass own = some m.cls) (hlink : (Cond.methodLink own index y).before args s = true) (hinst : (Cond.instanceMethod y).before args s = true) (hsel : (Cond.selects C y y).before args s = true)
    (hcode : (Cond.codeWith y bytes maxL ret hh).before args s = true) (hy : y.cls ≠ "java/lang/invoke/MethodHandle" ∧ y.cls ≠ "java/lang/invoke/VarHandle")
    {W9 : Nat} {Pre : Pt → Array Value → Prop} {Post : Pt → Array Value → Option Value → Pt → Prop} {PostX : Pt → Array Value → Addr → Pt → Prop} (hK : vx_Back l R p e below s args y 3 W9 Pre Post PostX)
    {b : Addr} {cellB : Cell} (hcell : T.heap[b]? = some cellB) (hobj : cellB.vm.isStatics = false) (hcls : s.vm.findClass C = some cellB.cls)
    {g : JFrame} (hg : g.method = m) (hsize : g.locals.size = c.maxLocals) {argsL rest : List Value} (hlen : ∀ sig, parseMethodDescriptor y.desc = some sig → argsL.length = sig.parameters.length)
    (hstack : g.stack = argsL.reverse ++ .ref b :: rest) (hW : 2 * g.monitorRoom + (rest.map fun v => v.category).sum ≤ W9) (hdg : decode c.code g.pc = .ok (.invokevirtual index, 3))
    (hpre : ∀ vm₁, s.WarmedH vm₁ → Pre ⟨T.setVm vm₁, locs, cells, slots⟩ (Value.ref b :: argsL).toArray) :
    (∃ (v : Option Value) (vm₁ : Vm) (B : Pt), s.WarmedH vm₁ ∧ Stand p l e R s m args below meth c B.U B.locs B.cells B.slots ∧ Post ⟨T.setVm vm₁, locs, cells, slots⟩ (Value.ref b :: argsL).toArray v B ∧
      ∀ target, Steps p.tables e below (B.U.setTop { g with pc := g.pc + 3, stack := v.toList ++ rest }) target → Steps p.tables e below (T.setTop g) target) ∨
    (∃ (q : Addr) (vm₁ : Vm) (B : Pt), s.WarmedH vm₁ ∧ Stand p l e R s m args below meth c B.U B.locs B.cells B.slots ∧ PostX ⟨T.setVm vm₁, locs, cells, slots⟩ (Value.ref b :: argsL).toArray q B ∧
      Steps p.tables e below (T.setTop g) ((B.U.setTop { g with stack := rest }).pushFrame (.throwing q))) := by
  obtain ⟨mk, methM, hnamed, hmethM, hstM, habM⟩ := Cond.instanceMethod_spec hinst
  obtain ⟨m8, methM', cM, hn8, hmethM', -, -, -, -, -, -, hsigM⟩ := Cond.codeWith_spec hcode
  cases Option.some.inj (hn8.symm.trans hnamed)
  cases hmethM.symm.trans hmethM'
  obtain ⟨c2, r2, m2, q1, q2, q3, q4, kP, hkP, hkPi⟩ := Cond.selects_spec hsel
  cases hcls.symm.trans q1
  cases (State.methodFound?_of_named hnamed hy).symm.trans q2
  cases hnamed.symm.trans q3
  have hselP : selectMethod e.platform s.vm cellB.cls mk = .method mk := by rw [Launch.admits_selectMethod X.admits]; exact q4
  obtain ⟨vm₁, X₁, hstep₁⟩ := X.invokevirtual hexec hown hlink hnamed hmethM hstM hkP hkPi hy (a := b) (cell := cellB) hcell
    (fun z h => by rw [h] at hobj; cases hobj) hselP hmethM habM hkP hkPi (g := g) hg (argsL := argsL) (rest := rest) (hlen _ hsigM) hstack hdg
  rcases hK m meth c ⟨T.setVm vm₁, locs, cells, slots⟩ { g with stack := rest } (.invokevirtual index) mk (Value.ref b :: argsL).toArray X₁ hg hsize hdg hW (X₁.named hnamed) (hpre vm₁ X₁.warmed) with ⟨v, B, X', hpost, hsteps⟩ | ⟨q, B, X', hpost, hsteps⟩
  · exact Or.inl ⟨v, vm₁, B, X₁.warmed, X', hpost, fun target h => hstep₁ _ fun acts => by rw [doInvoke_state]; exact hsteps.trans h⟩
  · exact Or.inr ⟨q, vm₁, B, X₁.warmed, X', hpost, hstep₁ _ fun acts => by rw [doInvoke_state]; exact hsteps⟩
theorem vx_callSX (X : Stand p l e R s m args below meth c T locs cells slots) (hexec : p.tables.exec = Jvm.exec) {own : String} {index : Nat} {y : MethodName} {bytes : ByteArray} {maxL : Nat} {ret : Option FieldType} {hh : List (Nat × Nat × Nat × Nat)}
    (hown : s.vm.findClass own = some m.cls) (hlink : (Cond.methodLink own index y).before args s = true) (hstat : (Cond.static y).before args s = true) (hinit : (Cond.initialized y.cls).before args s = true)
    (hcode : (Cond.codeWith y bytes maxL ret hh).before args s = true) (hy : y.cls ≠ "java/lang/invoke/MethodHandle" ∧ y.cls ≠ "java/lang/invoke/VarHandle")
    {W9 : Nat} {Pre : Pt → Array Value → Prop} {Post : Pt → Array Value → Option Value → Pt → Prop} {PostX : Pt → Array Value → Addr → Pt → Prop} (hK : vx_Back l R p e below s args y 3 W9 Pre Post PostX)
    {g : JFrame} (hg : g.method = m) (hsize : g.locals.size = c.maxLocals) {argsL rest : List Value} (hlen : ∀ sig, parseMethodDescriptor y.desc = some sig → argsL.length = sig.parameters.length)
    (hstack : g.stack = argsL.reverse ++ rest) (hW : 2 * g.monitorRoom + (rest.map fun v => v.category).sum ≤ W9) (hdg : decode c.code g.pc = .ok (.invokestatic index, 3))
    (hpre : ∀ vm₁, s.WarmedH vm₁ → Pre ⟨T.setVm vm₁, locs, cells, slots⟩ argsL.toArray) :
    (∃ (v : Option Value) (vm₁ : Vm) (B : Pt), s.WarmedH vm₁ ∧ Stand p l e R s m args below meth c B.U B.locs B.cells B.slots ∧ Post ⟨T.setVm vm₁, locs, cells, slots⟩ argsL.toArray v B ∧
      ∀ target, Steps p.tables e below (B.U.setTop { g with pc := g.pc + 3, stack := v.toList ++ rest }) target → Steps p.tables e below (T.setTop g) target) ∨
    (∃ (q : Addr) (vm₁ : Vm) (B : Pt), s.WarmedH vm₁ ∧ Stand p l e R s m args below meth c B.U B.locs B.cells B.slots ∧ PostX ⟨T.setVm vm₁, locs, cells, slots⟩ argsL.toArray q B ∧
      Steps p.tables e below (T.setTop g) ((B.U.setTop { g with stack := rest }).pushFrame (.throwing q))) := by
  obtain ⟨mk, methM, cM, hnamed, hmethM, -, -, -, -, -, -, hsigM⟩ := Cond.codeWith_spec hcode
  have hstatic : methM.isStatic = true := Cond.static_spec hnamed hmethM hstat
  obtain ⟨kP, hkP, -⟩ := className_of_methodNamed hnamed
  have hinitP : kP.init = .initialized := Cond.initialized_spec (findClass_of_methodNamed hnamed) hkP hinit
  obtain ⟨vm₁, X₁, hstep₁⟩ := X.invokestatic hexec hown hlink hnamed hmethM hstatic hkP hinitP hy (g := g) hg (argsL := argsL) (rest := rest) (hlen _ hsigM) hstack hdg
  rcases hK m meth c ⟨T.setVm vm₁, locs, cells, slots⟩ { g with stack := rest } (.invokestatic index) mk argsL.toArray X₁ hg hsize hdg hW (X₁.named hnamed) (hpre vm₁ X₁.warmed) with ⟨v, B, X', hpost, hsteps⟩ | ⟨q, B, X', hpost, hsteps⟩
  · exact Or.inl ⟨v, vm₁, B, X₁.warmed, X', hpost, fun target h => hstep₁ _ fun acts => by rw [doInvoke_state]; exact hsteps.trans h⟩
  · exact Or.inr ⟨q, vm₁, B, X₁.warmed, X', hpost, hstep₁ _ fun acts => by rw [doInvoke_state]; exact hsteps⟩
theorem vx_callVW (X : Stand p l e R s m args below meth c T locs cells slots) (hexec : p.tables.exec = Jvm.exec) {own C : String} {index : Nat} {y : MethodName} {bytes : ByteArray} {maxL : Nat} {ret : Option FieldType} {hh : List (Nat × Nat × Nat × Nat)}
    (hown : s.vm.findClass own = some m.cls) (hlink : (Cond.methodLink own index y).before args s = true) (hinst : (Cond.instanceMethod y).before args s = true) (hsel : (Cond.selects C y y).before args s = true)
    (hcode : (Cond.codeWith y bytes maxL ret hh).before args s = true) (hy : y.cls ≠ "java/lang/invoke/MethodHandle" ∧ y.cls ≠ "java/lang/invoke/VarHandle")
    {W9 : Nat} {Pre : Pt → Array Value → Prop} {Post : Pt → Array Value → Option Value → Pt → Prop} (hK : Back l R p e below s args y 3 W9 Pre Post)
    {b : Addr} {cellB : Cell} (hcell : T.heap[b]? = some cellB) (hobj : cellB.vm.isStatics = false) (hcls : s.vm.findClass C = some cellB.cls)
    {g : JFrame} (hg : g.method = m) (hsize : g.locals.size = c.maxLocals) {argsL rest : List Value} (hlen : ∀ sig, parseMethodDescriptor y.desc = some sig → argsL.length = sig.parameters.length)
    (hstack : g.stack = argsL.reverse ++ .ref b :: rest) (hW : 2 * g.monitorRoom + (rest.map fun v => v.category).sum ≤ W9) (hdg : decode c.code g.pc = .ok (.invokevirtual index, 3))
    (hpre : ∀ vm₁, s.WarmedH vm₁ → Pre ⟨T.setVm vm₁, locs, cells, slots⟩ (Value.ref b :: argsL).toArray) :
    ∃ (v : Option Value) (vm₁ : Vm) (B : Pt), s.WarmedH vm₁ ∧ Stand p l e R s m args below meth c B.U B.locs B.cells B.slots ∧ Post ⟨T.setVm vm₁, locs, cells, slots⟩ (Value.ref b :: argsL).toArray v B ∧
      ∀ target, Steps p.tables e below (B.U.setTop { g with pc := g.pc + 3, stack := v.toList ++ rest }) target → Steps p.tables e below (T.setTop g) target := by
  obtain ⟨mk, methM, hnamed, hmethM, hstM, habM⟩ := Cond.instanceMethod_spec hinst
  obtain ⟨m8, methM', cM, hn8, hmethM', -, -, -, -, -, -, hsigM⟩ := Cond.codeWith_spec hcode
  cases Option.some.inj (hn8.symm.trans hnamed)
  cases hmethM.symm.trans hmethM'
  obtain ⟨c2, r2, m2, q1, q2, q3, q4, kP, hkP, hkPi⟩ := Cond.selects_spec hsel
  cases hcls.symm.trans q1
  cases (State.methodFound?_of_named hnamed hy).symm.trans q2
  cases hnamed.symm.trans q3
  have hselP : selectMethod e.platform s.vm cellB.cls mk = .method mk := by rw [Launch.admits_selectMethod X.admits]; exact q4
  obtain ⟨vm₁, X₁, hstep₁⟩ := X.invokevirtual hexec hown hlink hnamed hmethM hstM hkP hkPi hy (a := b) (cell := cellB) hcell
    (fun z h => by rw [h] at hobj; cases hobj) hselP hmethM habM hkP hkPi (g := g) hg (argsL := argsL) (rest := rest) (hlen _ hsigM) hstack hdg
  obtain ⟨v, B, X', hpost, hsteps⟩ := hK m meth c ⟨T.setVm vm₁, locs, cells, slots⟩ { g with stack := rest } (.invokevirtual index) mk (Value.ref b :: argsL).toArray X₁ hg hsize hdg hW (X₁.named hnamed) (hpre vm₁ X₁.warmed)
  exact ⟨v, vm₁, B, X₁.warmed, X', hpost, fun target h => hstep₁ _ fun acts => by rw [doInvoke_state]; exact hsteps.trans h⟩
abbrev vx_CVW (R : Room) (s : State) (args : Array Value) (own C : String) (index : Nat) (y : MethodName) (bytes : ByteArray) (maxL : Nat) (ret : Option FieldType) (hh : List (Nat × Nat × Nat × Nat)) (ws : List Cond) (rm : Room) (mc ms n : Nat) : Prop :=
  (rm.cells = mc ∧ rm.slots = ms ∧ rm.frames + 1 ≤ R.frames ∧ 8 + (maxL + 11) + rm.locals ≤ R.locals ∧ (∀ w ∈ ws, ∀ (a' : Array Value) (U : State), s.WarmedH U.vm → w.before a' U = true) ∧ Cond.codeWith y bytes maxL ret hh ∈ ws) ∧
  (Cond.codeWith y bytes maxL ret hh).before args s = true ∧ (Cond.initialized y.cls).before args s = true ∧ (y.cls ≠ "java/lang/invoke/MethodHandle" ∧ y.cls ≠ "java/lang/invoke/VarHandle") ∧
  (∀ sig, parseMethodDescriptor y.desc = some sig → n = sig.parameters.length) ∧ (Cond.methodLink own index y).before args s = true ∧ (Cond.instanceMethod y).before args s = true ∧ (Cond.selects C y y).before args s = true
theorem vx_cwVW {own C : String} {index maxL mc ms : Nat} {y : MethodName} {bytes : ByteArray} {ret : Option FieldType} {hh : List (Nat × Nat × Nat × Nat)} {Ts ws ws' : List Cond} {rm : Room} (n : Nat) (ht : ∀ w ∈ Ts, w.before args s = true) (hT : GoodIn Ts (wsV own index C y ws)) (hw : ws = Cond.codeWith y bytes maxL ret hh :: ws') (hrc : rm.cells = mc) (hrs : rm.slots = ms)
    (hd : y.cls = C ∧ y.cls ≠ "java/lang/invoke/MethodHandle" ∧ y.cls ≠ "java/lang/invoke/VarHandle" ∧ (parseMethodDescriptor y.desc).map (fun d => d.parameters.length) = some n) (hR : rm.frames + 1 ≤ R.frames ∧ 8 + (maxL + 11) + rm.locals ≤ R.locals) :
    vx_CVW R s args own C index y bytes maxL ret hh ws rm mc ms n := by
  obtain ⟨hC, hd⟩ := hd
  subst hC
  have ok : ∀ w ∈ wsV own index y.cls y ws, w.before args s = true := fun w h => ht w (hT w h).1
  have hG : GoodIn Ts ws := fun w h => hT w (by unfold wsV; exact List.mem_append_right _ h)
  have hc : Cond.codeWith y bytes maxL ret hh ∈ ws := by rw [hw]; exact List.mem_cons_self
  refine ⟨⟨hrc, hrs, hR.1, hR.2, pay_in ht hG, hc⟩, ht _ (hG _ hc).1, ok _ (by simp [wsV]), ⟨hd.1, hd.2.1⟩, fun sig h => ?_, ok _ (by simp [wsV]), ok _ (by simp [wsV]), ok _ (by simp [wsV])⟩
  have h2 := hd.2.2
  rw [h] at h2
  exact (Option.some.inj h2).symm
theorem vx_runVW {y : MethodName} {bytes cc : ByteArray} {maxL nL mc ms n index : Nat} {ret : Option FieldType} {hh : List (Nat × Nat × Nat × Nat)} {ws : List Cond} {rm : Room} {Pc : Array Value → State → Prop} {Qc : Array Value → State → Outcome → State → Prop} {free : Addr → Prop} {Ts : List Cond} {own C : String} {b : Addr} {As rest : List Value} {g : JFrame}
    (S : CallFix p m c cc nL s args Ts own) (hM : Met l y ws rm Pc Qc mc ms free) (cw : vx_CVW R s args own C index y bytes maxL ret hh ws rm mc ms n) (hp : PreV s H C b Pc As)
    (hg : g.method = m) (hn : As.length = n) (hsize : g.locals.size = nL) (hstack : g.stack = As.reverse ++ .ref b :: rest) (hW : 2 * g.monitorRoom + (rest.map fun v => v.category).sum ≤ 8) (hdg : decode cc g.pc = .ok (.invokevirtual index, 3)) (hf : cells + mc ≤ R.cells ∧ slots + ms ≤ R.slots) :
    va_Run p l e R s m args below meth c H locs cells slots mc ms g rest (Qc (Value.ref b :: As).toArray) free := by
  obtain ⟨⟨hrc, hrs, hfr, hlo, hws, hcw⟩, hcode, hini, hy, hlen, hl, hin, hse⟩ := cw
  have hK : Back l R p e below s args y 3 8 (PreOf R mc ms Pc) (PostOf Qc mc ms free) := va_backW (hh := hh) (bytes := bytes) (maxL := maxL) (ret := ret) hM hp.1 hrc hrs hfr hlo hws hcw (fun a' U hW => word_at hW (Or.inl (by first | rfl | simp [Cond.onTables, Cond.keeps, Cond.steady])) hini)
  obtain ⟨hx, hb, hml, ho, -⟩ := S
  obtain ⟨-, ⟨cellB, hcB, hoB, hclB⟩, hPc⟩ := hp
  intro T hT X
  obtain ⟨v, vm₁, ⟨U', l2, c2, s2⟩, hW₁, X', ⟨g', mk, t, L, e1, e2, hq, h1, hL, h2, h3⟩, st⟩ := vx_callVW X hx (C := C) (hh := hh) (bytes := bytes) (maxL := maxL) (ret := ret) ho hl hin hse hcode hy hK (by rw [hT]; exact hcB) hoB hclB hg (hsize.trans hml.symm) (argsL := As) (rest := rest) (fun sig h => hn.trans (hlen sig h)) hstack hW (by rw [hb]; exact hdg)
    (fun vm₁ hW₁ => ⟨hf.1, hf.2, hPc (T.setVm vm₁) hT hW₁⟩)
  dsimp only [Pt.U, Pt.locs, Pt.cells, Pt.slots] at X' e1 e2 h1 h2 h3 st
  subst h1; subst h2; subst h3
  exact ⟨v, (T.setVm vm₁).calling g' mk (Value.ref b :: As).toArray, t, U', L, hT, X', hL, e1, e2, hq, st⟩
section
variable {y : MethodName} {bytes cc : ByteArray} {maxL nL mc ms n index : Nat} {ret : Option FieldType} {ws : List Cond} {rm : Room} {Pc : Array Value → State → Prop} {Qc : Array Value → State → Outcome → State → Prop} {XC : String → State → State → Prop} {free : Addr → Prop} {Ts : List Cond} {own C : String} {b : Addr} {As rest : List Value} {g : JFrame}
theorem vx_runVX {hh : List (Nat × Nat × Nat × Nat)} (S : CallFix p m c cc nL s args Ts own) (hM : vx_Met l y ws rm Pc Qc XC mc ms free) (cw : vx_CVW R s args own C index y bytes maxL ret hh ws rm mc ms n) (hp : PreV s H C b Pc As)
    (hg : g.method = m) (hn : As.length = n) (hsize : g.locals.size = nL) (hstack : g.stack = As.reverse ++ .ref b :: rest) (hW : 2 * g.monitorRoom + (rest.map fun v => v.category).sum ≤ 8) (hdg : decode cc g.pc = .ok (.invokevirtual index, 3)) (hf : cells + mc ≤ R.cells ∧ slots + ms ≤ R.slots) :
    vx_Run p l e R s m args below meth c H locs cells slots mc ms g rest (Qc (Value.ref b :: As).toArray) XC free := by
  obtain ⟨⟨hrc, hrs, hfr, hlo, hws, hcw⟩, hcode, hini, hy, hlen, hl, hin, hse⟩ := cw
  have hK : vx_Back l R p e below s args y 3 8 (PreOf R mc ms Pc) (PostOf Qc mc ms free) (vx_Post XC mc ms free) := vx_backW (hh := hh) (bytes := bytes) (maxL := maxL) (ret := ret) hM hp.1 hrc hrs hfr hlo hws hcw (fun a' U hW => word_at hW (Or.inl (by first | rfl | simp [Cond.onTables, Cond.keeps, Cond.steady])) hini)
  obtain ⟨hx, hb, hml, ho, -⟩ := S
  obtain ⟨-, ⟨cellB, hcB, hoB, hclB⟩, hPc⟩ := hp
  intro T hT X
  rcases vx_callVX X hx (C := C) (hh := hh) (bytes := bytes) (maxL := maxL) (ret := ret) ho hl hin hse hcode hy hK (by rw [hT]; exact hcB) hoB hclB hg (hsize.trans hml.symm) (argsL := As) (rest := rest) (fun sig h => hn.trans (hlen sig h)) hstack hW (by rw [hb]; exact hdg)
    (fun vm₁ hW₁ => ⟨hf.1, hf.2, hPc (T.setVm vm₁) hT hW₁⟩) with ⟨v, vm₁, ⟨U', l2, c2, s2⟩, hW₁, X', ⟨g', mk, t, L, e1, e2, hq, h1, hL, h2, h3⟩, st⟩ | ⟨q, vm₁, ⟨U', l2, c2, s2⟩, hW₁, X', ⟨g', mk, t, L, E, ce, e1, e2, hq, hce, hcv, hcl, h1, hL, h2, h3⟩, st⟩
  · dsimp only [Pt.U, Pt.locs, Pt.cells, Pt.slots] at X' e1 e2 h1 h2 h3 st
    subst h1; subst h2; subst h3
    exact Or.inl ⟨v, (T.setVm vm₁).calling g' mk (Value.ref b :: As).toArray, t, U', L, hT, X', hL, e1, e2, hq, st⟩
  · dsimp only [Pt.U, Pt.locs, Pt.cells, Pt.slots] at X' e1 e2 h1 h2 h3 st hcl
    subst h1; subst h2; subst h3
    exact Or.inr ⟨q, (T.setVm vm₁).calling g' mk (Value.ref b :: As).toArray, t, U', L, E, ce, hT, X', hL, e1, e2, hq, hce, hcv, vx_cls hW₁ hcl, st⟩
theorem vx_runSX {hh : List (Nat × Nat × Nat × Nat)} (S : CallFix p m c cc nL s args Ts own) (hM : vx_Met l y ws rm Pc Qc XC mc ms free) (cw : vx_CSW R s args own index y bytes maxL ret hh ws rm mc ms n) (hp : PreS s H Pc As)
    (hg : g.method = m) (hn : As.length = n) (hsize : g.locals.size = nL) (hstack : g.stack = As.reverse ++ rest) (hW : 2 * g.monitorRoom + (rest.map fun v => v.category).sum ≤ 8) (hdg : decode cc g.pc = .ok (.invokestatic index, 3)) (hf : cells + mc ≤ R.cells ∧ slots + ms ≤ R.slots) :
    vx_Run p l e R s m args below meth c H locs cells slots mc ms g rest (Qc As.toArray) XC free := by
  obtain ⟨⟨hrc, hrs, hfr, hlo, hws, hcw⟩, hcode, hini, hy, hlen, hl, hstt⟩ := cw
  have hK : vx_Back l R p e below s args y 3 8 (PreOf R mc ms Pc) (PostOf Qc mc ms free) (vx_Post XC mc ms free) := vx_backW (hh := hh) (bytes := bytes) (maxL := maxL) (ret := ret) hM hp.1 hrc hrs hfr hlo hws hcw (fun a' U hW => word_at hW (Or.inl (by first | rfl | simp [Cond.onTables, Cond.keeps, Cond.steady])) hini)
  obtain ⟨hx, hb, hml, ho, -⟩ := S
  intro T hT X
  rcases vx_callSX X hx (hh := hh) (bytes := bytes) (maxL := maxL) (ret := ret) ho hl hstt hini hcode hy hK hg (hsize.trans hml.symm) (argsL := As) (rest := rest) (fun sig h => hn.trans (hlen sig h)) hstack hW (by rw [hb]; exact hdg)
    (fun vm₁ hW₁ => ⟨hf.1, hf.2, hp.2 (T.setVm vm₁) hT hW₁⟩) with ⟨v, vm₁, ⟨U', l2, c2, s2⟩, hW₁, X', ⟨g', mk, t, L, e1, e2, hq, h1, hL, h2, h3⟩, st⟩ | ⟨q, vm₁, ⟨U', l2, c2, s2⟩, hW₁, X', ⟨g', mk, t, L, E, ce, e1, e2, hq, hce, hcv, hcl, h1, hL, h2, h3⟩, st⟩
  · dsimp only [Pt.U, Pt.locs, Pt.cells, Pt.slots] at X' e1 e2 h1 h2 h3 st
    subst h1; subst h2; subst h3
    exact Or.inl ⟨v, (T.setVm vm₁).calling g' mk As.toArray, t, U', L, hT, X', hL, e1, e2, hq, st⟩
  · dsimp only [Pt.U, Pt.locs, Pt.cells, Pt.slots] at X' e1 e2 h1 h2 h3 st hcl
    subst h1; subst h2; subst h3
    exact Or.inr ⟨q, (T.setVm vm₁).calling g' mk As.toArray, t, U', L, E, ce, hT, X', hL, e1, e2, hq, hce, hcv, vx_cls hW₁ hcl, st⟩
end
end VXH
theorem vx_ofWH {l : Launch} {y : MethodName} {ws ws' : List Cond} {rm : Room} {Pc : Array Value → State → Prop} {Qc : Array Value → State → Outcome → State → Prop} {XC : String → State → State → Prop} {mc ms : Nat} {free : Addr → Prop} {cc : ByteArray} {maxL : Nat} {ret : Option FieldType} {hh : List (Nat × Nat × Nat × Nat)}
    (hy : plainName y.cls = true) (hw : ws = Cond.codeWith y cc maxL ret hh :: ws')
    (body : ∀ p e s m args below meth c s₁, BodyLoose p l y (headSpec ws rm) cc maxL ret e s m args below meth c s₁ → c.maxLocals = maxL → Pc args s →
      W p l e (headSpec ws rm).room s m args below meth c s.heap [] 0 0 (vx_MQ below Qc XC args s mc ms free) (entryFrame m args maxL)) : vx_Met l y ws rm Pc Qc XC mc ms free := by
  refine MetFree.of_bodyS (code := cc) (maxLocals := maxL) (ret := ret) hy ?_ ?_
  · intro args s m h hn
    obtain ⟨m9, meth, c, hn9, h1, h2, h3, h4, -, h5, h6, -⟩ := Cond.codeWith_spec (atoms_spec (ws := ws) h _ (by rw [hw]; exact List.mem_cons_self))
    cases hn.symm.trans hn9
    exact ⟨meth, c, h1, h2, h3, h4, h5, h6⟩
  · intro p e s m args below meth c s₁ B hml hP _
    have hh0 : s₁.heap = s.heap := by rw [B.state]; rfl
    obtain ⟨t, a1, o, b1, b2, b3⟩ := body p e s m args below meth c s₁ B hml hP s₁ hh0 (Stand.of_body B)
    exact ⟨t, o, a1, b1, b2, b3⟩
/-! ===== END ===== -/

/-! ===== BEGIN printed: names, fields, word lists, decode rows ===== -/
def RX0 : String := "TesseraeRow$Cell"
def TX0 : u_T := fun k => match k with
  | 0 => ("TesseraeRow$Cell", "x", "I", true)
  | 1 => ("TesseraeRow$Cell", "y", "I", true)
  | 2 => ("TesseraeRow$Cell", "kind", "I", false)
  | 3 => ("TesseraeRow$Cell", "lot", "LTesseraeRow$Lot;", false)
  | 4 => ("TesseraeRow$Cell", "wanted", "I", false)
  | 5 => ("TesseraeRow$Cell", "aim", "F", false)
  | 6 => ("TesseraeRow$Cell", "brought", "F", false)
  | 7 => ("TesseraeRow$Cell", "round", "I", false)
  | 8 => ("TesseraeRow$Cell", "laidAt", "I", false)
  | _ => ("TesseraeRow$Cell", "dryAt", "I", false)
def tyX0 : Nat → FieldType := fun k => match k with
  | 0 => .int
  | 1 => .int
  | 2 => .int
  | 3 => .object "TesseraeRow$Lot"
  | 4 => .int
  | 5 => .float
  | 6 => .float
  | 7 => .int
  | 8 => .int
  | _ => .int
abbrev wsX00 : List Cond := u_ws RX0 TX0 10
theorem nmX0 : ∀ a, a < 10 → ∀ b, b < 10 → a ≠ b → (TX0 a).2.1 ≠ (TX0 b).2.1 := by decide +kernel
theorem tyX0_ok : ∀ k, k < 10 → parseFieldDescriptor (TX0 k).2.2.1 = some (tyX0 k) := by decide +kernel
abbrev cX0_init : ByteArray := prog_2_method_1_code
def yX0_init : MethodName := ⟨RX0, "<init>", "(III)V"⟩
abbrev cX0_isDone : ByteArray := prog_2_method_2_code
def yX0_isDone : MethodName := ⟨RX0, "isDone", "()Z"⟩
abbrev cX0_isPromised : ByteArray := prog_2_method_3_code
def yX0_isPromised : MethodName := ⟨RX0, "isPromised", "(LTesseraeRow$Lot;)Z"⟩
abbrev cX0_promise : ByteArray := prog_2_method_4_code
def yX0_promise : MethodName := ⟨RX0, "promise", "(LTesseraeRow$Lot;)V"⟩
abbrev cX0_takeBack : ByteArray := prog_2_method_5_code
def yX0_takeBack : MethodName := ⟨RX0, "takeBack", "()V"⟩
abbrev cX0_lay : ByteArray := prog_2_method_6_code
def yX0_lay : MethodName := ⟨RX0, "lay", "(II)V"⟩
abbrev cX0_stoneTone : ByteArray := prog_2_method_7_code
def yX0_stoneTone : MethodName := ⟨RX0, "stoneTone", "()F"⟩
abbrev cX0_lackBehind : ByteArray := prog_2_method_8_code
def yX0_lackBehind : MethodName := ⟨RX0, "lackBehind", "(F)F"⟩
abbrev cX0_bring : ByteArray := prog_2_method_9_code
def yX0_bring : MethodName := ⟨RX0, "bring", "(F)V"⟩
def RX1 : String := "TesseraeRow$Crew"
def TX1 : u_T := fun k => match k with
  | 0 => ("TesseraeRow$Crew", "rate", "I", false)
  | 1 => ("TesseraeRow$Crew", "dry", "I", false)
  | 2 => ("TesseraeRow$Crew", "at", "LTesseraeRow$Picture;", false)
  | 3 => ("TesseraeRow$Crew", "material", "I", false)
  | 4 => ("TesseraeRow$Crew", "tray", "[LTesseraeRow$Lot;", true)
  | 5 => ("TesseraeRow$Crew", "onTray", "I", false)
  | _ => ("TesseraeRow$Crew", "laid", "I", false)
def tyX1 : Nat → FieldType := fun k => match k with
  | 0 => .int
  | 1 => .int
  | 2 => .object "TesseraeRow$Picture"
  | 3 => .int
  | 4 => .array (.object "TesseraeRow$Lot")
  | 5 => .int
  | _ => .int
abbrev wsX10 : List Cond := u_ws RX1 TX1 7
theorem nmX1 : ∀ a, a < 7 → ∀ b, b < 7 → a ≠ b → (TX1 a).2.1 ≠ (TX1 b).2.1 := by decide +kernel
theorem tyX1_ok : ∀ k, k < 7 → parseFieldDescriptor (TX1 k).2.2.1 = some (tyX1 k) := by decide +kernel
abbrev cX1_init : ByteArray := prog_3_method_1_code
def yX1_init : MethodName := ⟨RX1, "<init>", "()V"⟩
abbrev cX1_pictureNumber : ByteArray := prog_3_method_2_code
def yX1_pictureNumber : MethodName := ⟨RX1, "pictureNumber", "()I"⟩
abbrev cX1_hasOnTray : ByteArray := prog_3_method_3_code
def yX1_hasOnTray : MethodName := ⟨RX1, "hasOnTray", "(LTesseraeRow$Lot;)Z"⟩
abbrev cX1_takeOnTray : ByteArray := prog_3_method_4_code
def yX1_takeOnTray : MethodName := ⟨RX1, "takeOnTray", "(LTesseraeRow$Lot;)Z"⟩
abbrev cX1_layFor : ByteArray := prog_3_method_5_code
def yX1_layFor : MethodName := ⟨RX1, "layFor", "(I)I"⟩
abbrev cX1_layNext : ByteArray := prog_3_method_6_code
def yX1_layNext : MethodName := ⟨RX1, "layNext", "(I)Z"⟩
def RX2 : String := "TesseraeRow$Lot"
def TX2 : u_T := fun k => match k with
  | 0 => ("TesseraeRow$Lot", "number", "I", true)
  | 1 => ("TesseraeRow$Lot", "tone", "F", true)
  | 2 => ("TesseraeRow$Lot", "material", "I", true)
  | 3 => ("TesseraeRow$Lot", "isThere", "Z", false)
  | 4 => ("TesseraeRow$Lot", "left", "I", false)
  | 5 => ("TesseraeRow$Lot", "promised", "I", false)
  | _ => ("TesseraeRow$Lot", "laid", "I", false)
def tyX2 : Nat → FieldType := fun k => match k with
  | 0 => .int
  | 1 => .float
  | 2 => .int
  | 3 => .boolean
  | 4 => .int
  | 5 => .int
  | _ => .int
abbrev wsX20 : List Cond := u_ws RX2 TX2 7
theorem nmX2 : ∀ a, a < 7 → ∀ b, b < 7 → a ≠ b → (TX2 a).2.1 ≠ (TX2 b).2.1 := by decide +kernel
theorem tyX2_ok : ∀ k, k < 7 → parseFieldDescriptor (TX2 k).2.2.1 = some (tyX2 k) := by decide +kernel
abbrev cX2_init : ByteArray := prog_4_method_1_code
def yX2_init : MethodName := ⟨RX2, "<init>", "(IFIIZ)V"⟩
abbrev cX2_canPromise : ByteArray := prog_4_method_2_code
def yX2_canPromise : MethodName := ⟨RX2, "canPromise", "()Z"⟩
def RX3 : String := "TesseraeRow$Picture"
def TX3 : u_T := fun k => match k with
  | 0 => ("TesseraeRow$Picture", "number", "I", true)
  | 1 => ("TesseraeRow$Picture", "width", "I", true)
  | 2 => ("TesseraeRow$Picture", "height", "I", true)
  | _ => ("TesseraeRow$Picture", "cells", "[LTesseraeRow$Cell;", true)
def tyX3 : Nat → FieldType := fun k => match k with
  | 0 => .int
  | 1 => .int
  | 2 => .int
  | _ => .array (.object "TesseraeRow$Cell")
abbrev wsX30 : List Cond := u_ws RX3 TX3 4
theorem nmX3 : ∀ a, a < 4 → ∀ b, b < 4 → a ≠ b → (TX3 a).2.1 ≠ (TX3 b).2.1 := by decide +kernel
theorem tyX3_ok : ∀ k, k < 4 → parseFieldDescriptor (TX3 k).2.2.1 = some (tyX3 k) := by decide +kernel
abbrev cX3_init : ByteArray := prog_5_method_1_code
def yX3_init : MethodName := ⟨RX3, "<init>", "(IIII)V"⟩
abbrev cX3_cellAt : ByteArray := prog_5_method_2_code
def yX3_cellAt : MethodName := ⟨RX3, "cellAt", "(II)LTesseraeRow$Cell;"⟩
abbrev cX3_count : ByteArray := prog_5_method_3_code
def yX3_count : MethodName := ⟨RX3, "count", "(I)I"⟩
abbrev cX3_designFrom : ByteArray := prog_5_method_4_code
def yX3_designFrom : MethodName := ⟨RX3, "designFrom", "([LTesseraeRow$Lot;)V"⟩
abbrev cX3_aimByNow : ByteArray := prog_5_method_5_code
def yX3_aimByNow : MethodName := ⟨RX3, "aimByNow", "(LTesseraeRow$Cell;)F"⟩
abbrev cX3_forgetBrought : ByteArray := prog_5_method_6_code
def yX3_forgetBrought : MethodName := ⟨RX3, "forgetBrought", "()V"⟩
abbrev cX3_promiseNearest : ByteArray := prog_5_method_7_code
def yX3_promiseNearest : MethodName := ⟨RX3, "promiseNearest", "(LTesseraeRow$Cell;[LTesseraeRow$Lot;)V"⟩
abbrev cX3_distance : ByteArray := prog_5_method_8_code
def yX3_distance : MethodName := ⟨RX3, "distance", "(FF)F"⟩
abbrev cX3_passOn : ByteArray := prog_5_method_9_code
def yX3_passOn : MethodName := ⟨RX3, "passOn", "(LTesseraeRow$Cell;F)V"⟩
abbrev cX3_bringTo : ByteArray := prog_5_method_10_code
def yX3_bringTo : MethodName := ⟨RX3, "bringTo", "(IIF)V"⟩
abbrev cX3_giveOddCells : ByteArray := prog_5_method_11_code
def yX3_giveOddCells : MethodName := ⟨RX3, "giveOddCells", "(LTesseraeRow$Lot;LTesseraeRow$Lot;)I"⟩
abbrev cX3_fillGaps : ByteArray := prog_5_method_12_code
def yX3_fillGaps : MethodName := ⟨RX3, "fillGaps", "()I"⟩
abbrev cX3_fillRound : ByteArray := prog_5_method_13_code
def yX3_fillRound : MethodName := ⟨RX3, "fillRound", "(I)I"⟩
abbrev cX3_fillCell : ByteArray := prog_5_method_14_code
def yX3_fillCell : MethodName := ⟨RX3, "fillCell", "(LTesseraeRow$Cell;I)Z"⟩
abbrev cX3_firstUndone : ByteArray := prog_5_method_15_code
def yX3_firstUndone : MethodName := ⟨RX3, "firstUndone", "()LTesseraeRow$Cell;"⟩
abbrev cX3_isDryRow : ByteArray := prog_5_method_16_code
def yX3_isDryRow : MethodName := ⟨RX3, "isDryRow", "(II)Z"⟩
abbrev cX3_greatestEdge : ByteArray := prog_5_method_17_code
def yX3_greatestEdge : MethodName := ⟨RX3, "greatestEdge", "()F"⟩
abbrev cX3_edgeBetween : ByteArray := prog_5_method_18_code
def yX3_edgeBetween : MethodName := ⟨RX3, "edgeBetween", "(LTesseraeRow$Cell;LTesseraeRow$Cell;)F"⟩
def RX4 : String := "TesseraeRow"
def TX4 : u_T := fun k => match k with
  | 0 => ("TesseraeRow", "lots", "[LTesseraeRow$Lot;", true)
  | 1 => ("TesseraeRow", "pictures", "[LTesseraeRow$Picture;", true)
  | 2 => ("TesseraeRow", "crews", "[LTesseraeRow$Crew;", true)
  | 3 => ("TesseraeRow", "lotCount", "I", false)
  | 4 => ("TesseraeRow", "pictureCount", "I", false)
  | _ => ("TesseraeRow", "now", "I", false)
def tyX4 : Nat → FieldType := fun k => match k with
  | 0 => .array (.object "TesseraeRow$Lot")
  | 1 => .array (.object "TesseraeRow$Picture")
  | 2 => .array (.object "TesseraeRow$Crew")
  | 3 => .int
  | 4 => .int
  | _ => .int
abbrev wsX40 : List Cond := u_ws RX4 TX4 6
theorem nmX4 : ∀ a, a < 6 → ∀ b, b < 6 → a ≠ b → (TX4 a).2.1 ≠ (TX4 b).2.1 := by decide +kernel
theorem tyX4_ok : ∀ k, k < 6 → parseFieldDescriptor (TX4 k).2.2.1 = some (tyX4 k) := by decide +kernel
abbrev cX4_init : ByteArray := prog_1_method_1_code
def yX4_init : MethodName := ⟨RX4, "<init>", "()V"⟩
abbrev cX4_lot : ByteArray := prog_1_method_2_code
def yX4_lot : MethodName := ⟨RX4, "lot", "(IIIZ)I"⟩
abbrev cX4_comes : ByteArray := prog_1_method_3_code
def yX4_comes : MethodName := ⟨RX4, "comes", "(I)I"⟩
abbrev cX4_picture : ByteArray := prog_1_method_4_code
def yX4_picture : MethodName := ⟨RX4, "picture", "(III)I"⟩
abbrev cX4_cell : ByteArray := prog_1_method_5_code
def yX4_cell : MethodName := ⟨RX4, "cell", "(IIII)I"⟩
abbrev cX4_old : ByteArray := prog_1_method_6_code
def yX4_old : MethodName := ⟨RX4, "old", "(IIII)I"⟩
abbrev cX4_fill : ByteArray := prog_1_method_7_code
def yX4_fill : MethodName := ⟨RX4, "fill", "(I)I"⟩
abbrev cX4_design : ByteArray := prog_1_method_8_code
def yX4_design : MethodName := ⟨RX4, "design", "(I)I"⟩
abbrev cX4_share : ByteArray := prog_1_method_9_code
def yX4_share : MethodName := ⟨RX4, "share", "(III)I"⟩
abbrev cX4_send : ByteArray := prog_1_method_10_code
def yX4_send : MethodName := ⟨RX4, "send", "(II)I"⟩
abbrev cX4_crew : ByteArray := prog_1_method_11_code
def yX4_crew : MethodName := ⟨RX4, "crew", "(III)I"⟩
abbrev cX4_tray : ByteArray := prog_1_method_12_code
def yX4_tray : MethodName := ⟨RX4, "tray", "(II)I"⟩
abbrev cX4_load : ByteArray := prog_1_method_13_code
def yX4_load : MethodName := ⟨RX4, "load", "(II)Z"⟩
abbrev cX4_pass : ByteArray := prog_1_method_14_code
def yX4_pass : MethodName := ⟨RX4, "pass", "(I)I"⟩
abbrev cX4_hour : ByteArray := prog_1_method_15_code
def yX4_hour : MethodName := ⟨RX4, "hour", "()I"⟩
abbrev cX4_ofCell : ByteArray := prog_1_method_16_code
def yX4_ofCell : MethodName := ⟨RX4, "ofCell", "(IIII)I"⟩
abbrev cX4_aimAnew : ByteArray := prog_1_method_17_code
def yX4_aimAnew : MethodName := ⟨RX4, "aimAnew", "(III)I"⟩
abbrev cX4_edge : ByteArray := prog_1_method_18_code
def yX4_edge : MethodName := ⟨RX4, "edge", "(I)I"⟩
abbrev cX4_ofLot : ByteArray := prog_1_method_19_code
def yX4_ofLot : MethodName := ⟨RX4, "ofLot", "(II)I"⟩
abbrev cX4_ofPicture : ByteArray := prog_1_method_20_code
def yX4_ofPicture : MethodName := ⟨RX4, "ofPicture", "(II)I"⟩
abbrev cX4_ofCrew : ByteArray := prog_1_method_21_code
def yX4_ofCrew : MethodName := ⟨RX4, "ofCrew", "(II)I"⟩
abbrev cX4_needRange : ByteArray := prog_1_method_22_code
def yX4_needRange : MethodName := ⟨RX4, "needRange", "(III)V"⟩
abbrev cX4_needLot : ByteArray := prog_1_method_23_code
def yX4_needLot : MethodName := ⟨RX4, "needLot", "(I)LTesseraeRow$Lot;"⟩
abbrev cX4_needPicture : ByteArray := prog_1_method_24_code
def yX4_needPicture : MethodName := ⟨RX4, "needPicture", "(I)LTesseraeRow$Picture;"⟩
abbrev cX4_needCell : ByteArray := prog_1_method_25_code
def yX4_needCell : MethodName := ⟨RX4, "needCell", "(III)LTesseraeRow$Cell;"⟩
abbrev cX4_needCrew : ByteArray := prog_1_method_26_code
def yX4_needCrew : MethodName := ⟨RX4, "needCrew", "(I)LTesseraeRow$Crew;"⟩
abbrev cX4_bitsOf : ByteArray := prog_1_method_27_code
def yX4_bitsOf : MethodName := ⟨RX4, "bitsOf", "(F)I"⟩
def RX5 : String := "TesseraeRowModel"
def TX5 : u_T := fun k => match k with
  | 0 => ("TesseraeRowModel", "thrown", "I", false)
  | 1 => ("TesseraeRowModel", "now", "I", false)
  | 2 => ("TesseraeRowModel", "lots", "I", false)
  | 3 => ("TesseraeRowModel", "tone", "[F", true)
  | 4 => ("TesseraeRowModel", "many", "[I", true)
  | 5 => ("TesseraeRowModel", "material", "[I", true)
  | 6 => ("TesseraeRowModel", "there", "[Z", true)
  | 7 => ("TesseraeRowModel", "promised", "[I", true)
  | 8 => ("TesseraeRowModel", "laid", "[I", true)
  | 9 => ("TesseraeRowModel", "pictures", "I", false)
  | 10 => ("TesseraeRowModel", "width", "[I", true)
  | 11 => ("TesseraeRowModel", "height", "[I", true)
  | 12 => ("TesseraeRowModel", "wanted", "[I", true)
  | 13 => ("TesseraeRowModel", "state", "[I", true)
  | 14 => ("TesseraeRowModel", "lot", "[I", true)
  | 15 => ("TesseraeRowModel", "aim", "[F", true)
  | 16 => ("TesseraeRowModel", "hourOf", "[I", true)
  | 17 => ("TesseraeRowModel", "dryOf", "[I", true)
  | 18 => ("TesseraeRowModel", "brought", "[F", true)
  | 19 => ("TesseraeRowModel", "round", "[I", true)
  | 20 => ("TesseraeRowModel", "at", "[I", true)
  | 21 => ("TesseraeRowModel", "rate", "[I", true)
  | 22 => ("TesseraeRowModel", "dry", "[I", true)
  | 23 => ("TesseraeRowModel", "tray", "[I", true)
  | 24 => ("TesseraeRowModel", "on", "[Z", true)
  | _ => ("TesseraeRowModel", "done", "[I", true)
def tyX5 : Nat → FieldType := fun k => match k with
  | 0 => .int
  | 1 => .int
  | 2 => .int
  | 3 => .array .float
  | 4 => .array .int
  | 5 => .array .int
  | 6 => .array .boolean
  | 7 => .array .int
  | 8 => .array .int
  | 9 => .int
  | 10 => .array .int
  | 11 => .array .int
  | 12 => .array .int
  | 13 => .array .int
  | 14 => .array .int
  | 15 => .array .float
  | 16 => .array .int
  | 17 => .array .int
  | 18 => .array .float
  | 19 => .array .int
  | 20 => .array .int
  | 21 => .array .int
  | 22 => .array .int
  | 23 => .array .int
  | 24 => .array .boolean
  | _ => .array .int
abbrev wsX50 : List Cond := u_ws RX5 TX5 26
theorem nmX5 : ∀ a, a < 26 → ∀ b, b < 26 → a ≠ b → (TX5 a).2.1 ≠ (TX5 b).2.1 := by decide +kernel
theorem tyX5_ok : ∀ k, k < 26 → parseFieldDescriptor (TX5 k).2.2.1 = some (tyX5 k) := by decide +kernel
abbrev cX5_init : ByteArray := prog_7_method_1_code
def yX5_init : MethodName := ⟨RX5, "<init>", "()V"⟩
abbrev cX5_thrown : ByteArray := prog_7_method_2_code
def yX5_thrown : MethodName := ⟨RX5, "thrown", "()I"⟩
abbrev cX5_asked : ByteArray := prog_7_method_3_code
def yX5_asked : MethodName := ⟨RX5, "asked", "(Z)Z"⟩
abbrev cX5_asked_ : ByteArray := prog_7_method_4_code
def yX5_asked_ : MethodName := ⟨RX5, "asked", "(ZZ)Z"⟩
abbrev cX5_asked__ : ByteArray := prog_7_method_5_code
def yX5_asked__ : MethodName := ⟨RX5, "asked", "(ZZZ)Z"⟩
abbrev cX5_in : ByteArray := prog_7_method_6_code
def yX5_in : MethodName := ⟨RX5, "in", "(III)Z"⟩
abbrev cX5_isLot : ByteArray := prog_7_method_7_code
def yX5_isLot : MethodName := ⟨RX5, "isLot", "(I)Z"⟩
abbrev cX5_isPicture : ByteArray := prog_7_method_8_code
def yX5_isPicture : MethodName := ⟨RX5, "isPicture", "(I)Z"⟩
abbrev cX5_isCell : ByteArray := prog_7_method_9_code
def yX5_isCell : MethodName := ⟨RX5, "isCell", "(III)Z"⟩
abbrev cX5_isCrew : ByteArray := prog_7_method_10_code
def yX5_isCrew : MethodName := ⟨RX5, "isCrew", "(I)Z"⟩
abbrev cX5_left : ByteArray := prog_7_method_11_code
def yX5_left : MethodName := ⟨RX5, "left", "(I)I"⟩
abbrev cX5_lot : ByteArray := prog_7_method_12_code
def yX5_lot : MethodName := ⟨RX5, "lot", "(IIIZ)I"⟩
abbrev cX5_comes : ByteArray := prog_7_method_13_code
def yX5_comes : MethodName := ⟨RX5, "comes", "(I)I"⟩
abbrev cX5_picture : ByteArray := prog_7_method_14_code
def yX5_picture : MethodName := ⟨RX5, "picture", "(III)I"⟩
abbrev cX5_cellOf : ByteArray := prog_7_method_15_code
def yX5_cellOf : MethodName := ⟨RX5, "cellOf", "(III)I"⟩
abbrev cX5_cell : ByteArray := prog_7_method_16_code
def yX5_cell : MethodName := ⟨RX5, "cell", "(IIII)I"⟩
abbrev cX5_count : ByteArray := prog_7_method_17_code
def yX5_count : MethodName := ⟨RX5, "count", "(II)I"⟩
abbrev cX5_old : ByteArray := prog_7_method_18_code
def yX5_old : MethodName := ⟨RX5, "old", "(IIII)I"⟩
abbrev cX5_fill : ByteArray := prog_7_method_19_code
def yX5_fill : MethodName := ⟨RX5, "fill", "(I)I"⟩
abbrev cX5_size : ByteArray := prog_7_method_20_code
def yX5_size : MethodName := ⟨RX5, "size", "(F)F"⟩
abbrev cX5_nearest : ByteArray := prog_7_method_21_code
def yX5_nearest : MethodName := ⟨RX5, "nearest", "(F)I"⟩
abbrev cX5_brings : ByteArray := prog_7_method_22_code
def yX5_brings : MethodName := ⟨RX5, "brings", "(IIIF)V"⟩
abbrev cX5_passesOn : ByteArray := prog_7_method_23_code
def yX5_passesOn : MethodName := ⟨RX5, "passesOn", "(IIIF)V"⟩
abbrev cX5_design : ByteArray := prog_7_method_24_code
def yX5_design : MethodName := ⟨RX5, "design", "(I)I"⟩
abbrev cX5_share : ByteArray := prog_7_method_25_code
def yX5_share : MethodName := ⟨RX5, "share", "(III)I"⟩
abbrev cX5_send : ByteArray := prog_7_method_26_code
def yX5_send : MethodName := ⟨RX5, "send", "(II)I"⟩
abbrev cX5_crew : ByteArray := prog_7_method_27_code
def yX5_crew : MethodName := ⟨RX5, "crew", "(III)I"⟩
abbrev cX5_onTray : ByteArray := prog_7_method_28_code
def yX5_onTray : MethodName := ⟨RX5, "onTray", "(I)I"⟩
abbrev cX5_tray : ByteArray := prog_7_method_29_code
def yX5_tray : MethodName := ⟨RX5, "tray", "(II)I"⟩
abbrev cX5_load : ByteArray := prog_7_method_30_code
def yX5_load : MethodName := ⟨RX5, "load", "(II)Z"⟩
abbrev cX5_isDry : ByteArray := prog_7_method_31_code
def yX5_isDry : MethodName := ⟨RX5, "isDry", "(II)Z"⟩
abbrev cX5_lays : ByteArray := prog_7_method_32_code
def yX5_lays : MethodName := ⟨RX5, "lays", "(I)Z"⟩
abbrev cX5_pass : ByteArray := prog_7_method_33_code
def yX5_pass : MethodName := ⟨RX5, "pass", "(I)I"⟩
abbrev cX5_hour : ByteArray := prog_7_method_34_code
def yX5_hour : MethodName := ⟨RX5, "hour", "()I"⟩
abbrev cX5_ofCell : ByteArray := prog_7_method_35_code
def yX5_ofCell : MethodName := ⟨RX5, "ofCell", "(IIII)I"⟩
abbrev cX5_aimAnew : ByteArray := prog_7_method_36_code
def yX5_aimAnew : MethodName := ⟨RX5, "aimAnew", "(III)I"⟩
abbrev cX5_toneOf : ByteArray := prog_7_method_37_code
def yX5_toneOf : MethodName := ⟨RX5, "toneOf", "(I)F"⟩
abbrev cX5_apart : ByteArray := prog_7_method_38_code
def yX5_apart : MethodName := ⟨RX5, "apart", "(II)F"⟩
abbrev cX5_edge : ByteArray := prog_7_method_39_code
def yX5_edge : MethodName := ⟨RX5, "edge", "(I)I"⟩
abbrev cX5_ofLot : ByteArray := prog_7_method_40_code
def yX5_ofLot : MethodName := ⟨RX5, "ofLot", "(II)I"⟩
abbrev cX5_ofPicture : ByteArray := prog_7_method_41_code
def yX5_ofPicture : MethodName := ⟨RX5, "ofPicture", "(II)I"⟩
abbrev cX5_ofCrew : ByteArray := prog_7_method_42_code
def yX5_ofCrew : MethodName := ⟨RX5, "ofCrew", "(II)I"⟩
def RJxf58ca : String := "java/lang/Float"
def TJxf58ca : u_T := fun k => match k with
  | _ => ("", "", "", false)
def tyJxf58ca : Nat → FieldType := fun k => match k with
  | _ => .int
abbrev wsJxf58ca0 : List Cond := u_ws RJxf58ca TJxf58ca 0
theorem nmJxf58ca : ∀ a, a < 0 → ∀ b, b < 0 → a ≠ b → (TJxf58ca a).2.1 ≠ (TJxf58ca b).2.1 := by decide +kernel
theorem tyJxf58ca_ok : ∀ k, k < 0 → parseFieldDescriptor (TJxf58ca k).2.2.1 = some (tyJxf58ca k) := by decide +kernel
abbrev cJxf58ca_isNaN_12338 : ByteArray := prog_9_method_6_code
def yJxf58ca_isNaN_12338 : MethodName := ⟨RJxf58ca, "isNaN", "(F)Z"⟩
abbrev cJxf58ca_floatToIntBits_5c35a : ByteArray := prog_9_method_24_code
def yJxf58ca_floatToIntBits_5c35a : MethodName := ⟨RJxf58ca, "floatToIntBits", "(F)I"⟩
def RJ0 : String := "java/lang/String"
def TJ0 : u_T := fun k => match k with
  | _ => ("", "", "", false)
def tyJ0 : Nat → FieldType := fun k => match k with
  | _ => .int
abbrev wsJ00 : List Cond := u_ws RJ0 TJ0 0
theorem nmJ0 : ∀ a, a < 0 → ∀ b, b < 0 → a ≠ b → (TJ0 a).2.1 ≠ (TJ0 b).2.1 := by decide +kernel
theorem tyJ0_ok : ∀ k, k < 0 → parseFieldDescriptor (TJ0 k).2.2.1 = some (tyJ0 k) := by decide +kernel
def RL : String := "TesseraeRowLaw"
abbrev cL_lot : ByteArray := method_3_code
def yL_lot : MethodName := ⟨RL, "lot", "(LTesseraeRow;IIIZ[J)I"⟩
abbrev cL_comes : ByteArray := method_4_code
def yL_comes : MethodName := ⟨RL, "comes", "(LTesseraeRow;I[J)I"⟩
abbrev cL_picture : ByteArray := method_5_code
def yL_picture : MethodName := ⟨RL, "picture", "(LTesseraeRow;III[J)I"⟩
abbrev cL_cell : ByteArray := method_6_code
def yL_cell : MethodName := ⟨RL, "cell", "(LTesseraeRow;IIII[J)I"⟩
abbrev cL_old : ByteArray := method_7_code
def yL_old : MethodName := ⟨RL, "old", "(LTesseraeRow;IIII[J)I"⟩
abbrev cL_fill : ByteArray := method_8_code
def yL_fill : MethodName := ⟨RL, "fill", "(LTesseraeRow;I[J)I"⟩
abbrev cL_design : ByteArray := method_9_code
def yL_design : MethodName := ⟨RL, "design", "(LTesseraeRow;I[J)I"⟩
abbrev cL_share : ByteArray := method_10_code
def yL_share : MethodName := ⟨RL, "share", "(LTesseraeRow;III[J)I"⟩
abbrev cL_send : ByteArray := method_11_code
def yL_send : MethodName := ⟨RL, "send", "(LTesseraeRow;II[J)I"⟩
abbrev cL_crew : ByteArray := method_12_code
def yL_crew : MethodName := ⟨RL, "crew", "(LTesseraeRow;III[J)I"⟩
abbrev cL_tray : ByteArray := method_13_code
def yL_tray : MethodName := ⟨RL, "tray", "(LTesseraeRow;II[J)I"⟩
abbrev cL_load : ByteArray := method_14_code
def yL_load : MethodName := ⟨RL, "load", "(LTesseraeRow;II[J)I"⟩
abbrev cL_pass : ByteArray := method_15_code
def yL_pass : MethodName := ⟨RL, "pass", "(LTesseraeRow;I[J)I"⟩
abbrev cL_ofCell : ByteArray := method_16_code
def yL_ofCell : MethodName := ⟨RL, "ofCell", "(LTesseraeRow;IIII[J)I"⟩
abbrev cL_aimAnew : ByteArray := method_17_code
def yL_aimAnew : MethodName := ⟨RL, "aimAnew", "(LTesseraeRow;III[J)I"⟩
abbrev cL_edge : ByteArray := method_18_code
def yL_edge : MethodName := ⟨RL, "edge", "(LTesseraeRow;I[J)I"⟩
abbrev cL_ofLot : ByteArray := method_19_code
def yL_ofLot : MethodName := ⟨RL, "ofLot", "(LTesseraeRow;II[J)I"⟩
abbrev cL_ofPicture : ByteArray := method_20_code
def yL_ofPicture : MethodName := ⟨RL, "ofPicture", "(LTesseraeRow;II[J)I"⟩
abbrev cL_ofCrew : ByteArray := method_21_code
def yL_ofCrew : MethodName := ⟨RL, "ofCrew", "(LTesseraeRow;II[J)I"⟩
abbrev cL_law : ByteArray := code
def yL_law : MethodName := ⟨RL, "law", "([I)Z"⟩
def wsX0_init : List Cond := .code yX0_init cX0_init 4 none :: ([.methodLink RX0 3 objectInit, .instanceMethod objectInit, .code objectInit ⟨#[0xb1]⟩ 1 none, .fieldLink RX0 9 "TesseraeRow$Cell" "kind" "I", .fieldLink RX0 15 "TesseraeRow$Cell" "x" "I", .fieldLink RX0 18 "TesseraeRow$Cell" "y" "I", .fieldLink RX0 21 "TesseraeRow$Cell" "wanted" "I"] ++ wsX00)
def wsX0_isDone : List Cond := .code yX0_isDone cX0_isDone 1 (some .boolean) :: ([.fieldLink RX0 9 "TesseraeRow$Cell" "kind" "I"] ++ wsX00)
def wsX0_isPromised : List Cond := .code yX0_isPromised cX0_isPromised 2 (some .boolean) :: ([.fieldLink RX0 9 "TesseraeRow$Cell" "kind" "I", .fieldLink RX0 24 "TesseraeRow$Cell" "lot" "LTesseraeRow$Lot;"] ++ wsX00)
def wsX0_promise : List Cond := .code yX0_promise cX0_promise 2 none :: ([.fieldLink RX0 9 "TesseraeRow$Cell" "kind" "I", .fieldLink RX0 24 "TesseraeRow$Cell" "lot" "LTesseraeRow$Lot;", .fieldLink RX0 28 "TesseraeRow$Lot" "left" "I", .fieldLink RX0 33 "TesseraeRow$Lot" "promised" "I"] ++ wsX00 ++ wsX20)
def wsX0_takeBack : List Cond := .code yX0_takeBack cX0_takeBack 1 none :: ([.fieldLink RX0 9 "TesseraeRow$Cell" "kind" "I", .fieldLink RX0 24 "TesseraeRow$Cell" "lot" "LTesseraeRow$Lot;", .fieldLink RX0 33 "TesseraeRow$Lot" "promised" "I", .fieldLink RX0 28 "TesseraeRow$Lot" "left" "I"] ++ wsX00 ++ wsX20)
def wsX0_lay : List Cond := .code yX0_lay cX0_lay 3 none :: ([.fieldLink RX0 9 "TesseraeRow$Cell" "kind" "I", .fieldLink RX0 24 "TesseraeRow$Cell" "lot" "LTesseraeRow$Lot;", .fieldLink RX0 33 "TesseraeRow$Lot" "promised" "I", .fieldLink RX0 36 "TesseraeRow$Lot" "laid" "I", .fieldLink RX0 39 "TesseraeRow$Cell" "laidAt" "I", .fieldLink RX0 42 "TesseraeRow$Cell" "dryAt" "I"] ++ wsX00 ++ wsX20)
def wsX0_stoneTone : List Cond := .code yX0_stoneTone cX0_stoneTone 1 (some .float) :: ([.fieldLink RX0 24 "TesseraeRow$Cell" "lot" "LTesseraeRow$Lot;", .fieldLink RX0 21 "TesseraeRow$Cell" "wanted" "I", .fieldLink RX0 45 "TesseraeRow$Lot" "tone" "F"] ++ wsX00 ++ wsX20)
def wsX0_lackBehind : List Cond := .code yX0_lackBehind cX0_lackBehind 2 (some .float) :: ([.fieldLink RX0 24 "TesseraeRow$Cell" "lot" "LTesseraeRow$Lot;", .fieldLink RX0 45 "TesseraeRow$Lot" "tone" "F"] ++ wsX00 ++ wsX20)
def wsX0_bring : List Cond := .code yX0_bring cX0_bring 2 none :: ([.fieldLink RX0 49 "TesseraeRow$Cell" "brought" "F"] ++ wsX00)
def wsX1_init : List Cond := .code yX1_init cX1_init 1 none :: ([.methodLink RX1 3 objectInit, .instanceMethod objectInit, .code objectInit ⟨#[0xb1]⟩ 1 none, .fieldLink RX1 9 "TesseraeRow$Crew" "rate" "I", .fieldLink RX1 15 "TesseraeRow$Crew" "dry" "I", .fieldLink RX1 18 "TesseraeRow$Crew" "material" "I", .classLink RX1 21 RX2, .fieldLink RX1 23 "TesseraeRow$Crew" "tray" "[LTesseraeRow$Lot;"] ++ wsX10)
def wsX1_pictureNumber : List Cond := .code yX1_pictureNumber cX1_pictureNumber 1 (some .int) :: ([.fieldLink RX1 27 "TesseraeRow$Crew" "at" "LTesseraeRow$Picture;", .fieldLink RX1 31 "TesseraeRow$Picture" "number" "I"] ++ wsX10 ++ wsX30)
def wsX1_hasOnTray : List Cond := .code yX1_hasOnTray cX1_hasOnTray 3 (some .boolean) :: ([.fieldLink RX1 36 "TesseraeRow$Crew" "onTray" "I", .fieldLink RX1 23 "TesseraeRow$Crew" "tray" "[LTesseraeRow$Lot;"] ++ wsX10)
def wsX1_takeOnTray : List Cond := .code yX1_takeOnTray cX1_takeOnTray 2 (some .boolean) :: ([.fieldLink RX1 43 "TesseraeRow$Lot" "material" "I", .fieldLink RX1 18 "TesseraeRow$Crew" "material" "I", .fieldLink RX1 36 "TesseraeRow$Crew" "onTray" "I", .fieldLink RX1 23 "TesseraeRow$Crew" "tray" "[LTesseraeRow$Lot;", .methodLink RX1 39 yX1_hasOnTray, .instanceMethod yX1_hasOnTray, .selects RX1 yX1_hasOnTray yX1_hasOnTray, .initialized RX1, .code yX1_hasOnTray cX1_hasOnTray 3 (some .boolean)] ++ wsX20 ++ wsX10)
def wsX3_firstUndone : List Cond := .code yX3_firstUndone cX3_firstUndone 5 (some (.object "TesseraeRow$Cell")) :: ([.fieldLink RX3 23 "TesseraeRow$Picture" "cells" "[LTesseraeRow$Cell;", .methodLink RX3 104 yX0_isDone, .instanceMethod yX0_isDone, .selects RX0 yX0_isDone yX0_isDone, .initialized RX0, .code yX0_isDone cX0_isDone 1 (some .boolean), .fieldLink RX0 9 "TesseraeRow$Cell" "kind" "I"] ++ wsX30 ++ wsX00)
def wsX3_cellAt : List Cond := .code yX3_cellAt cX3_cellAt 3 (some (.object "TesseraeRow$Cell")) :: ([.fieldLink RX3 15 "TesseraeRow$Picture" "width" "I", .fieldLink RX3 18 "TesseraeRow$Picture" "height" "I", .fieldLink RX3 23 "TesseraeRow$Picture" "cells" "[LTesseraeRow$Cell;"] ++ wsX30)
def wsX3_isDryRow : List Cond := .code yX3_isDryRow cX3_isDryRow 6 (some .boolean) :: ([.fieldLink RX3 15 "TesseraeRow$Picture" "width" "I", .fieldLink RX3 30 "TesseraeRow$Cell" "kind" "I", .fieldLink RX3 118 "TesseraeRow$Cell" "laidAt" "I", .fieldLink RX3 121 "TesseraeRow$Cell" "dryAt" "I", .methodLink RX3 92 yX3_cellAt, .instanceMethod yX3_cellAt, .selects RX3 yX3_cellAt yX3_cellAt, .initialized RX3, .code yX3_cellAt cX3_cellAt 3 (some (.object "TesseraeRow$Cell")), .fieldLink RX3 18 "TesseraeRow$Picture" "height" "I", .fieldLink RX3 23 "TesseraeRow$Picture" "cells" "[LTesseraeRow$Cell;", .methodLink RX3 104 yX0_isDone, .instanceMethod yX0_isDone, .selects RX0 yX0_isDone yX0_isDone, .initialized RX0, .code yX0_isDone cX0_isDone 1 (some .boolean), .fieldLink RX0 9 "TesseraeRow$Cell" "kind" "I"] ++ wsX30 ++ wsX00)
def wsX1_layNext_r1 : List Cond := [Cond.fieldLink RX1 27 "TesseraeRow$Crew" "at" "LTesseraeRow$Picture;", Cond.fieldLink RX1 55 "TesseraeRow$Cell" "kind" "I", Cond.fieldLink RX1 60 "TesseraeRow$Cell" "lot" "LTesseraeRow$Lot;", Cond.fieldLink RX1 64 "TesseraeRow$Cell" "y" "I", Cond.fieldLink RX1 15 "TesseraeRow$Crew" "dry" "I", Cond.methodLink RX1 51 yX3_firstUndone, Cond.instanceMethod yX3_firstUndone, Cond.selects RX3 yX3_firstUndone yX3_firstUndone, Cond.initialized RX3, Cond.code yX3_firstUndone cX3_firstUndone 5 (some (.object "TesseraeRow$Cell")), Cond.fieldLink RX3 23 "TesseraeRow$Picture" "cells" "[LTesseraeRow$Cell;", Cond.methodLink RX3 104 yX0_isDone, Cond.instanceMethod yX0_isDone, Cond.selects RX0 yX0_isDone yX0_isDone, Cond.initialized RX0, Cond.code yX0_isDone cX0_isDone 1 (some .boolean), Cond.fieldLink RX0 9 "TesseraeRow$Cell" "kind" "I", Cond.methodLink RX1 39 yX1_hasOnTray, Cond.instanceMethod yX1_hasOnTray, Cond.selects RX1 yX1_hasOnTray yX1_hasOnTray, Cond.initialized RX1, Cond.code yX1_hasOnTray cX1_hasOnTray 3 (some .boolean), Cond.fieldLink RX1 36 "TesseraeRow$Crew" "onTray" "I", Cond.fieldLink RX1 23 "TesseraeRow$Crew" "tray" "[LTesseraeRow$Lot;"]
def wsX1_layNext_r2 : List Cond := [Cond.methodLink RX1 67 yX3_isDryRow, Cond.instanceMethod yX3_isDryRow, Cond.selects RX3 yX3_isDryRow yX3_isDryRow, Cond.code yX3_isDryRow cX3_isDryRow 6 (some .boolean), Cond.fieldLink RX3 15 "TesseraeRow$Picture" "width" "I", Cond.fieldLink RX3 30 "TesseraeRow$Cell" "kind" "I", Cond.fieldLink RX3 118 "TesseraeRow$Cell" "laidAt" "I", Cond.fieldLink RX3 121 "TesseraeRow$Cell" "dryAt" "I", Cond.methodLink RX3 92 yX3_cellAt, Cond.instanceMethod yX3_cellAt, Cond.selects RX3 yX3_cellAt yX3_cellAt, Cond.code yX3_cellAt cX3_cellAt 3 (some (.object "TesseraeRow$Cell")), Cond.fieldLink RX3 18 "TesseraeRow$Picture" "height" "I", Cond.methodLink RX1 71 yX0_lay, Cond.instanceMethod yX0_lay, Cond.selects RX0 yX0_lay yX0_lay, Cond.code yX0_lay cX0_lay 3 none, Cond.fieldLink RX0 24 "TesseraeRow$Cell" "lot" "LTesseraeRow$Lot;", Cond.fieldLink RX0 33 "TesseraeRow$Lot" "promised" "I", Cond.fieldLink RX0 36 "TesseraeRow$Lot" "laid" "I", Cond.fieldLink RX0 39 "TesseraeRow$Cell" "laidAt" "I", Cond.fieldLink RX0 42 "TesseraeRow$Cell" "dryAt" "I"]
def wsX1_layNext : List Cond := .code yX1_layNext cX1_layNext 3 (some .boolean) :: ((wsX1_layNext_r1 ++ wsX1_layNext_r2) ++ wsX10 ++ wsX00 ++ wsX30 ++ wsX20)
def wsX1_layFor_r1 : List Cond := [Cond.fieldLink RX1 9 "TesseraeRow$Crew" "rate" "I", Cond.fieldLink RX1 48 "TesseraeRow$Crew" "laid" "I", Cond.methodLink RX1 44 yX1_layNext, Cond.instanceMethod yX1_layNext, Cond.selects RX1 yX1_layNext yX1_layNext, Cond.initialized RX1, Cond.code yX1_layNext cX1_layNext 3 (some .boolean), Cond.fieldLink RX1 27 "TesseraeRow$Crew" "at" "LTesseraeRow$Picture;", Cond.fieldLink RX1 55 "TesseraeRow$Cell" "kind" "I", Cond.fieldLink RX1 60 "TesseraeRow$Cell" "lot" "LTesseraeRow$Lot;", Cond.fieldLink RX1 64 "TesseraeRow$Cell" "y" "I", Cond.fieldLink RX1 15 "TesseraeRow$Crew" "dry" "I", Cond.methodLink RX1 51 yX3_firstUndone, Cond.instanceMethod yX3_firstUndone, Cond.selects RX3 yX3_firstUndone yX3_firstUndone, Cond.initialized RX3, Cond.code yX3_firstUndone cX3_firstUndone 5 (some (.object "TesseraeRow$Cell")), Cond.fieldLink RX3 23 "TesseraeRow$Picture" "cells" "[LTesseraeRow$Cell;", Cond.methodLink RX3 104 yX0_isDone, Cond.instanceMethod yX0_isDone, Cond.selects RX0 yX0_isDone yX0_isDone, Cond.initialized RX0, Cond.code yX0_isDone cX0_isDone 1 (some .boolean), Cond.fieldLink RX0 9 "TesseraeRow$Cell" "kind" "I"]
def wsX1_layFor_r2 : List Cond := [Cond.methodLink RX1 39 yX1_hasOnTray, Cond.instanceMethod yX1_hasOnTray, Cond.selects RX1 yX1_hasOnTray yX1_hasOnTray, Cond.code yX1_hasOnTray cX1_hasOnTray 3 (some .boolean), Cond.fieldLink RX1 36 "TesseraeRow$Crew" "onTray" "I", Cond.fieldLink RX1 23 "TesseraeRow$Crew" "tray" "[LTesseraeRow$Lot;", Cond.methodLink RX1 67 yX3_isDryRow, Cond.instanceMethod yX3_isDryRow, Cond.selects RX3 yX3_isDryRow yX3_isDryRow, Cond.code yX3_isDryRow cX3_isDryRow 6 (some .boolean), Cond.fieldLink RX3 15 "TesseraeRow$Picture" "width" "I", Cond.fieldLink RX3 30 "TesseraeRow$Cell" "kind" "I", Cond.fieldLink RX3 118 "TesseraeRow$Cell" "laidAt" "I", Cond.fieldLink RX3 121 "TesseraeRow$Cell" "dryAt" "I", Cond.methodLink RX3 92 yX3_cellAt, Cond.instanceMethod yX3_cellAt, Cond.selects RX3 yX3_cellAt yX3_cellAt, Cond.code yX3_cellAt cX3_cellAt 3 (some (.object "TesseraeRow$Cell")), Cond.fieldLink RX3 18 "TesseraeRow$Picture" "height" "I", Cond.methodLink RX1 71 yX0_lay, Cond.instanceMethod yX0_lay, Cond.selects RX0 yX0_lay yX0_lay, Cond.code yX0_lay cX0_lay 3 none, Cond.fieldLink RX0 24 "TesseraeRow$Cell" "lot" "LTesseraeRow$Lot;"]
def wsX1_layFor_r3 : List Cond := [Cond.fieldLink RX0 33 "TesseraeRow$Lot" "promised" "I", Cond.fieldLink RX0 36 "TesseraeRow$Lot" "laid" "I", Cond.fieldLink RX0 39 "TesseraeRow$Cell" "laidAt" "I", Cond.fieldLink RX0 42 "TesseraeRow$Cell" "dryAt" "I"]
def wsX1_layFor : List Cond := .code yX1_layFor cX1_layFor 3 (some .int) :: ((wsX1_layFor_r1 ++ (wsX1_layFor_r2 ++ wsX1_layFor_r3)) ++ wsX10 ++ wsX00 ++ wsX30 ++ wsX20)
def wsX2_init : List Cond := .code yX2_init cX2_init 6 none :: ([.methodLink RX2 1 objectInit, .instanceMethod objectInit, .code objectInit ⟨#[0xb1]⟩ 1 none, .fieldLink RX2 7 "TesseraeRow$Lot" "number" "I", .fieldLink RX2 13 "TesseraeRow$Lot" "tone" "F", .fieldLink RX2 17 "TesseraeRow$Lot" "left" "I", .fieldLink RX2 20 "TesseraeRow$Lot" "material" "I", .fieldLink RX2 23 "TesseraeRow$Lot" "isThere" "Z"] ++ wsX20)
def wsX2_canPromise : List Cond := .code yX2_canPromise cX2_canPromise 1 (some .boolean) :: ([.fieldLink RX2 23 "TesseraeRow$Lot" "isThere" "Z", .fieldLink RX2 17 "TesseraeRow$Lot" "left" "I"] ++ wsX20)
def wsX3_init : List Cond := .code yX3_init cX3_init 8 none :: ([.methodLink RX3 3 objectInit, .instanceMethod objectInit, .code objectInit ⟨#[0xb1]⟩ 1 none, .fieldLink RX3 9 "TesseraeRow$Picture" "number" "I", .fieldLink RX3 15 "TesseraeRow$Picture" "width" "I", .fieldLink RX3 18 "TesseraeRow$Picture" "height" "I", .classLink RX3 21 RX0, .fieldLink RX3 23 "TesseraeRow$Picture" "cells" "[LTesseraeRow$Cell;", .instantiable RX0 10, .initialized RX0, .methodLink RX3 27 yX0_init, .instanceMethod yX0_init, .code yX0_init cX0_init 4 none, .methodLink RX0 3 objectInit, .fieldLink RX0 9 "TesseraeRow$Cell" "kind" "I", .fieldLink RX0 15 "TesseraeRow$Cell" "x" "I", .fieldLink RX0 18 "TesseraeRow$Cell" "y" "I", .fieldLink RX0 21 "TesseraeRow$Cell" "wanted" "I"] ++ wsX30 ++ wsX00)
def wsX3_count : List Cond := .code yX3_count cX3_count 7 (some .int) :: ([.fieldLink RX3 23 "TesseraeRow$Picture" "cells" "[LTesseraeRow$Cell;", .fieldLink RX3 30 "TesseraeRow$Cell" "kind" "I"] ++ wsX30 ++ wsX00)
def wsX3_forgetBrought : List Cond := .code yX3_forgetBrought cX3_forgetBrought 5 none :: ([.fieldLink RX3 23 "TesseraeRow$Picture" "cells" "[LTesseraeRow$Cell;", .fieldLink RX3 42 "TesseraeRow$Cell" "brought" "F"] ++ wsX30 ++ wsX00)
def wsX3_distance : List Cond := .code yX3_distance cX3_distance 3 (some .float) :: ([])
def wsX3_promiseNearest : List Cond := .code yX3_promiseNearest cX3_promiseNearest 9 none :: ([.fieldLink RX3 46 "TesseraeRow$Cell" "aim" "F", .fieldLink RX3 67 "TesseraeRow$Lot" "tone" "F", .methodLink RX3 61 yX2_canPromise, .instanceMethod yX2_canPromise, .selects RX2 yX2_canPromise yX2_canPromise, .initialized RX2, .code yX2_canPromise cX2_canPromise 1 (some .boolean), .fieldLink RX2 23 "TesseraeRow$Lot" "isThere" "Z", .fieldLink RX2 17 "TesseraeRow$Lot" "left" "I", .methodLink RX3 70 yX3_distance, .static yX3_distance, .initialized RX3, .code yX3_distance cX3_distance 3 (some .float), .methodLink RX3 74 yX0_promise, .instanceMethod yX0_promise, .selects RX0 yX0_promise yX0_promise, .initialized RX0, .code yX0_promise cX0_promise 2 none, .fieldLink RX0 9 "TesseraeRow$Cell" "kind" "I", .fieldLink RX0 24 "TesseraeRow$Cell" "lot" "LTesseraeRow$Lot;", .fieldLink RX0 28 "TesseraeRow$Lot" "left" "I", .fieldLink RX0 33 "TesseraeRow$Lot" "promised" "I"] ++ wsX00 ++ wsX20)
def wsX3_bringTo : List Cond := .code yX3_bringTo cX3_bringTo 5 none :: ([.methodLink RX3 92 yX3_cellAt, .instanceMethod yX3_cellAt, .selects RX3 yX3_cellAt yX3_cellAt, .initialized RX3, .code yX3_cellAt cX3_cellAt 3 (some (.object "TesseraeRow$Cell")), .fieldLink RX3 15 "TesseraeRow$Picture" "width" "I", .fieldLink RX3 18 "TesseraeRow$Picture" "height" "I", .fieldLink RX3 23 "TesseraeRow$Picture" "cells" "[LTesseraeRow$Cell;", .methodLink RX3 96 yX0_bring, .instanceMethod yX0_bring, .selects RX0 yX0_bring yX0_bring, .initialized RX0, .code yX0_bring cX0_bring 2 none, .fieldLink RX0 49 "TesseraeRow$Cell" "brought" "F"] ++ wsX30 ++ wsX00)
def wsX3_passOn : List Cond := .code yX3_passOn cX3_passOn 3 none :: ([.fieldLink RX3 78 "TesseraeRow$Cell" "x" "I", .fieldLink RX3 81 "TesseraeRow$Cell" "y" "I", .constantFloat RX3 84 (1054867456), .constantFloat RX3 89 (1044381696), .constantFloat RX3 90 (1050673152), .constantFloat RX3 91 (1031798784), .methodLink RX3 85 yX3_bringTo, .instanceMethod yX3_bringTo, .selects RX3 yX3_bringTo yX3_bringTo, .initialized RX3, .code yX3_bringTo cX3_bringTo 5 none, .methodLink RX3 92 yX3_cellAt, .instanceMethod yX3_cellAt, .selects RX3 yX3_cellAt yX3_cellAt, .code yX3_cellAt cX3_cellAt 3 (some (.object "TesseraeRow$Cell")), .fieldLink RX3 15 "TesseraeRow$Picture" "width" "I", .fieldLink RX3 18 "TesseraeRow$Picture" "height" "I", .fieldLink RX3 23 "TesseraeRow$Picture" "cells" "[LTesseraeRow$Cell;", .methodLink RX3 96 yX0_bring, .instanceMethod yX0_bring, .selects RX0 yX0_bring yX0_bring, .initialized RX0, .code yX0_bring cX0_bring 2 none, .fieldLink RX0 49 "TesseraeRow$Cell" "brought" "F"] ++ wsX00 ++ wsX30)
def wsX3_designFrom_r1 : List Cond := [Cond.fieldLink RX3 23 "TesseraeRow$Picture" "cells" "[LTesseraeRow$Cell;", Cond.fieldLink RX3 39 "TesseraeRow$Cell" "wanted" "I", Cond.fieldLink RX3 42 "TesseraeRow$Cell" "brought" "F", Cond.fieldLink RX3 46 "TesseraeRow$Cell" "aim" "F", Cond.fieldLink RX3 30 "TesseraeRow$Cell" "kind" "I", Cond.methodLink RX3 33 yX0_takeBack, Cond.instanceMethod yX0_takeBack, Cond.selects RX0 yX0_takeBack yX0_takeBack, Cond.initialized RX0, Cond.code yX0_takeBack cX0_takeBack 1 none, Cond.fieldLink RX0 9 "TesseraeRow$Cell" "kind" "I", Cond.fieldLink RX0 24 "TesseraeRow$Cell" "lot" "LTesseraeRow$Lot;", Cond.fieldLink RX0 33 "TesseraeRow$Lot" "promised" "I", Cond.fieldLink RX0 28 "TesseraeRow$Lot" "left" "I", Cond.methodLink RX3 36 yX3_forgetBrought, Cond.instanceMethod yX3_forgetBrought, Cond.selects RX3 yX3_forgetBrought yX3_forgetBrought, Cond.initialized RX3, Cond.code yX3_forgetBrought cX3_forgetBrought 5 none, Cond.methodLink RX3 49 yX3_promiseNearest, Cond.static yX3_promiseNearest, Cond.code yX3_promiseNearest cX3_promiseNearest 9 none, Cond.fieldLink RX3 67 "TesseraeRow$Lot" "tone" "F", Cond.methodLink RX3 61 yX2_canPromise]
def wsX3_designFrom_r2 : List Cond := [Cond.instanceMethod yX2_canPromise, Cond.selects RX2 yX2_canPromise yX2_canPromise, Cond.initialized RX2, Cond.code yX2_canPromise cX2_canPromise 1 (some .boolean), Cond.fieldLink RX2 23 "TesseraeRow$Lot" "isThere" "Z", Cond.fieldLink RX2 17 "TesseraeRow$Lot" "left" "I", Cond.methodLink RX3 70 yX3_distance, Cond.static yX3_distance, Cond.code yX3_distance cX3_distance 3 (some .float), Cond.methodLink RX3 74 yX0_promise, Cond.instanceMethod yX0_promise, Cond.selects RX0 yX0_promise yX0_promise, Cond.code yX0_promise cX0_promise 2 none, Cond.methodLink RX3 53 yX0_lackBehind, Cond.instanceMethod yX0_lackBehind, Cond.selects RX0 yX0_lackBehind yX0_lackBehind, Cond.code yX0_lackBehind cX0_lackBehind 2 (some .float), Cond.fieldLink RX0 45 "TesseraeRow$Lot" "tone" "F", Cond.methodLink RX3 57 yX3_passOn, Cond.instanceMethod yX3_passOn, Cond.selects RX3 yX3_passOn yX3_passOn, Cond.code yX3_passOn cX3_passOn 3 none, Cond.fieldLink RX3 78 "TesseraeRow$Cell" "x" "I", Cond.fieldLink RX3 81 "TesseraeRow$Cell" "y" "I"]
def wsX3_designFrom_r3 : List Cond := [Cond.constantFloat RX3 84 (1054867456), Cond.constantFloat RX3 89 (1044381696), Cond.constantFloat RX3 90 (1050673152), Cond.constantFloat RX3 91 (1031798784), Cond.methodLink RX3 85 yX3_bringTo, Cond.instanceMethod yX3_bringTo, Cond.selects RX3 yX3_bringTo yX3_bringTo, Cond.code yX3_bringTo cX3_bringTo 5 none, Cond.methodLink RX3 92 yX3_cellAt, Cond.instanceMethod yX3_cellAt, Cond.selects RX3 yX3_cellAt yX3_cellAt, Cond.code yX3_cellAt cX3_cellAt 3 (some (.object "TesseraeRow$Cell")), Cond.fieldLink RX3 15 "TesseraeRow$Picture" "width" "I", Cond.fieldLink RX3 18 "TesseraeRow$Picture" "height" "I", Cond.methodLink RX3 96 yX0_bring, Cond.instanceMethod yX0_bring, Cond.selects RX0 yX0_bring yX0_bring, Cond.code yX0_bring cX0_bring 2 none, Cond.fieldLink RX0 49 "TesseraeRow$Cell" "brought" "F"]
def wsX3_designFrom : List Cond := .code yX3_designFrom cX3_designFrom 6 none :: ((wsX3_designFrom_r1 ++ (wsX3_designFrom_r2 ++ wsX3_designFrom_r3)) ++ wsX30 ++ wsX00 ++ wsX20)
def wsX3_aimByNow_r1 : List Cond := [Cond.fieldLink RX3 23 "TesseraeRow$Picture" "cells" "[LTesseraeRow$Cell;", Cond.fieldLink RX3 39 "TesseraeRow$Cell" "wanted" "I", Cond.fieldLink RX3 42 "TesseraeRow$Cell" "brought" "F", Cond.methodLink RX3 36 yX3_forgetBrought, Cond.instanceMethod yX3_forgetBrought, Cond.selects RX3 yX3_forgetBrought yX3_forgetBrought, Cond.initialized RX3, Cond.code yX3_forgetBrought cX3_forgetBrought 5 none, Cond.methodLink RX3 53 yX0_lackBehind, Cond.instanceMethod yX0_lackBehind, Cond.selects RX0 yX0_lackBehind yX0_lackBehind, Cond.initialized RX0, Cond.code yX0_lackBehind cX0_lackBehind 2 (some .float), Cond.fieldLink RX0 24 "TesseraeRow$Cell" "lot" "LTesseraeRow$Lot;", Cond.fieldLink RX0 45 "TesseraeRow$Lot" "tone" "F", Cond.methodLink RX3 57 yX3_passOn, Cond.instanceMethod yX3_passOn, Cond.selects RX3 yX3_passOn yX3_passOn, Cond.code yX3_passOn cX3_passOn 3 none, Cond.fieldLink RX3 78 "TesseraeRow$Cell" "x" "I", Cond.fieldLink RX3 81 "TesseraeRow$Cell" "y" "I", Cond.constantFloat RX3 84 (1054867456), Cond.constantFloat RX3 89 (1044381696), Cond.constantFloat RX3 90 (1050673152)]
def wsX3_aimByNow_r2 : List Cond := [Cond.constantFloat RX3 91 (1031798784), Cond.methodLink RX3 85 yX3_bringTo, Cond.instanceMethod yX3_bringTo, Cond.selects RX3 yX3_bringTo yX3_bringTo, Cond.code yX3_bringTo cX3_bringTo 5 none, Cond.methodLink RX3 92 yX3_cellAt, Cond.instanceMethod yX3_cellAt, Cond.selects RX3 yX3_cellAt yX3_cellAt, Cond.code yX3_cellAt cX3_cellAt 3 (some (.object "TesseraeRow$Cell")), Cond.fieldLink RX3 15 "TesseraeRow$Picture" "width" "I", Cond.fieldLink RX3 18 "TesseraeRow$Picture" "height" "I", Cond.methodLink RX3 96 yX0_bring, Cond.instanceMethod yX0_bring, Cond.selects RX0 yX0_bring yX0_bring, Cond.code yX0_bring cX0_bring 2 none, Cond.fieldLink RX0 49 "TesseraeRow$Cell" "brought" "F"]
def wsX3_aimByNow : List Cond := .code yX3_aimByNow cX3_aimByNow 7 (some .float) :: ((wsX3_aimByNow_r1 ++ wsX3_aimByNow_r2) ++ wsX30 ++ wsX00 ++ wsX20)
def wsX3_giveOddCells_r1 : List Cond := [Cond.fieldLink RX3 23 "TesseraeRow$Picture" "cells" "[LTesseraeRow$Cell;", Cond.fieldLink RX3 78 "TesseraeRow$Cell" "x" "I", Cond.fieldLink RX3 81 "TesseraeRow$Cell" "y" "I", Cond.methodLink RX3 100 yX0_isPromised, Cond.instanceMethod yX0_isPromised, Cond.selects RX0 yX0_isPromised yX0_isPromised, Cond.initialized RX0, Cond.code yX0_isPromised cX0_isPromised 2 (some .boolean), Cond.fieldLink RX0 9 "TesseraeRow$Cell" "kind" "I", Cond.fieldLink RX0 24 "TesseraeRow$Cell" "lot" "LTesseraeRow$Lot;", Cond.methodLink RX3 61 yX2_canPromise, Cond.instanceMethod yX2_canPromise, Cond.selects RX2 yX2_canPromise yX2_canPromise, Cond.initialized RX2, Cond.code yX2_canPromise cX2_canPromise 1 (some .boolean), Cond.fieldLink RX2 23 "TesseraeRow$Lot" "isThere" "Z", Cond.fieldLink RX2 17 "TesseraeRow$Lot" "left" "I", Cond.methodLink RX3 33 yX0_takeBack, Cond.instanceMethod yX0_takeBack, Cond.selects RX0 yX0_takeBack yX0_takeBack, Cond.code yX0_takeBack cX0_takeBack 1 none, Cond.fieldLink RX0 33 "TesseraeRow$Lot" "promised" "I", Cond.fieldLink RX0 28 "TesseraeRow$Lot" "left" "I", Cond.methodLink RX3 74 yX0_promise]
def wsX3_giveOddCells_r2 : List Cond := [Cond.instanceMethod yX0_promise, Cond.selects RX0 yX0_promise yX0_promise, Cond.code yX0_promise cX0_promise 2 none]
def wsX3_giveOddCells : List Cond := .code yX3_giveOddCells cX3_giveOddCells 8 (some .int) :: ((wsX3_giveOddCells_r1 ++ wsX3_giveOddCells_r2) ++ wsX30 ++ wsX00 ++ wsX20)
def wsX3_fillCell : List Cond := .code yX3_fillCell cX3_fillCell 8 (some .boolean) :: ([.fieldLink RX3 81 "TesseraeRow$Cell" "y" "I", .fieldLink RX3 78 "TesseraeRow$Cell" "x" "I", .fieldLink RX3 107 "TesseraeRow$Cell" "round" "I", .fieldLink RX3 39 "TesseraeRow$Cell" "wanted" "I", .methodLink RX3 92 yX3_cellAt, .instanceMethod yX3_cellAt, .selects RX3 yX3_cellAt yX3_cellAt, .initialized RX3, .code yX3_cellAt cX3_cellAt 3 (some (.object "TesseraeRow$Cell")), .fieldLink RX3 15 "TesseraeRow$Picture" "width" "I", .fieldLink RX3 18 "TesseraeRow$Picture" "height" "I", .fieldLink RX3 23 "TesseraeRow$Picture" "cells" "[LTesseraeRow$Cell;"] ++ wsX00 ++ wsX30)
def wsX3_fillRound : List Cond := .code yX3_fillRound cX3_fillRound 7 (some .int) :: ([.fieldLink RX3 23 "TesseraeRow$Picture" "cells" "[LTesseraeRow$Cell;", .fieldLink RX3 107 "TesseraeRow$Cell" "round" "I", .methodLink RX3 114 yX3_fillCell, .instanceMethod yX3_fillCell, .selects RX3 yX3_fillCell yX3_fillCell, .initialized RX3, .code yX3_fillCell cX3_fillCell 8 (some .boolean), .fieldLink RX3 81 "TesseraeRow$Cell" "y" "I", .fieldLink RX3 78 "TesseraeRow$Cell" "x" "I", .fieldLink RX3 39 "TesseraeRow$Cell" "wanted" "I", .methodLink RX3 92 yX3_cellAt, .instanceMethod yX3_cellAt, .selects RX3 yX3_cellAt yX3_cellAt, .code yX3_cellAt cX3_cellAt 3 (some (.object "TesseraeRow$Cell")), .fieldLink RX3 15 "TesseraeRow$Picture" "width" "I", .fieldLink RX3 18 "TesseraeRow$Picture" "height" "I"] ++ wsX30 ++ wsX00)
def wsX3_fillGaps_r1 : List Cond := [Cond.fieldLink RX3 23 "TesseraeRow$Picture" "cells" "[LTesseraeRow$Cell;", Cond.fieldLink RX3 107 "TesseraeRow$Cell" "round" "I", Cond.methodLink RX3 104 yX0_isDone, Cond.instanceMethod yX0_isDone, Cond.selects RX0 yX0_isDone yX0_isDone, Cond.initialized RX0, Cond.code yX0_isDone cX0_isDone 1 (some .boolean), Cond.fieldLink RX0 9 "TesseraeRow$Cell" "kind" "I", Cond.methodLink RX3 110 yX3_fillRound, Cond.instanceMethod yX3_fillRound, Cond.selects RX3 yX3_fillRound yX3_fillRound, Cond.initialized RX3, Cond.code yX3_fillRound cX3_fillRound 7 (some .int), Cond.methodLink RX3 114 yX3_fillCell, Cond.instanceMethod yX3_fillCell, Cond.selects RX3 yX3_fillCell yX3_fillCell, Cond.code yX3_fillCell cX3_fillCell 8 (some .boolean), Cond.fieldLink RX3 81 "TesseraeRow$Cell" "y" "I", Cond.fieldLink RX3 78 "TesseraeRow$Cell" "x" "I", Cond.fieldLink RX3 39 "TesseraeRow$Cell" "wanted" "I", Cond.methodLink RX3 92 yX3_cellAt, Cond.instanceMethod yX3_cellAt, Cond.selects RX3 yX3_cellAt yX3_cellAt, Cond.code yX3_cellAt cX3_cellAt 3 (some (.object "TesseraeRow$Cell"))]
def wsX3_fillGaps_r2 : List Cond := [Cond.fieldLink RX3 15 "TesseraeRow$Picture" "width" "I", Cond.fieldLink RX3 18 "TesseraeRow$Picture" "height" "I"]
def wsX3_fillGaps : List Cond := .code yX3_fillGaps cX3_fillGaps 5 (some .int) :: ((wsX3_fillGaps_r1 ++ wsX3_fillGaps_r2) ++ wsX30 ++ wsX00)
def wsX3_edgeBetween : List Cond := .code yX3_edgeBetween cX3_edgeBetween 4 (some .float) :: ([.fieldLink RX3 30 "TesseraeRow$Cell" "kind" "I", .fieldLink RX3 39 "TesseraeRow$Cell" "wanted" "I", .methodLink RX3 128 yX0_stoneTone, .instanceMethod yX0_stoneTone, .selects RX0 yX0_stoneTone yX0_stoneTone, .initialized RX0, .code yX0_stoneTone cX0_stoneTone 1 (some .float), .fieldLink RX0 24 "TesseraeRow$Cell" "lot" "LTesseraeRow$Lot;", .fieldLink RX0 21 "TesseraeRow$Cell" "wanted" "I", .fieldLink RX0 45 "TesseraeRow$Lot" "tone" "F", .methodLink RX3 70 yX3_distance, .static yX3_distance, .initialized RX3, .code yX3_distance cX3_distance 3 (some .float)] ++ wsX00 ++ wsX20)
def wsX3_greatestEdge_r1 : List Cond := [Cond.fieldLink RX3 23 "TesseraeRow$Picture" "cells" "[LTesseraeRow$Cell;", Cond.fieldLink RX3 78 "TesseraeRow$Cell" "x" "I", Cond.fieldLink RX3 81 "TesseraeRow$Cell" "y" "I", Cond.methodLink RX3 92 yX3_cellAt, Cond.instanceMethod yX3_cellAt, Cond.selects RX3 yX3_cellAt yX3_cellAt, Cond.initialized RX3, Cond.code yX3_cellAt cX3_cellAt 3 (some (.object "TesseraeRow$Cell")), Cond.fieldLink RX3 15 "TesseraeRow$Picture" "width" "I", Cond.fieldLink RX3 18 "TesseraeRow$Picture" "height" "I", Cond.methodLink RX3 124 yX3_edgeBetween, Cond.static yX3_edgeBetween, Cond.code yX3_edgeBetween cX3_edgeBetween 4 (some .float), Cond.fieldLink RX3 30 "TesseraeRow$Cell" "kind" "I", Cond.fieldLink RX3 39 "TesseraeRow$Cell" "wanted" "I", Cond.methodLink RX3 128 yX0_stoneTone, Cond.instanceMethod yX0_stoneTone, Cond.selects RX0 yX0_stoneTone yX0_stoneTone, Cond.initialized RX0, Cond.code yX0_stoneTone cX0_stoneTone 1 (some .float), Cond.fieldLink RX0 24 "TesseraeRow$Cell" "lot" "LTesseraeRow$Lot;", Cond.fieldLink RX0 21 "TesseraeRow$Cell" "wanted" "I", Cond.fieldLink RX0 45 "TesseraeRow$Lot" "tone" "F", Cond.methodLink RX3 70 yX3_distance]
def wsX3_greatestEdge_r2 : List Cond := [Cond.static yX3_distance, Cond.code yX3_distance cX3_distance 3 (some .float)]
def wsX3_greatestEdge : List Cond := .code yX3_greatestEdge cX3_greatestEdge 9 (some .float) :: ((wsX3_greatestEdge_r1 ++ wsX3_greatestEdge_r2) ++ wsX30 ++ wsX00 ++ wsX20)
def wsX4_init : List Cond := .code yX4_init cX4_init 2 none :: ([.methodLink RX4 1 objectInit, .instanceMethod objectInit, .code objectInit ⟨#[0xb1]⟩ 1 none, .classLink RX4 9 RX2, .fieldLink RX4 11 "TesseraeRow" "lots" "[LTesseraeRow$Lot;", .classLink RX4 15 RX3, .fieldLink RX4 17 "TesseraeRow" "pictures" "[LTesseraeRow$Picture;", .classLink RX4 21 RX1, .fieldLink RX4 23 "TesseraeRow" "crews" "[LTesseraeRow$Crew;", .instantiable RX1 7, .initialized RX1, .instanceMethod yX1_init, .code yX1_init cX1_init 1 none, .methodLink RX1 3 objectInit, .fieldLink RX1 9 "TesseraeRow$Crew" "rate" "I", .fieldLink RX1 15 "TesseraeRow$Crew" "dry" "I", .fieldLink RX1 18 "TesseraeRow$Crew" "material" "I", .classLink RX1 21 RX2, .fieldLink RX1 23 "TesseraeRow$Crew" "tray" "[LTesseraeRow$Lot;"] ++ wsX40 ++ wsX10)
def wsX4_needRange : List Cond := .code yX4_needRange cX4_needRange 3 none :: ([.classLink RX4 104 "java/lang/IllegalArgumentException", .initialized "java/lang/IllegalArgumentException"] ++ (vx_atS RX4 108 "java/lang/IllegalArgumentException" ["java/lang/RuntimeException", "java/lang/Exception"]).filter goodWord)
def wsX4_lot_r1 : List Cond := [Cond.classLink RX4 36 "java/lang/IllegalStateException", Cond.initialized "java/lang/IllegalStateException", Cond.fieldLink RX4 32 "TesseraeRow" "lotCount" "I", Cond.fieldLink RX4 11 "TesseraeRow" "lots" "[LTesseraeRow$Lot;", Cond.classLink RX4 9 RX2, Cond.instantiable RX2 7, Cond.initialized RX2, Cond.constantFloat RX4 43 (1120403456), Cond.methodLink RX4 28 yX4_needRange, Cond.static yX4_needRange, Cond.initialized RX4, Cond.code yX4_needRange cX4_needRange 3 none, Cond.classLink RX4 104 "java/lang/IllegalArgumentException", Cond.initialized "java/lang/IllegalArgumentException", Cond.methodLink RX4 44 yX2_init, Cond.instanceMethod yX2_init, Cond.code yX2_init cX2_init 6 none, Cond.methodLink RX2 1 objectInit, Cond.instanceMethod objectInit, Cond.code objectInit ⟨#[0xb1]⟩ 1 none, Cond.fieldLink RX2 7 "TesseraeRow$Lot" "number" "I", Cond.fieldLink RX2 13 "TesseraeRow$Lot" "tone" "F", Cond.fieldLink RX2 17 "TesseraeRow$Lot" "left" "I", Cond.fieldLink RX2 20 "TesseraeRow$Lot" "material" "I"]
def wsX4_lot_r2 : List Cond := [Cond.fieldLink RX2 23 "TesseraeRow$Lot" "isThere" "Z"]
def wsX4_lot : List Cond := .code yX4_lot cX4_lot 6 (some .int) :: ((wsX4_lot_r1 ++ wsX4_lot_r2) ++ wsX40 ++ wsX20 ++ (vx_atS RX4 40 "java/lang/IllegalStateException" ["java/lang/RuntimeException", "java/lang/Exception"]).filter goodWord ++ (vx_atS RX4 108 "java/lang/IllegalArgumentException" ["java/lang/RuntimeException", "java/lang/Exception"]).filter goodWord)
def wsX4_needLot : List Cond := .code yX4_needLot cX4_needLot 3 (some (.object "TesseraeRow$Lot")) :: ([.classLink RX4 184 "java/lang/IndexOutOfBoundsException", .initialized "java/lang/IndexOutOfBoundsException", .fieldLink RX4 11 "TesseraeRow" "lots" "[LTesseraeRow$Lot;"] ++ wsX40 ++ (vx_atS RX4 188 "java/lang/IndexOutOfBoundsException" ["java/lang/RuntimeException", "java/lang/Exception"]).filter goodWord)
def wsX4_comes : List Cond := .code yX4_comes cX4_comes 3 (some .int) :: ([.classLink RX4 36 "java/lang/IllegalStateException", .initialized "java/lang/IllegalStateException", .fieldLink RX4 51 "TesseraeRow$Lot" "isThere" "Z", .fieldLink RX4 57 "TesseraeRow$Lot" "left" "I", .methodLink RX4 47 yX4_needLot, .instanceMethod yX4_needLot, .selects RX4 yX4_needLot yX4_needLot, .initialized RX4, .code yX4_needLot cX4_needLot 3 (some (.object "TesseraeRow$Lot")), .classLink RX4 184 "java/lang/IndexOutOfBoundsException", .initialized "java/lang/IndexOutOfBoundsException", .fieldLink RX4 11 "TesseraeRow" "lots" "[LTesseraeRow$Lot;"] ++ wsX20 ++ wsX40 ++ (vx_atS RX4 40 "java/lang/IllegalStateException" ["java/lang/RuntimeException", "java/lang/Exception"]).filter goodWord ++ (vx_atS RX4 188 "java/lang/IndexOutOfBoundsException" ["java/lang/RuntimeException", "java/lang/Exception"]).filter goodWord)
def wsX4_picture_r1 : List Cond := [Cond.classLink RX4 36 "java/lang/IllegalStateException", Cond.initialized "java/lang/IllegalStateException", Cond.fieldLink RX4 60 "TesseraeRow" "pictureCount" "I", Cond.fieldLink RX4 17 "TesseraeRow" "pictures" "[LTesseraeRow$Picture;", Cond.classLink RX4 15 RX3, Cond.instantiable RX3 4, Cond.initialized RX3, Cond.methodLink RX4 28 yX4_needRange, Cond.static yX4_needRange, Cond.initialized RX4, Cond.code yX4_needRange cX4_needRange 3 none, Cond.classLink RX4 104 "java/lang/IllegalArgumentException", Cond.initialized "java/lang/IllegalArgumentException", Cond.methodLink RX4 65 yX3_init, Cond.instanceMethod yX3_init, Cond.code yX3_init cX3_init 8 none, Cond.methodLink RX3 3 objectInit, Cond.instanceMethod objectInit, Cond.code objectInit ⟨#[0xb1]⟩ 1 none, Cond.fieldLink RX3 9 "TesseraeRow$Picture" "number" "I", Cond.fieldLink RX3 15 "TesseraeRow$Picture" "width" "I", Cond.fieldLink RX3 18 "TesseraeRow$Picture" "height" "I", Cond.classLink RX3 21 RX0, Cond.fieldLink RX3 23 "TesseraeRow$Picture" "cells" "[LTesseraeRow$Cell;"]
def wsX4_picture_r2 : List Cond := [Cond.instantiable RX0 10, Cond.initialized RX0, Cond.methodLink RX3 27 yX0_init, Cond.instanceMethod yX0_init, Cond.code yX0_init cX0_init 4 none, Cond.methodLink RX0 3 objectInit, Cond.fieldLink RX0 9 "TesseraeRow$Cell" "kind" "I", Cond.fieldLink RX0 15 "TesseraeRow$Cell" "x" "I", Cond.fieldLink RX0 18 "TesseraeRow$Cell" "y" "I", Cond.fieldLink RX0 21 "TesseraeRow$Cell" "wanted" "I"]
def wsX4_picture : List Cond := .code yX4_picture cX4_picture 5 (some .int) :: ((wsX4_picture_r1 ++ wsX4_picture_r2) ++ wsX40 ++ wsX30 ++ wsX00 ++ (vx_atS RX4 40 "java/lang/IllegalStateException" ["java/lang/RuntimeException", "java/lang/Exception"]).filter goodWord ++ (vx_atS RX4 108 "java/lang/IllegalArgumentException" ["java/lang/RuntimeException", "java/lang/Exception"]).filter goodWord)
def wsX4_needPicture : List Cond := .code yX4_needPicture cX4_needPicture 3 (some (.object "TesseraeRow$Picture")) :: ([.classLink RX4 184 "java/lang/IndexOutOfBoundsException", .initialized "java/lang/IndexOutOfBoundsException", .fieldLink RX4 17 "TesseraeRow" "pictures" "[LTesseraeRow$Picture;"] ++ wsX40 ++ (vx_atS RX4 188 "java/lang/IndexOutOfBoundsException" ["java/lang/RuntimeException", "java/lang/Exception"]).filter goodWord)
def wsX4_needCell : List Cond := .code yX4_needCell cX4_needCell 5 (some (.object "TesseraeRow$Cell")) :: ([.classLink RX4 184 "java/lang/IndexOutOfBoundsException", .initialized "java/lang/IndexOutOfBoundsException", .methodLink RX4 88 yX4_needPicture, .instanceMethod yX4_needPicture, .selects RX4 yX4_needPicture yX4_needPicture, .initialized RX4, .code yX4_needPicture cX4_needPicture 3 (some (.object "TesseraeRow$Picture")), .fieldLink RX4 17 "TesseraeRow" "pictures" "[LTesseraeRow$Picture;", .methodLink RX4 191 yX3_cellAt, .instanceMethod yX3_cellAt, .selects RX3 yX3_cellAt yX3_cellAt, .initialized RX3, .code yX3_cellAt cX3_cellAt 3 (some (.object "TesseraeRow$Cell")), .fieldLink RX3 15 "TesseraeRow$Picture" "width" "I", .fieldLink RX3 18 "TesseraeRow$Picture" "height" "I", .fieldLink RX3 23 "TesseraeRow$Picture" "cells" "[LTesseraeRow$Cell;"] ++ wsX40 ++ wsX30 ++ (vx_atS RX4 188 "java/lang/IndexOutOfBoundsException" ["java/lang/RuntimeException", "java/lang/Exception"]).filter goodWord)
def wsX4_cell_r1 : List Cond := [Cond.classLink RX4 36 "java/lang/IllegalStateException", Cond.initialized "java/lang/IllegalStateException", Cond.fieldLink RX4 80 "TesseraeRow$Cell" "wanted" "I", Cond.methodLink RX4 68 yX4_needCell, Cond.instanceMethod yX4_needCell, Cond.selects RX4 yX4_needCell yX4_needCell, Cond.initialized RX4, Cond.code yX4_needCell cX4_needCell 5 (some (.object "TesseraeRow$Cell")), Cond.classLink RX4 184 "java/lang/IndexOutOfBoundsException", Cond.initialized "java/lang/IndexOutOfBoundsException", Cond.methodLink RX4 88 yX4_needPicture, Cond.instanceMethod yX4_needPicture, Cond.selects RX4 yX4_needPicture yX4_needPicture, Cond.code yX4_needPicture cX4_needPicture 3 (some (.object "TesseraeRow$Picture")), Cond.fieldLink RX4 17 "TesseraeRow" "pictures" "[LTesseraeRow$Picture;", Cond.methodLink RX4 191 yX3_cellAt, Cond.instanceMethod yX3_cellAt, Cond.selects RX3 yX3_cellAt yX3_cellAt, Cond.initialized RX3, Cond.code yX3_cellAt cX3_cellAt 3 (some (.object "TesseraeRow$Cell")), Cond.fieldLink RX3 15 "TesseraeRow$Picture" "width" "I", Cond.fieldLink RX3 18 "TesseraeRow$Picture" "height" "I", Cond.fieldLink RX3 23 "TesseraeRow$Picture" "cells" "[LTesseraeRow$Cell;", Cond.methodLink RX4 28 yX4_needRange]
def wsX4_cell_r2 : List Cond := [Cond.static yX4_needRange, Cond.code yX4_needRange cX4_needRange 3 none, Cond.classLink RX4 104 "java/lang/IllegalArgumentException", Cond.initialized "java/lang/IllegalArgumentException", Cond.methodLink RX4 72 yX0_isDone, Cond.instanceMethod yX0_isDone, Cond.selects RX0 yX0_isDone yX0_isDone, Cond.initialized RX0, Cond.code yX0_isDone cX0_isDone 1 (some .boolean), Cond.fieldLink RX0 9 "TesseraeRow$Cell" "kind" "I"]
def wsX4_cell : List Cond := .code yX4_cell cX4_cell 7 (some .int) :: ((wsX4_cell_r1 ++ wsX4_cell_r2) ++ wsX00 ++ wsX40 ++ wsX30 ++ (vx_atS RX4 40 "java/lang/IllegalStateException" ["java/lang/RuntimeException", "java/lang/Exception"]).filter goodWord ++ (vx_atS RX4 188 "java/lang/IndexOutOfBoundsException" ["java/lang/RuntimeException", "java/lang/Exception"]).filter goodWord ++ (vx_atS RX4 108 "java/lang/IllegalArgumentException" ["java/lang/RuntimeException", "java/lang/Exception"]).filter goodWord)
def wsX4_old_r1 : List Cond := [Cond.classLink RX4 36 "java/lang/IllegalStateException", Cond.initialized "java/lang/IllegalStateException", Cond.fieldLink RX4 83 "TesseraeRow$Cell" "kind" "I", Cond.fieldLink RX4 80 "TesseraeRow$Cell" "wanted" "I", Cond.methodLink RX4 68 yX4_needCell, Cond.instanceMethod yX4_needCell, Cond.selects RX4 yX4_needCell yX4_needCell, Cond.initialized RX4, Cond.code yX4_needCell cX4_needCell 5 (some (.object "TesseraeRow$Cell")), Cond.classLink RX4 184 "java/lang/IndexOutOfBoundsException", Cond.initialized "java/lang/IndexOutOfBoundsException", Cond.methodLink RX4 88 yX4_needPicture, Cond.instanceMethod yX4_needPicture, Cond.selects RX4 yX4_needPicture yX4_needPicture, Cond.code yX4_needPicture cX4_needPicture 3 (some (.object "TesseraeRow$Picture")), Cond.fieldLink RX4 17 "TesseraeRow" "pictures" "[LTesseraeRow$Picture;", Cond.methodLink RX4 191 yX3_cellAt, Cond.instanceMethod yX3_cellAt, Cond.selects RX3 yX3_cellAt yX3_cellAt, Cond.initialized RX3, Cond.code yX3_cellAt cX3_cellAt 3 (some (.object "TesseraeRow$Cell")), Cond.fieldLink RX3 15 "TesseraeRow$Picture" "width" "I", Cond.fieldLink RX3 18 "TesseraeRow$Picture" "height" "I", Cond.fieldLink RX3 23 "TesseraeRow$Picture" "cells" "[LTesseraeRow$Cell;"]
def wsX4_old_r2 : List Cond := [Cond.methodLink RX4 28 yX4_needRange, Cond.static yX4_needRange, Cond.code yX4_needRange cX4_needRange 3 none, Cond.classLink RX4 104 "java/lang/IllegalArgumentException", Cond.initialized "java/lang/IllegalArgumentException", Cond.methodLink RX4 92 yX3_count, Cond.instanceMethod yX3_count, Cond.selects RX3 yX3_count yX3_count, Cond.code yX3_count cX3_count 7 (some .int), Cond.fieldLink RX3 30 "TesseraeRow$Cell" "kind" "I"]
def wsX4_old : List Cond := .code yX4_old cX4_old 6 (some .int) :: ((wsX4_old_r1 ++ wsX4_old_r2) ++ wsX00 ++ wsX40 ++ wsX30 ++ (vx_atS RX4 40 "java/lang/IllegalStateException" ["java/lang/RuntimeException", "java/lang/Exception"]).filter goodWord ++ (vx_atS RX4 188 "java/lang/IndexOutOfBoundsException" ["java/lang/RuntimeException", "java/lang/Exception"]).filter goodWord ++ (vx_atS RX4 108 "java/lang/IllegalArgumentException" ["java/lang/RuntimeException", "java/lang/Exception"]).filter goodWord)
def wsX4_fill_r1 : List Cond := [Cond.methodLink RX4 88 yX4_needPicture, Cond.instanceMethod yX4_needPicture, Cond.selects RX4 yX4_needPicture yX4_needPicture, Cond.initialized RX4, Cond.code yX4_needPicture cX4_needPicture 3 (some (.object "TesseraeRow$Picture")), Cond.classLink RX4 184 "java/lang/IndexOutOfBoundsException", Cond.initialized "java/lang/IndexOutOfBoundsException", Cond.fieldLink RX4 17 "TesseraeRow" "pictures" "[LTesseraeRow$Picture;", Cond.methodLink RX4 96 yX3_fillGaps, Cond.instanceMethod yX3_fillGaps, Cond.selects RX3 yX3_fillGaps yX3_fillGaps, Cond.initialized RX3, Cond.code yX3_fillGaps cX3_fillGaps 5 (some .int), Cond.fieldLink RX3 23 "TesseraeRow$Picture" "cells" "[LTesseraeRow$Cell;", Cond.fieldLink RX3 107 "TesseraeRow$Cell" "round" "I", Cond.methodLink RX3 104 yX0_isDone, Cond.instanceMethod yX0_isDone, Cond.selects RX0 yX0_isDone yX0_isDone, Cond.initialized RX0, Cond.code yX0_isDone cX0_isDone 1 (some .boolean), Cond.fieldLink RX0 9 "TesseraeRow$Cell" "kind" "I", Cond.methodLink RX3 110 yX3_fillRound, Cond.instanceMethod yX3_fillRound, Cond.selects RX3 yX3_fillRound yX3_fillRound]
def wsX4_fill_r2 : List Cond := [Cond.code yX3_fillRound cX3_fillRound 7 (some .int), Cond.methodLink RX3 114 yX3_fillCell, Cond.instanceMethod yX3_fillCell, Cond.selects RX3 yX3_fillCell yX3_fillCell, Cond.code yX3_fillCell cX3_fillCell 8 (some .boolean), Cond.fieldLink RX3 81 "TesseraeRow$Cell" "y" "I", Cond.fieldLink RX3 78 "TesseraeRow$Cell" "x" "I", Cond.fieldLink RX3 39 "TesseraeRow$Cell" "wanted" "I", Cond.methodLink RX3 92 yX3_cellAt, Cond.instanceMethod yX3_cellAt, Cond.selects RX3 yX3_cellAt yX3_cellAt, Cond.code yX3_cellAt cX3_cellAt 3 (some (.object "TesseraeRow$Cell")), Cond.fieldLink RX3 15 "TesseraeRow$Picture" "width" "I", Cond.fieldLink RX3 18 "TesseraeRow$Picture" "height" "I"]
def wsX4_fill : List Cond := .code yX4_fill cX4_fill 2 (some .int) :: ((wsX4_fill_r1 ++ wsX4_fill_r2) ++ wsX40 ++ wsX30 ++ wsX00 ++ (vx_atS RX4 188 "java/lang/IndexOutOfBoundsException" ["java/lang/RuntimeException", "java/lang/Exception"]).filter goodWord)
def wsX4_design_r1 : List Cond := [Cond.fieldLink RX4 11 "TesseraeRow" "lots" "[LTesseraeRow$Lot;", Cond.methodLink RX4 88 yX4_needPicture, Cond.instanceMethod yX4_needPicture, Cond.selects RX4 yX4_needPicture yX4_needPicture, Cond.initialized RX4, Cond.code yX4_needPicture cX4_needPicture 3 (some (.object "TesseraeRow$Picture")), Cond.classLink RX4 184 "java/lang/IndexOutOfBoundsException", Cond.initialized "java/lang/IndexOutOfBoundsException", Cond.fieldLink RX4 17 "TesseraeRow" "pictures" "[LTesseraeRow$Picture;", Cond.methodLink RX4 100 yX3_designFrom, Cond.instanceMethod yX3_designFrom, Cond.selects RX3 yX3_designFrom yX3_designFrom, Cond.initialized RX3, Cond.code yX3_designFrom cX3_designFrom 6 none, Cond.fieldLink RX3 23 "TesseraeRow$Picture" "cells" "[LTesseraeRow$Cell;", Cond.fieldLink RX3 39 "TesseraeRow$Cell" "wanted" "I", Cond.fieldLink RX3 42 "TesseraeRow$Cell" "brought" "F", Cond.fieldLink RX3 46 "TesseraeRow$Cell" "aim" "F", Cond.fieldLink RX3 30 "TesseraeRow$Cell" "kind" "I", Cond.methodLink RX3 33 yX0_takeBack, Cond.instanceMethod yX0_takeBack, Cond.selects RX0 yX0_takeBack yX0_takeBack, Cond.initialized RX0, Cond.code yX0_takeBack cX0_takeBack 1 none]
def wsX4_design_r2 : List Cond := [Cond.fieldLink RX0 9 "TesseraeRow$Cell" "kind" "I", Cond.fieldLink RX0 24 "TesseraeRow$Cell" "lot" "LTesseraeRow$Lot;", Cond.fieldLink RX0 33 "TesseraeRow$Lot" "promised" "I", Cond.fieldLink RX0 28 "TesseraeRow$Lot" "left" "I", Cond.methodLink RX3 36 yX3_forgetBrought, Cond.instanceMethod yX3_forgetBrought, Cond.selects RX3 yX3_forgetBrought yX3_forgetBrought, Cond.code yX3_forgetBrought cX3_forgetBrought 5 none, Cond.methodLink RX3 49 yX3_promiseNearest, Cond.static yX3_promiseNearest, Cond.code yX3_promiseNearest cX3_promiseNearest 9 none, Cond.fieldLink RX3 67 "TesseraeRow$Lot" "tone" "F", Cond.methodLink RX3 61 yX2_canPromise, Cond.instanceMethod yX2_canPromise, Cond.selects RX2 yX2_canPromise yX2_canPromise, Cond.initialized RX2, Cond.code yX2_canPromise cX2_canPromise 1 (some .boolean), Cond.fieldLink RX2 23 "TesseraeRow$Lot" "isThere" "Z", Cond.fieldLink RX2 17 "TesseraeRow$Lot" "left" "I", Cond.methodLink RX3 70 yX3_distance, Cond.static yX3_distance, Cond.code yX3_distance cX3_distance 3 (some .float), Cond.methodLink RX3 74 yX0_promise, Cond.instanceMethod yX0_promise]
def wsX4_design_r3 : List Cond := [Cond.selects RX0 yX0_promise yX0_promise, Cond.code yX0_promise cX0_promise 2 none, Cond.methodLink RX3 53 yX0_lackBehind, Cond.instanceMethod yX0_lackBehind, Cond.selects RX0 yX0_lackBehind yX0_lackBehind, Cond.code yX0_lackBehind cX0_lackBehind 2 (some .float), Cond.fieldLink RX0 45 "TesseraeRow$Lot" "tone" "F", Cond.methodLink RX3 57 yX3_passOn, Cond.instanceMethod yX3_passOn, Cond.selects RX3 yX3_passOn yX3_passOn, Cond.code yX3_passOn cX3_passOn 3 none, Cond.fieldLink RX3 78 "TesseraeRow$Cell" "x" "I", Cond.fieldLink RX3 81 "TesseraeRow$Cell" "y" "I", Cond.constantFloat RX3 84 (1054867456), Cond.constantFloat RX3 89 (1044381696), Cond.constantFloat RX3 90 (1050673152), Cond.constantFloat RX3 91 (1031798784), Cond.methodLink RX3 85 yX3_bringTo, Cond.instanceMethod yX3_bringTo, Cond.selects RX3 yX3_bringTo yX3_bringTo, Cond.code yX3_bringTo cX3_bringTo 5 none, Cond.methodLink RX3 92 yX3_cellAt, Cond.instanceMethod yX3_cellAt, Cond.selects RX3 yX3_cellAt yX3_cellAt]
def wsX4_design_r4 : List Cond := [Cond.code yX3_cellAt cX3_cellAt 3 (some (.object "TesseraeRow$Cell")), Cond.fieldLink RX3 15 "TesseraeRow$Picture" "width" "I", Cond.fieldLink RX3 18 "TesseraeRow$Picture" "height" "I", Cond.methodLink RX3 96 yX0_bring, Cond.instanceMethod yX0_bring, Cond.selects RX0 yX0_bring yX0_bring, Cond.code yX0_bring cX0_bring 2 none, Cond.fieldLink RX0 49 "TesseraeRow$Cell" "brought" "F", Cond.methodLink RX4 92 yX3_count, Cond.instanceMethod yX3_count, Cond.selects RX3 yX3_count yX3_count, Cond.code yX3_count cX3_count 7 (some .int)]
def wsX4_design : List Cond := .code yX4_design cX4_design 3 (some .int) :: ((wsX4_design_r1 ++ (wsX4_design_r2 ++ (wsX4_design_r3 ++ wsX4_design_r4))) ++ wsX40 ++ wsX30 ++ wsX00 ++ wsX20 ++ (vx_atS RX4 188 "java/lang/IndexOutOfBoundsException" ["java/lang/RuntimeException", "java/lang/Exception"]).filter goodWord)
def wsX4_share_r1 : List Cond := [Cond.classLink RX4 104 "java/lang/IllegalArgumentException", Cond.initialized "java/lang/IllegalArgumentException", Cond.methodLink RX4 88 yX4_needPicture, Cond.instanceMethod yX4_needPicture, Cond.selects RX4 yX4_needPicture yX4_needPicture, Cond.initialized RX4, Cond.code yX4_needPicture cX4_needPicture 3 (some (.object "TesseraeRow$Picture")), Cond.classLink RX4 184 "java/lang/IndexOutOfBoundsException", Cond.initialized "java/lang/IndexOutOfBoundsException", Cond.fieldLink RX4 17 "TesseraeRow" "pictures" "[LTesseraeRow$Picture;", Cond.methodLink RX4 47 yX4_needLot, Cond.instanceMethod yX4_needLot, Cond.selects RX4 yX4_needLot yX4_needLot, Cond.code yX4_needLot cX4_needLot 3 (some (.object "TesseraeRow$Lot")), Cond.fieldLink RX4 11 "TesseraeRow" "lots" "[LTesseraeRow$Lot;", Cond.methodLink RX4 109 yX3_giveOddCells, Cond.instanceMethod yX3_giveOddCells, Cond.selects RX3 yX3_giveOddCells yX3_giveOddCells, Cond.initialized RX3, Cond.code yX3_giveOddCells cX3_giveOddCells 8 (some .int), Cond.fieldLink RX3 23 "TesseraeRow$Picture" "cells" "[LTesseraeRow$Cell;", Cond.fieldLink RX3 78 "TesseraeRow$Cell" "x" "I", Cond.fieldLink RX3 81 "TesseraeRow$Cell" "y" "I", Cond.methodLink RX3 100 yX0_isPromised]
def wsX4_share_r2 : List Cond := [Cond.instanceMethod yX0_isPromised, Cond.selects RX0 yX0_isPromised yX0_isPromised, Cond.initialized RX0, Cond.code yX0_isPromised cX0_isPromised 2 (some .boolean), Cond.fieldLink RX0 9 "TesseraeRow$Cell" "kind" "I", Cond.fieldLink RX0 24 "TesseraeRow$Cell" "lot" "LTesseraeRow$Lot;", Cond.methodLink RX3 61 yX2_canPromise, Cond.instanceMethod yX2_canPromise, Cond.selects RX2 yX2_canPromise yX2_canPromise, Cond.initialized RX2, Cond.code yX2_canPromise cX2_canPromise 1 (some .boolean), Cond.fieldLink RX2 23 "TesseraeRow$Lot" "isThere" "Z", Cond.fieldLink RX2 17 "TesseraeRow$Lot" "left" "I", Cond.methodLink RX3 33 yX0_takeBack, Cond.instanceMethod yX0_takeBack, Cond.selects RX0 yX0_takeBack yX0_takeBack, Cond.code yX0_takeBack cX0_takeBack 1 none, Cond.fieldLink RX0 33 "TesseraeRow$Lot" "promised" "I", Cond.fieldLink RX0 28 "TesseraeRow$Lot" "left" "I", Cond.methodLink RX3 74 yX0_promise, Cond.instanceMethod yX0_promise, Cond.selects RX0 yX0_promise yX0_promise, Cond.code yX0_promise cX0_promise 2 none]
def wsX4_share : List Cond := .code yX4_share cX4_share 7 (some .int) :: ((wsX4_share_r1 ++ wsX4_share_r2) ++ wsX40 ++ wsX30 ++ wsX00 ++ wsX20 ++ (vx_atS RX4 108 "java/lang/IllegalArgumentException" ["java/lang/RuntimeException", "java/lang/Exception"]).filter goodWord ++ (vx_atS RX4 188 "java/lang/IndexOutOfBoundsException" ["java/lang/RuntimeException", "java/lang/Exception"]).filter goodWord)
def wsX4_needCrew : List Cond := .code yX4_needCrew cX4_needCrew 3 (some (.object "TesseraeRow$Crew")) :: ([.classLink RX4 184 "java/lang/IndexOutOfBoundsException", .initialized "java/lang/IndexOutOfBoundsException", .fieldLink RX4 23 "TesseraeRow" "crews" "[LTesseraeRow$Crew;"] ++ wsX40 ++ (vx_atS RX4 188 "java/lang/IndexOutOfBoundsException" ["java/lang/RuntimeException", "java/lang/Exception"]).filter goodWord)
def wsX4_send : List Cond := .code yX4_send cX4_send 6 (some .int) :: ([.fieldLink RX4 120 "TesseraeRow$Crew" "at" "LTesseraeRow$Picture;", .methodLink RX4 113 yX4_needCrew, .instanceMethod yX4_needCrew, .selects RX4 yX4_needCrew yX4_needCrew, .initialized RX4, .code yX4_needCrew cX4_needCrew 3 (some (.object "TesseraeRow$Crew")), .classLink RX4 184 "java/lang/IndexOutOfBoundsException", .initialized "java/lang/IndexOutOfBoundsException", .fieldLink RX4 23 "TesseraeRow" "crews" "[LTesseraeRow$Crew;", .methodLink RX4 88 yX4_needPicture, .instanceMethod yX4_needPicture, .selects RX4 yX4_needPicture yX4_needPicture, .code yX4_needPicture cX4_needPicture 3 (some (.object "TesseraeRow$Picture")), .fieldLink RX4 17 "TesseraeRow" "pictures" "[LTesseraeRow$Picture;", .methodLink RX4 117 yX1_pictureNumber, .instanceMethod yX1_pictureNumber, .selects RX1 yX1_pictureNumber yX1_pictureNumber, .initialized RX1, .code yX1_pictureNumber cX1_pictureNumber 1 (some .int), .fieldLink RX1 27 "TesseraeRow$Crew" "at" "LTesseraeRow$Picture;", .fieldLink RX1 31 "TesseraeRow$Picture" "number" "I"] ++ wsX10 ++ wsX40 ++ wsX30 ++ (vx_atS RX4 188 "java/lang/IndexOutOfBoundsException" ["java/lang/RuntimeException", "java/lang/Exception"]).filter goodWord)
def wsX4_crew : List Cond := .code yX4_crew cX4_crew 6 (some .int) :: ([.fieldLink RX4 124 "TesseraeRow$Crew" "rate" "I", .fieldLink RX4 127 "TesseraeRow$Crew" "dry" "I", .methodLink RX4 113 yX4_needCrew, .instanceMethod yX4_needCrew, .selects RX4 yX4_needCrew yX4_needCrew, .initialized RX4, .code yX4_needCrew cX4_needCrew 3 (some (.object "TesseraeRow$Crew")), .classLink RX4 184 "java/lang/IndexOutOfBoundsException", .initialized "java/lang/IndexOutOfBoundsException", .fieldLink RX4 23 "TesseraeRow" "crews" "[LTesseraeRow$Crew;", .methodLink RX4 28 yX4_needRange, .static yX4_needRange, .code yX4_needRange cX4_needRange 3 none, .classLink RX4 104 "java/lang/IllegalArgumentException", .initialized "java/lang/IllegalArgumentException"] ++ wsX10 ++ wsX40 ++ (vx_atS RX4 188 "java/lang/IndexOutOfBoundsException" ["java/lang/RuntimeException", "java/lang/Exception"]).filter goodWord ++ (vx_atS RX4 108 "java/lang/IllegalArgumentException" ["java/lang/RuntimeException", "java/lang/Exception"]).filter goodWord)
def wsX4_tray : List Cond := .code yX4_tray cX4_tray 5 (some .int) :: ([.fieldLink RX4 130 "TesseraeRow$Crew" "onTray" "I", .fieldLink RX4 133 "TesseraeRow$Crew" "material" "I", .methodLink RX4 113 yX4_needCrew, .instanceMethod yX4_needCrew, .selects RX4 yX4_needCrew yX4_needCrew, .initialized RX4, .code yX4_needCrew cX4_needCrew 3 (some (.object "TesseraeRow$Crew")), .classLink RX4 184 "java/lang/IndexOutOfBoundsException", .initialized "java/lang/IndexOutOfBoundsException", .fieldLink RX4 23 "TesseraeRow" "crews" "[LTesseraeRow$Crew;", .methodLink RX4 28 yX4_needRange, .static yX4_needRange, .code yX4_needRange cX4_needRange 3 none, .classLink RX4 104 "java/lang/IllegalArgumentException", .initialized "java/lang/IllegalArgumentException"] ++ wsX10 ++ wsX40 ++ (vx_atS RX4 188 "java/lang/IndexOutOfBoundsException" ["java/lang/RuntimeException", "java/lang/Exception"]).filter goodWord ++ (vx_atS RX4 108 "java/lang/IllegalArgumentException" ["java/lang/RuntimeException", "java/lang/Exception"]).filter goodWord)
def wsX4_load_r1 : List Cond := [Cond.methodLink RX4 113 yX4_needCrew, Cond.instanceMethod yX4_needCrew, Cond.selects RX4 yX4_needCrew yX4_needCrew, Cond.initialized RX4, Cond.code yX4_needCrew cX4_needCrew 3 (some (.object "TesseraeRow$Crew")), Cond.classLink RX4 184 "java/lang/IndexOutOfBoundsException", Cond.initialized "java/lang/IndexOutOfBoundsException", Cond.fieldLink RX4 23 "TesseraeRow" "crews" "[LTesseraeRow$Crew;", Cond.methodLink RX4 47 yX4_needLot, Cond.instanceMethod yX4_needLot, Cond.selects RX4 yX4_needLot yX4_needLot, Cond.code yX4_needLot cX4_needLot 3 (some (.object "TesseraeRow$Lot")), Cond.fieldLink RX4 11 "TesseraeRow" "lots" "[LTesseraeRow$Lot;", Cond.methodLink RX4 136 yX1_takeOnTray, Cond.instanceMethod yX1_takeOnTray, Cond.selects RX1 yX1_takeOnTray yX1_takeOnTray, Cond.initialized RX1, Cond.code yX1_takeOnTray cX1_takeOnTray 2 (some .boolean), Cond.fieldLink RX1 43 "TesseraeRow$Lot" "material" "I", Cond.fieldLink RX1 18 "TesseraeRow$Crew" "material" "I", Cond.fieldLink RX1 36 "TesseraeRow$Crew" "onTray" "I", Cond.fieldLink RX1 23 "TesseraeRow$Crew" "tray" "[LTesseraeRow$Lot;", Cond.methodLink RX1 39 yX1_hasOnTray, Cond.instanceMethod yX1_hasOnTray]
def wsX4_load_r2 : List Cond := [Cond.selects RX1 yX1_hasOnTray yX1_hasOnTray, Cond.code yX1_hasOnTray cX1_hasOnTray 3 (some .boolean)]
def wsX4_load : List Cond := .code yX4_load cX4_load 4 (some .boolean) :: ((wsX4_load_r1 ++ wsX4_load_r2) ++ wsX40 ++ wsX20 ++ wsX10 ++ (vx_atS RX4 188 "java/lang/IndexOutOfBoundsException" ["java/lang/RuntimeException", "java/lang/Exception"]).filter goodWord)
def wsX4_pass_r1 : List Cond := [Cond.fieldLink RX4 140 "TesseraeRow" "now" "I", Cond.methodLink RX4 28 yX4_needRange, Cond.static yX4_needRange, Cond.initialized RX4, Cond.code yX4_needRange cX4_needRange 3 none, Cond.classLink RX4 104 "java/lang/IllegalArgumentException", Cond.initialized "java/lang/IllegalArgumentException", Cond.methodLink RX4 113 yX4_needCrew, Cond.instanceMethod yX4_needCrew, Cond.selects RX4 yX4_needCrew yX4_needCrew, Cond.code yX4_needCrew cX4_needCrew 3 (some (.object "TesseraeRow$Crew")), Cond.classLink RX4 184 "java/lang/IndexOutOfBoundsException", Cond.initialized "java/lang/IndexOutOfBoundsException", Cond.fieldLink RX4 23 "TesseraeRow" "crews" "[LTesseraeRow$Crew;", Cond.methodLink RX4 143 yX1_layFor, Cond.instanceMethod yX1_layFor, Cond.selects RX1 yX1_layFor yX1_layFor, Cond.initialized RX1, Cond.code yX1_layFor cX1_layFor 3 (some .int), Cond.fieldLink RX1 9 "TesseraeRow$Crew" "rate" "I", Cond.fieldLink RX1 48 "TesseraeRow$Crew" "laid" "I", Cond.methodLink RX1 44 yX1_layNext, Cond.instanceMethod yX1_layNext, Cond.selects RX1 yX1_layNext yX1_layNext]
def wsX4_pass_r2 : List Cond := [Cond.code yX1_layNext cX1_layNext 3 (some .boolean), Cond.fieldLink RX1 27 "TesseraeRow$Crew" "at" "LTesseraeRow$Picture;", Cond.fieldLink RX1 55 "TesseraeRow$Cell" "kind" "I", Cond.fieldLink RX1 60 "TesseraeRow$Cell" "lot" "LTesseraeRow$Lot;", Cond.fieldLink RX1 64 "TesseraeRow$Cell" "y" "I", Cond.fieldLink RX1 15 "TesseraeRow$Crew" "dry" "I", Cond.methodLink RX1 51 yX3_firstUndone, Cond.instanceMethod yX3_firstUndone, Cond.selects RX3 yX3_firstUndone yX3_firstUndone, Cond.initialized RX3, Cond.code yX3_firstUndone cX3_firstUndone 5 (some (.object "TesseraeRow$Cell")), Cond.fieldLink RX3 23 "TesseraeRow$Picture" "cells" "[LTesseraeRow$Cell;", Cond.methodLink RX3 104 yX0_isDone, Cond.instanceMethod yX0_isDone, Cond.selects RX0 yX0_isDone yX0_isDone, Cond.initialized RX0, Cond.code yX0_isDone cX0_isDone 1 (some .boolean), Cond.fieldLink RX0 9 "TesseraeRow$Cell" "kind" "I", Cond.methodLink RX1 39 yX1_hasOnTray, Cond.instanceMethod yX1_hasOnTray, Cond.selects RX1 yX1_hasOnTray yX1_hasOnTray, Cond.code yX1_hasOnTray cX1_hasOnTray 3 (some .boolean), Cond.fieldLink RX1 36 "TesseraeRow$Crew" "onTray" "I", Cond.fieldLink RX1 23 "TesseraeRow$Crew" "tray" "[LTesseraeRow$Lot;"]
def wsX4_pass_r3 : List Cond := [Cond.methodLink RX1 67 yX3_isDryRow, Cond.instanceMethod yX3_isDryRow, Cond.selects RX3 yX3_isDryRow yX3_isDryRow, Cond.code yX3_isDryRow cX3_isDryRow 6 (some .boolean), Cond.fieldLink RX3 15 "TesseraeRow$Picture" "width" "I", Cond.fieldLink RX3 30 "TesseraeRow$Cell" "kind" "I", Cond.fieldLink RX3 118 "TesseraeRow$Cell" "laidAt" "I", Cond.fieldLink RX3 121 "TesseraeRow$Cell" "dryAt" "I", Cond.methodLink RX3 92 yX3_cellAt, Cond.instanceMethod yX3_cellAt, Cond.selects RX3 yX3_cellAt yX3_cellAt, Cond.code yX3_cellAt cX3_cellAt 3 (some (.object "TesseraeRow$Cell")), Cond.fieldLink RX3 18 "TesseraeRow$Picture" "height" "I", Cond.methodLink RX1 71 yX0_lay, Cond.instanceMethod yX0_lay, Cond.selects RX0 yX0_lay yX0_lay, Cond.code yX0_lay cX0_lay 3 none, Cond.fieldLink RX0 24 "TesseraeRow$Cell" "lot" "LTesseraeRow$Lot;", Cond.fieldLink RX0 33 "TesseraeRow$Lot" "promised" "I", Cond.fieldLink RX0 36 "TesseraeRow$Lot" "laid" "I", Cond.fieldLink RX0 39 "TesseraeRow$Cell" "laidAt" "I", Cond.fieldLink RX0 42 "TesseraeRow$Cell" "dryAt" "I"]
def wsX4_pass : List Cond := .code yX4_pass cX4_pass 5 (some .int) :: ((wsX4_pass_r1 ++ (wsX4_pass_r2 ++ wsX4_pass_r3)) ++ wsX40 ++ wsX10 ++ wsX00 ++ wsX30 ++ wsX20 ++ (vx_atS RX4 108 "java/lang/IllegalArgumentException" ["java/lang/RuntimeException", "java/lang/Exception"]).filter goodWord ++ (vx_atS RX4 188 "java/lang/IndexOutOfBoundsException" ["java/lang/RuntimeException", "java/lang/Exception"]).filter goodWord)
def wsX4_hour : List Cond := .code yX4_hour cX4_hour 1 (some .int) :: ([.fieldLink RX4 140 "TesseraeRow" "now" "I"] ++ wsX40)
def wsX4_bitsOf : List Cond := .code yX4_bitsOf cX4_bitsOf 4 (some .int) :: ([.constantFloat RX4 199 (1056964608), .constantFloat RX4 200 (1258291200), .constant RX4 201 (-2147483648)])
def wsX4_ofCell_r1 : List Cond := [Cond.fieldLink RX4 83 "TesseraeRow$Cell" "kind" "I", Cond.fieldLink RX4 146 "TesseraeRow$Cell" "lot" "LTesseraeRow$Lot;", Cond.fieldLink RX4 150 "TesseraeRow$Lot" "number" "I", Cond.fieldLink RX4 80 "TesseraeRow$Cell" "wanted" "I", Cond.fieldLink RX4 153 "TesseraeRow$Cell" "aim" "F", Cond.fieldLink RX4 161 "TesseraeRow$Cell" "laidAt" "I", Cond.methodLink RX4 68 yX4_needCell, Cond.instanceMethod yX4_needCell, Cond.selects RX4 yX4_needCell yX4_needCell, Cond.initialized RX4, Cond.code yX4_needCell cX4_needCell 5 (some (.object "TesseraeRow$Cell")), Cond.classLink RX4 184 "java/lang/IndexOutOfBoundsException", Cond.initialized "java/lang/IndexOutOfBoundsException", Cond.methodLink RX4 88 yX4_needPicture, Cond.instanceMethod yX4_needPicture, Cond.selects RX4 yX4_needPicture yX4_needPicture, Cond.code yX4_needPicture cX4_needPicture 3 (some (.object "TesseraeRow$Picture")), Cond.fieldLink RX4 17 "TesseraeRow" "pictures" "[LTesseraeRow$Picture;", Cond.methodLink RX4 191 yX3_cellAt, Cond.instanceMethod yX3_cellAt, Cond.selects RX3 yX3_cellAt yX3_cellAt, Cond.initialized RX3, Cond.code yX3_cellAt cX3_cellAt 3 (some (.object "TesseraeRow$Cell")), Cond.fieldLink RX3 15 "TesseraeRow$Picture" "width" "I"]
def wsX4_ofCell_r2 : List Cond := [Cond.fieldLink RX3 18 "TesseraeRow$Picture" "height" "I", Cond.fieldLink RX3 23 "TesseraeRow$Picture" "cells" "[LTesseraeRow$Cell;", Cond.methodLink RX4 28 yX4_needRange, Cond.static yX4_needRange, Cond.code yX4_needRange cX4_needRange 3 none, Cond.classLink RX4 104 "java/lang/IllegalArgumentException", Cond.initialized "java/lang/IllegalArgumentException", Cond.methodLink RX4 157 yX4_bitsOf, Cond.static yX4_bitsOf, Cond.code yX4_bitsOf cX4_bitsOf 4 (some .int), Cond.constantFloat RX4 199 (1056964608), Cond.constantFloat RX4 200 (1258291200), Cond.constant RX4 201 (-2147483648)]
def wsX4_ofCell : List Cond := .code yX4_ofCell cX4_ofCell 6 (some .int) :: ((wsX4_ofCell_r1 ++ wsX4_ofCell_r2) ++ wsX00 ++ wsX20 ++ wsX40 ++ wsX30 ++ (vx_atS RX4 188 "java/lang/IndexOutOfBoundsException" ["java/lang/RuntimeException", "java/lang/Exception"]).filter goodWord ++ (vx_atS RX4 108 "java/lang/IllegalArgumentException" ["java/lang/RuntimeException", "java/lang/Exception"]).filter goodWord)
def wsX4_aimAnew_r1 : List Cond := [Cond.methodLink RX4 68 yX4_needCell, Cond.instanceMethod yX4_needCell, Cond.selects RX4 yX4_needCell yX4_needCell, Cond.initialized RX4, Cond.code yX4_needCell cX4_needCell 5 (some (.object "TesseraeRow$Cell")), Cond.classLink RX4 184 "java/lang/IndexOutOfBoundsException", Cond.initialized "java/lang/IndexOutOfBoundsException", Cond.methodLink RX4 88 yX4_needPicture, Cond.instanceMethod yX4_needPicture, Cond.selects RX4 yX4_needPicture yX4_needPicture, Cond.code yX4_needPicture cX4_needPicture 3 (some (.object "TesseraeRow$Picture")), Cond.fieldLink RX4 17 "TesseraeRow" "pictures" "[LTesseraeRow$Picture;", Cond.methodLink RX4 191 yX3_cellAt, Cond.instanceMethod yX3_cellAt, Cond.selects RX3 yX3_cellAt yX3_cellAt, Cond.initialized RX3, Cond.code yX3_cellAt cX3_cellAt 3 (some (.object "TesseraeRow$Cell")), Cond.fieldLink RX3 15 "TesseraeRow$Picture" "width" "I", Cond.fieldLink RX3 18 "TesseraeRow$Picture" "height" "I", Cond.fieldLink RX3 23 "TesseraeRow$Picture" "cells" "[LTesseraeRow$Cell;", Cond.methodLink RX4 164 yX3_aimByNow, Cond.instanceMethod yX3_aimByNow, Cond.selects RX3 yX3_aimByNow yX3_aimByNow, Cond.code yX3_aimByNow cX3_aimByNow 7 (some .float)]
def wsX4_aimAnew_r2 : List Cond := [Cond.fieldLink RX3 39 "TesseraeRow$Cell" "wanted" "I", Cond.fieldLink RX3 42 "TesseraeRow$Cell" "brought" "F", Cond.methodLink RX3 36 yX3_forgetBrought, Cond.instanceMethod yX3_forgetBrought, Cond.selects RX3 yX3_forgetBrought yX3_forgetBrought, Cond.code yX3_forgetBrought cX3_forgetBrought 5 none, Cond.methodLink RX3 53 yX0_lackBehind, Cond.instanceMethod yX0_lackBehind, Cond.selects RX0 yX0_lackBehind yX0_lackBehind, Cond.initialized RX0, Cond.code yX0_lackBehind cX0_lackBehind 2 (some .float), Cond.fieldLink RX0 24 "TesseraeRow$Cell" "lot" "LTesseraeRow$Lot;", Cond.fieldLink RX0 45 "TesseraeRow$Lot" "tone" "F", Cond.methodLink RX3 57 yX3_passOn, Cond.instanceMethod yX3_passOn, Cond.selects RX3 yX3_passOn yX3_passOn, Cond.code yX3_passOn cX3_passOn 3 none, Cond.fieldLink RX3 78 "TesseraeRow$Cell" "x" "I", Cond.fieldLink RX3 81 "TesseraeRow$Cell" "y" "I", Cond.constantFloat RX3 84 (1054867456), Cond.constantFloat RX3 89 (1044381696), Cond.constantFloat RX3 90 (1050673152), Cond.constantFloat RX3 91 (1031798784), Cond.methodLink RX3 85 yX3_bringTo]
def wsX4_aimAnew_r3 : List Cond := [Cond.instanceMethod yX3_bringTo, Cond.selects RX3 yX3_bringTo yX3_bringTo, Cond.code yX3_bringTo cX3_bringTo 5 none, Cond.methodLink RX3 92 yX3_cellAt, Cond.methodLink RX3 96 yX0_bring, Cond.instanceMethod yX0_bring, Cond.selects RX0 yX0_bring yX0_bring, Cond.code yX0_bring cX0_bring 2 none, Cond.fieldLink RX0 49 "TesseraeRow$Cell" "brought" "F", Cond.methodLink RX4 157 yX4_bitsOf, Cond.static yX4_bitsOf, Cond.code yX4_bitsOf cX4_bitsOf 4 (some .int), Cond.constantFloat RX4 199 (1056964608), Cond.constantFloat RX4 200 (1258291200), Cond.constant RX4 201 (-2147483648)]
def wsX4_aimAnew : List Cond := .code yX4_aimAnew cX4_aimAnew 5 (some .int) :: ((wsX4_aimAnew_r1 ++ (wsX4_aimAnew_r2 ++ wsX4_aimAnew_r3)) ++ wsX40 ++ wsX30 ++ wsX00 ++ wsX20 ++ (vx_atS RX4 188 "java/lang/IndexOutOfBoundsException" ["java/lang/RuntimeException", "java/lang/Exception"]).filter goodWord)
def wsX4_edge_r1 : List Cond := [Cond.methodLink RX4 88 yX4_needPicture, Cond.instanceMethod yX4_needPicture, Cond.selects RX4 yX4_needPicture yX4_needPicture, Cond.initialized RX4, Cond.code yX4_needPicture cX4_needPicture 3 (some (.object "TesseraeRow$Picture")), Cond.classLink RX4 184 "java/lang/IndexOutOfBoundsException", Cond.initialized "java/lang/IndexOutOfBoundsException", Cond.fieldLink RX4 17 "TesseraeRow" "pictures" "[LTesseraeRow$Picture;", Cond.methodLink RX4 168 yX3_greatestEdge, Cond.instanceMethod yX3_greatestEdge, Cond.selects RX3 yX3_greatestEdge yX3_greatestEdge, Cond.initialized RX3, Cond.code yX3_greatestEdge cX3_greatestEdge 9 (some .float), Cond.fieldLink RX3 23 "TesseraeRow$Picture" "cells" "[LTesseraeRow$Cell;", Cond.fieldLink RX3 78 "TesseraeRow$Cell" "x" "I", Cond.fieldLink RX3 81 "TesseraeRow$Cell" "y" "I", Cond.methodLink RX3 92 yX3_cellAt, Cond.instanceMethod yX3_cellAt, Cond.selects RX3 yX3_cellAt yX3_cellAt, Cond.code yX3_cellAt cX3_cellAt 3 (some (.object "TesseraeRow$Cell")), Cond.fieldLink RX3 15 "TesseraeRow$Picture" "width" "I", Cond.fieldLink RX3 18 "TesseraeRow$Picture" "height" "I", Cond.methodLink RX3 124 yX3_edgeBetween, Cond.static yX3_edgeBetween]
def wsX4_edge_r2 : List Cond := [Cond.code yX3_edgeBetween cX3_edgeBetween 4 (some .float), Cond.fieldLink RX3 30 "TesseraeRow$Cell" "kind" "I", Cond.fieldLink RX3 39 "TesseraeRow$Cell" "wanted" "I", Cond.methodLink RX3 128 yX0_stoneTone, Cond.instanceMethod yX0_stoneTone, Cond.selects RX0 yX0_stoneTone yX0_stoneTone, Cond.initialized RX0, Cond.code yX0_stoneTone cX0_stoneTone 1 (some .float), Cond.fieldLink RX0 24 "TesseraeRow$Cell" "lot" "LTesseraeRow$Lot;", Cond.fieldLink RX0 21 "TesseraeRow$Cell" "wanted" "I", Cond.fieldLink RX0 45 "TesseraeRow$Lot" "tone" "F", Cond.methodLink RX3 70 yX3_distance, Cond.static yX3_distance, Cond.code yX3_distance cX3_distance 3 (some .float), Cond.methodLink RX4 157 yX4_bitsOf, Cond.static yX4_bitsOf, Cond.code yX4_bitsOf cX4_bitsOf 4 (some .int), Cond.constantFloat RX4 199 (1056964608), Cond.constantFloat RX4 200 (1258291200), Cond.constant RX4 201 (-2147483648)]
def wsX4_edge : List Cond := .code yX4_edge cX4_edge 2 (some .int) :: ((wsX4_edge_r1 ++ wsX4_edge_r2) ++ wsX40 ++ wsX30 ++ wsX00 ++ wsX20 ++ (vx_atS RX4 188 "java/lang/IndexOutOfBoundsException" ["java/lang/RuntimeException", "java/lang/Exception"]).filter goodWord)
def wsX4_ofLot : List Cond := .code yX4_ofLot cX4_ofLot 4 (some .int) :: ([.fieldLink RX4 57 "TesseraeRow$Lot" "left" "I", .fieldLink RX4 172 "TesseraeRow$Lot" "promised" "I", .fieldLink RX4 175 "TesseraeRow$Lot" "laid" "I", .fieldLink RX4 51 "TesseraeRow$Lot" "isThere" "Z", .fieldLink RX4 178 "TesseraeRow$Lot" "tone" "F", .methodLink RX4 47 yX4_needLot, .instanceMethod yX4_needLot, .selects RX4 yX4_needLot yX4_needLot, .initialized RX4, .code yX4_needLot cX4_needLot 3 (some (.object "TesseraeRow$Lot")), .classLink RX4 184 "java/lang/IndexOutOfBoundsException", .initialized "java/lang/IndexOutOfBoundsException", .fieldLink RX4 11 "TesseraeRow" "lots" "[LTesseraeRow$Lot;", .methodLink RX4 28 yX4_needRange, .static yX4_needRange, .code yX4_needRange cX4_needRange 3 none, .classLink RX4 104 "java/lang/IllegalArgumentException", .initialized "java/lang/IllegalArgumentException", .methodLink RX4 157 yX4_bitsOf, .static yX4_bitsOf, .code yX4_bitsOf cX4_bitsOf 4 (some .int), .constantFloat RX4 199 (1056964608), .constantFloat RX4 200 (1258291200), .constant RX4 201 (-2147483648)] ++ wsX20 ++ wsX40 ++ (vx_atS RX4 188 "java/lang/IndexOutOfBoundsException" ["java/lang/RuntimeException", "java/lang/Exception"]).filter goodWord ++ (vx_atS RX4 108 "java/lang/IllegalArgumentException" ["java/lang/RuntimeException", "java/lang/Exception"]).filter goodWord)
def wsX4_ofPicture : List Cond := .code yX4_ofPicture cX4_ofPicture 4 (some .int) :: ([.methodLink RX4 88 yX4_needPicture, .instanceMethod yX4_needPicture, .selects RX4 yX4_needPicture yX4_needPicture, .initialized RX4, .code yX4_needPicture cX4_needPicture 3 (some (.object "TesseraeRow$Picture")), .classLink RX4 184 "java/lang/IndexOutOfBoundsException", .initialized "java/lang/IndexOutOfBoundsException", .fieldLink RX4 17 "TesseraeRow" "pictures" "[LTesseraeRow$Picture;", .methodLink RX4 28 yX4_needRange, .static yX4_needRange, .code yX4_needRange cX4_needRange 3 none, .classLink RX4 104 "java/lang/IllegalArgumentException", .initialized "java/lang/IllegalArgumentException", .methodLink RX4 92 yX3_count, .instanceMethod yX3_count, .selects RX3 yX3_count yX3_count, .initialized RX3, .code yX3_count cX3_count 7 (some .int), .fieldLink RX3 23 "TesseraeRow$Picture" "cells" "[LTesseraeRow$Cell;", .fieldLink RX3 30 "TesseraeRow$Cell" "kind" "I"] ++ wsX40 ++ wsX30 ++ wsX00 ++ (vx_atS RX4 188 "java/lang/IndexOutOfBoundsException" ["java/lang/RuntimeException", "java/lang/Exception"]).filter goodWord ++ (vx_atS RX4 108 "java/lang/IllegalArgumentException" ["java/lang/RuntimeException", "java/lang/Exception"]).filter goodWord)
def wsX4_ofCrew : List Cond := .code yX4_ofCrew cX4_ofCrew 4 (some .int) :: ([.fieldLink RX4 133 "TesseraeRow$Crew" "material" "I", .fieldLink RX4 130 "TesseraeRow$Crew" "onTray" "I", .fieldLink RX4 181 "TesseraeRow$Crew" "laid" "I", .methodLink RX4 113 yX4_needCrew, .instanceMethod yX4_needCrew, .selects RX4 yX4_needCrew yX4_needCrew, .initialized RX4, .code yX4_needCrew cX4_needCrew 3 (some (.object "TesseraeRow$Crew")), .classLink RX4 184 "java/lang/IndexOutOfBoundsException", .initialized "java/lang/IndexOutOfBoundsException", .fieldLink RX4 23 "TesseraeRow" "crews" "[LTesseraeRow$Crew;", .methodLink RX4 28 yX4_needRange, .static yX4_needRange, .code yX4_needRange cX4_needRange 3 none, .classLink RX4 104 "java/lang/IllegalArgumentException", .initialized "java/lang/IllegalArgumentException", .methodLink RX4 117 yX1_pictureNumber, .instanceMethod yX1_pictureNumber, .selects RX1 yX1_pictureNumber yX1_pictureNumber, .initialized RX1, .code yX1_pictureNumber cX1_pictureNumber 1 (some .int), .fieldLink RX1 27 "TesseraeRow$Crew" "at" "LTesseraeRow$Picture;", .fieldLink RX1 31 "TesseraeRow$Picture" "number" "I"] ++ wsX10 ++ wsX40 ++ wsX30 ++ (vx_atS RX4 188 "java/lang/IndexOutOfBoundsException" ["java/lang/RuntimeException", "java/lang/Exception"]).filter goodWord ++ (vx_atS RX4 108 "java/lang/IllegalArgumentException" ["java/lang/RuntimeException", "java/lang/Exception"]).filter goodWord)
def wsX5_init_r1 : List Cond := [Cond.methodLink RX5 1 objectInit, Cond.instanceMethod objectInit, Cond.code objectInit ⟨#[0xb1]⟩ 1 none, Cond.arrayClass .float, Cond.fieldLink RX5 7 "TesseraeRowModel" "tone" "[F", Cond.arrayClass .int, Cond.fieldLink RX5 13 "TesseraeRowModel" "many" "[I", Cond.fieldLink RX5 17 "TesseraeRowModel" "material" "[I", Cond.arrayClass .boolean, Cond.fieldLink RX5 20 "TesseraeRowModel" "there" "[Z", Cond.fieldLink RX5 24 "TesseraeRowModel" "promised" "[I", Cond.fieldLink RX5 27 "TesseraeRowModel" "laid" "[I", Cond.fieldLink RX5 30 "TesseraeRowModel" "width" "[I", Cond.fieldLink RX5 33 "TesseraeRowModel" "height" "[I", Cond.fieldLink RX5 36 "TesseraeRowModel" "wanted" "[I", Cond.fieldLink RX5 39 "TesseraeRowModel" "state" "[I", Cond.fieldLink RX5 42 "TesseraeRowModel" "lot" "[I", Cond.fieldLink RX5 45 "TesseraeRowModel" "aim" "[F", Cond.fieldLink RX5 48 "TesseraeRowModel" "hourOf" "[I", Cond.fieldLink RX5 51 "TesseraeRowModel" "dryOf" "[I", Cond.fieldLink RX5 54 "TesseraeRowModel" "brought" "[F", Cond.fieldLink RX5 57 "TesseraeRowModel" "round" "[I", Cond.fieldLink RX5 60 "TesseraeRowModel" "at" "[I", Cond.fieldLink RX5 63 "TesseraeRowModel" "rate" "[I"]
def wsX5_init_r2 : List Cond := [Cond.fieldLink RX5 66 "TesseraeRowModel" "dry" "[I", Cond.fieldLink RX5 69 "TesseraeRowModel" "tray" "[I", Cond.fieldLink RX5 72 "TesseraeRowModel" "on" "[Z", Cond.fieldLink RX5 75 "TesseraeRowModel" "done" "[I"]
def wsX5_init : List Cond := .code yX5_init cX5_init 2 none :: ((wsX5_init_r1 ++ wsX5_init_r2) ++ wsX50)
def wsX5_thrown : List Cond := .code yX5_thrown cX5_thrown 1 (some .int) :: ([.fieldLink RX5 78 "TesseraeRowModel" "thrown" "I"] ++ wsX50)
def wsX5_asked : List Cond := .code yX5_asked cX5_asked 2 (some .boolean) :: ([.fieldLink RX5 78 "TesseraeRowModel" "thrown" "I"] ++ wsX50)
def wsX5_asked_ : List Cond := .code yX5_asked_ cX5_asked_ 3 (some .boolean) :: ([.fieldLink RX5 78 "TesseraeRowModel" "thrown" "I"] ++ wsX50)
def wsX5_asked__ : List Cond := .code yX5_asked__ cX5_asked__ 4 (some .boolean) :: ([.fieldLink RX5 78 "TesseraeRowModel" "thrown" "I"] ++ wsX50)
def wsX5_in : List Cond := .code yX5_in cX5_in 3 (some .boolean) :: ([])
def wsX5_isLot : List Cond := .code yX5_isLot cX5_isLot 2 (some .boolean) :: ([.fieldLink RX5 82 "TesseraeRowModel" "lots" "I", .methodLink RX5 85 yX5_in, .static yX5_in, .initialized RX5, .code yX5_in cX5_in 3 (some .boolean)] ++ wsX50)
def wsX5_isPicture : List Cond := .code yX5_isPicture cX5_isPicture 2 (some .boolean) :: ([.fieldLink RX5 89 "TesseraeRowModel" "pictures" "I", .methodLink RX5 85 yX5_in, .static yX5_in, .initialized RX5, .code yX5_in cX5_in 3 (some .boolean)] ++ wsX50)
def wsX5_isCell : List Cond := .code yX5_isCell cX5_isCell 4 (some .boolean) :: ([.fieldLink RX5 30 "TesseraeRowModel" "width" "[I", .fieldLink RX5 33 "TesseraeRowModel" "height" "[I", .methodLink RX5 92 yX5_isPicture, .instanceMethod yX5_isPicture, .selects RX5 yX5_isPicture yX5_isPicture, .initialized RX5, .code yX5_isPicture cX5_isPicture 2 (some .boolean), .fieldLink RX5 89 "TesseraeRowModel" "pictures" "I", .methodLink RX5 85 yX5_in, .static yX5_in, .code yX5_in cX5_in 3 (some .boolean)] ++ wsX50)
def wsX5_isCrew : List Cond := .code yX5_isCrew cX5_isCrew 1 (some .boolean) :: ([.methodLink RX5 85 yX5_in, .static yX5_in, .initialized RX5, .code yX5_in cX5_in 3 (some .boolean)])
def wsX5_left : List Cond := .code yX5_left cX5_left 2 (some .int) :: ([.fieldLink RX5 13 "TesseraeRowModel" "many" "[I", .fieldLink RX5 24 "TesseraeRowModel" "promised" "[I", .fieldLink RX5 27 "TesseraeRowModel" "laid" "[I"] ++ wsX50)
def wsX5_lot : List Cond := .code yX5_lot cX5_lot 5 (some .int) :: ([.fieldLink RX5 82 "TesseraeRowModel" "lots" "I", .fieldLink RX5 7 "TesseraeRowModel" "tone" "[F", .constantFloat RX5 100 (1120403456), .fieldLink RX5 13 "TesseraeRowModel" "many" "[I", .fieldLink RX5 17 "TesseraeRowModel" "material" "[I", .fieldLink RX5 20 "TesseraeRowModel" "there" "[Z", .methodLink RX5 85 yX5_in, .static yX5_in, .initialized RX5, .code yX5_in cX5_in 3 (some .boolean), .methodLink RX5 96 yX5_asked_, .instanceMethod yX5_asked_, .selects RX5 yX5_asked_ yX5_asked_, .code yX5_asked_ cX5_asked_ 3 (some .boolean), .fieldLink RX5 78 "TesseraeRowModel" "thrown" "I"] ++ wsX50)
def wsX5_comes : List Cond := .code yX5_comes cX5_comes 3 (some .int) :: ([.fieldLink RX5 20 "TesseraeRowModel" "there" "[Z", .methodLink RX5 101 yX5_isLot, .instanceMethod yX5_isLot, .selects RX5 yX5_isLot yX5_isLot, .initialized RX5, .code yX5_isLot cX5_isLot 2 (some .boolean), .fieldLink RX5 82 "TesseraeRowModel" "lots" "I", .methodLink RX5 85 yX5_in, .static yX5_in, .code yX5_in cX5_in 3 (some .boolean), .methodLink RX5 96 yX5_asked_, .instanceMethod yX5_asked_, .selects RX5 yX5_asked_ yX5_asked_, .code yX5_asked_ cX5_asked_ 3 (some .boolean), .fieldLink RX5 78 "TesseraeRowModel" "thrown" "I", .methodLink RX5 104 yX5_left, .instanceMethod yX5_left, .selects RX5 yX5_left yX5_left, .code yX5_left cX5_left 2 (some .int), .fieldLink RX5 13 "TesseraeRowModel" "many" "[I", .fieldLink RX5 24 "TesseraeRowModel" "promised" "[I", .fieldLink RX5 27 "TesseraeRowModel" "laid" "[I"] ++ wsX50)
def wsX5_picture : List Cond := .code yX5_picture cX5_picture 5 (some .int) :: ([.fieldLink RX5 89 "TesseraeRowModel" "pictures" "I", .fieldLink RX5 30 "TesseraeRowModel" "width" "[I", .fieldLink RX5 33 "TesseraeRowModel" "height" "[I", .fieldLink RX5 36 "TesseraeRowModel" "wanted" "[I", .fieldLink RX5 42 "TesseraeRowModel" "lot" "[I", .fieldLink RX5 48 "TesseraeRowModel" "hourOf" "[I", .methodLink RX5 85 yX5_in, .static yX5_in, .initialized RX5, .code yX5_in cX5_in 3 (some .boolean), .methodLink RX5 96 yX5_asked_, .instanceMethod yX5_asked_, .selects RX5 yX5_asked_ yX5_asked_, .code yX5_asked_ cX5_asked_ 3 (some .boolean), .fieldLink RX5 78 "TesseraeRowModel" "thrown" "I"] ++ wsX50)
def wsX5_cellOf : List Cond := .code yX5_cellOf cX5_cellOf 3 (some .int) :: ([])
def wsX5_cell_r1 : List Cond := [Cond.fieldLink RX5 39 "TesseraeRowModel" "state" "[I", Cond.fieldLink RX5 36 "TesseraeRowModel" "wanted" "[I", Cond.methodLink RX5 108 yX5_isCell, Cond.instanceMethod yX5_isCell, Cond.selects RX5 yX5_isCell yX5_isCell, Cond.initialized RX5, Cond.code yX5_isCell cX5_isCell 4 (some .boolean), Cond.fieldLink RX5 30 "TesseraeRowModel" "width" "[I", Cond.fieldLink RX5 33 "TesseraeRowModel" "height" "[I", Cond.methodLink RX5 92 yX5_isPicture, Cond.instanceMethod yX5_isPicture, Cond.selects RX5 yX5_isPicture yX5_isPicture, Cond.code yX5_isPicture cX5_isPicture 2 (some .boolean), Cond.fieldLink RX5 89 "TesseraeRowModel" "pictures" "I", Cond.methodLink RX5 85 yX5_in, Cond.static yX5_in, Cond.code yX5_in cX5_in 3 (some .boolean), Cond.methodLink RX5 111 yX5_cellOf, Cond.static yX5_cellOf, Cond.code yX5_cellOf cX5_cellOf 3 (some .int), Cond.methodLink RX5 115 yX5_asked__, Cond.instanceMethod yX5_asked__, Cond.selects RX5 yX5_asked__ yX5_asked__, Cond.code yX5_asked__ cX5_asked__ 4 (some .boolean)]
def wsX5_cell_r2 : List Cond := [Cond.fieldLink RX5 78 "TesseraeRowModel" "thrown" "I"]
def wsX5_cell : List Cond := .code yX5_cell cX5_cell 8 (some .int) :: ((wsX5_cell_r1 ++ wsX5_cell_r2) ++ wsX50)
def wsX5_count : List Cond := .code yX5_count cX5_count 6 (some .int) :: ([.fieldLink RX5 33 "TesseraeRowModel" "height" "[I", .fieldLink RX5 30 "TesseraeRowModel" "width" "[I", .fieldLink RX5 39 "TesseraeRowModel" "state" "[I", .methodLink RX5 111 yX5_cellOf, .static yX5_cellOf, .initialized RX5, .code yX5_cellOf cX5_cellOf 3 (some .int)] ++ wsX50)
def wsX5_old_r1 : List Cond := [Cond.fieldLink RX5 39 "TesseraeRowModel" "state" "[I", Cond.fieldLink RX5 36 "TesseraeRowModel" "wanted" "[I", Cond.methodLink RX5 108 yX5_isCell, Cond.instanceMethod yX5_isCell, Cond.selects RX5 yX5_isCell yX5_isCell, Cond.initialized RX5, Cond.code yX5_isCell cX5_isCell 4 (some .boolean), Cond.fieldLink RX5 30 "TesseraeRowModel" "width" "[I", Cond.fieldLink RX5 33 "TesseraeRowModel" "height" "[I", Cond.methodLink RX5 92 yX5_isPicture, Cond.instanceMethod yX5_isPicture, Cond.selects RX5 yX5_isPicture yX5_isPicture, Cond.code yX5_isPicture cX5_isPicture 2 (some .boolean), Cond.fieldLink RX5 89 "TesseraeRowModel" "pictures" "I", Cond.methodLink RX5 85 yX5_in, Cond.static yX5_in, Cond.code yX5_in cX5_in 3 (some .boolean), Cond.methodLink RX5 111 yX5_cellOf, Cond.static yX5_cellOf, Cond.code yX5_cellOf cX5_cellOf 3 (some .int), Cond.methodLink RX5 115 yX5_asked__, Cond.instanceMethod yX5_asked__, Cond.selects RX5 yX5_asked__ yX5_asked__, Cond.code yX5_asked__ cX5_asked__ 4 (some .boolean)]
def wsX5_old_r2 : List Cond := [Cond.fieldLink RX5 78 "TesseraeRowModel" "thrown" "I", Cond.methodLink RX5 118 yX5_count, Cond.instanceMethod yX5_count, Cond.selects RX5 yX5_count yX5_count, Cond.code yX5_count cX5_count 6 (some .int)]
def wsX5_old : List Cond := .code yX5_old cX5_old 7 (some .int) :: ((wsX5_old_r1 ++ wsX5_old_r2) ++ wsX50)
def wsX5_fill_r1 : List Cond := [Cond.fieldLink RX5 39 "TesseraeRowModel" "state" "[I", Cond.fieldLink RX5 57 "TesseraeRowModel" "round" "[I", Cond.fieldLink RX5 30 "TesseraeRowModel" "width" "[I", Cond.fieldLink RX5 33 "TesseraeRowModel" "height" "[I", Cond.fieldLink RX5 36 "TesseraeRowModel" "wanted" "[I", Cond.methodLink RX5 92 yX5_isPicture, Cond.instanceMethod yX5_isPicture, Cond.selects RX5 yX5_isPicture yX5_isPicture, Cond.initialized RX5, Cond.code yX5_isPicture cX5_isPicture 2 (some .boolean), Cond.fieldLink RX5 89 "TesseraeRowModel" "pictures" "I", Cond.methodLink RX5 85 yX5_in, Cond.static yX5_in, Cond.code yX5_in cX5_in 3 (some .boolean), Cond.methodLink RX5 122 yX5_asked, Cond.instanceMethod yX5_asked, Cond.selects RX5 yX5_asked yX5_asked, Cond.code yX5_asked cX5_asked 2 (some .boolean), Cond.fieldLink RX5 78 "TesseraeRowModel" "thrown" "I", Cond.methodLink RX5 108 yX5_isCell, Cond.instanceMethod yX5_isCell, Cond.selects RX5 yX5_isCell yX5_isCell, Cond.code yX5_isCell cX5_isCell 4 (some .boolean), Cond.methodLink RX5 111 yX5_cellOf]
def wsX5_fill_r2 : List Cond := [Cond.static yX5_cellOf, Cond.code yX5_cellOf cX5_cellOf 3 (some .int)]
def wsX5_fill : List Cond := .code yX5_fill cX5_fill 14 (some .int) :: ((wsX5_fill_r1 ++ wsX5_fill_r2) ++ wsX50)
def wsX5_size : List Cond := .code yX5_size cX5_size 1 (some .float) :: ([])
def wsX5_nearest : List Cond := .code yX5_nearest cX5_nearest 5 (some .int) :: ([.fieldLink RX5 82 "TesseraeRowModel" "lots" "I", .fieldLink RX5 20 "TesseraeRowModel" "there" "[Z", .fieldLink RX5 7 "TesseraeRowModel" "tone" "[F", .methodLink RX5 104 yX5_left, .instanceMethod yX5_left, .selects RX5 yX5_left yX5_left, .initialized RX5, .code yX5_left cX5_left 2 (some .int), .fieldLink RX5 13 "TesseraeRowModel" "many" "[I", .fieldLink RX5 24 "TesseraeRowModel" "promised" "[I", .fieldLink RX5 27 "TesseraeRowModel" "laid" "[I", .methodLink RX5 125 yX5_size, .static yX5_size, .code yX5_size cX5_size 1 (some .float)] ++ wsX50)
def wsX5_brings : List Cond := .code yX5_brings cX5_brings 5 none :: ([.fieldLink RX5 30 "TesseraeRowModel" "width" "[I", .fieldLink RX5 33 "TesseraeRowModel" "height" "[I", .fieldLink RX5 54 "TesseraeRowModel" "brought" "[F", .methodLink RX5 85 yX5_in, .static yX5_in, .initialized RX5, .code yX5_in cX5_in 3 (some .boolean)] ++ wsX50)
def wsX5_passesOn : List Cond := .code yX5_passesOn cX5_passesOn 5 none :: ([.constantFloat RX5 129 (1054867456), .constantFloat RX5 134 (1044381696), .constantFloat RX5 135 (1050673152), .constantFloat RX5 136 (1031798784), .methodLink RX5 130 yX5_brings, .instanceMethod yX5_brings, .selects RX5 yX5_brings yX5_brings, .initialized RX5, .code yX5_brings cX5_brings 5 none, .fieldLink RX5 30 "TesseraeRowModel" "width" "[I", .fieldLink RX5 33 "TesseraeRowModel" "height" "[I", .fieldLink RX5 54 "TesseraeRowModel" "brought" "[F", .methodLink RX5 85 yX5_in, .static yX5_in, .code yX5_in cX5_in 3 (some .boolean)] ++ wsX50)
def wsX5_design_r1 : List Cond := [Cond.fieldLink RX5 54 "TesseraeRowModel" "brought" "[F", Cond.fieldLink RX5 39 "TesseraeRowModel" "state" "[I", Cond.fieldLink RX5 24 "TesseraeRowModel" "promised" "[I", Cond.fieldLink RX5 42 "TesseraeRowModel" "lot" "[I", Cond.fieldLink RX5 30 "TesseraeRowModel" "width" "[I", Cond.fieldLink RX5 33 "TesseraeRowModel" "height" "[I", Cond.fieldLink RX5 45 "TesseraeRowModel" "aim" "[F", Cond.fieldLink RX5 36 "TesseraeRowModel" "wanted" "[I", Cond.fieldLink RX5 7 "TesseraeRowModel" "tone" "[F", Cond.methodLink RX5 92 yX5_isPicture, Cond.instanceMethod yX5_isPicture, Cond.selects RX5 yX5_isPicture yX5_isPicture, Cond.initialized RX5, Cond.code yX5_isPicture cX5_isPicture 2 (some .boolean), Cond.fieldLink RX5 89 "TesseraeRowModel" "pictures" "I", Cond.methodLink RX5 85 yX5_in, Cond.static yX5_in, Cond.code yX5_in cX5_in 3 (some .boolean), Cond.methodLink RX5 122 yX5_asked, Cond.instanceMethod yX5_asked, Cond.selects RX5 yX5_asked yX5_asked, Cond.code yX5_asked cX5_asked 2 (some .boolean), Cond.fieldLink RX5 78 "TesseraeRowModel" "thrown" "I", Cond.methodLink RX5 111 yX5_cellOf]
def wsX5_design_r2 : List Cond := [Cond.static yX5_cellOf, Cond.code yX5_cellOf cX5_cellOf 3 (some .int), Cond.methodLink RX5 137 yX5_nearest, Cond.instanceMethod yX5_nearest, Cond.selects RX5 yX5_nearest yX5_nearest, Cond.code yX5_nearest cX5_nearest 5 (some .int), Cond.fieldLink RX5 82 "TesseraeRowModel" "lots" "I", Cond.fieldLink RX5 20 "TesseraeRowModel" "there" "[Z", Cond.methodLink RX5 104 yX5_left, Cond.instanceMethod yX5_left, Cond.selects RX5 yX5_left yX5_left, Cond.code yX5_left cX5_left 2 (some .int), Cond.fieldLink RX5 13 "TesseraeRowModel" "many" "[I", Cond.fieldLink RX5 27 "TesseraeRowModel" "laid" "[I", Cond.methodLink RX5 125 yX5_size, Cond.static yX5_size, Cond.code yX5_size cX5_size 1 (some .float), Cond.methodLink RX5 141 yX5_passesOn, Cond.instanceMethod yX5_passesOn, Cond.selects RX5 yX5_passesOn yX5_passesOn, Cond.code yX5_passesOn cX5_passesOn 5 none, Cond.constantFloat RX5 129 (1054867456), Cond.constantFloat RX5 134 (1044381696), Cond.constantFloat RX5 135 (1050673152)]
def wsX5_design_r3 : List Cond := [Cond.constantFloat RX5 136 (1031798784), Cond.methodLink RX5 130 yX5_brings, Cond.instanceMethod yX5_brings, Cond.selects RX5 yX5_brings yX5_brings, Cond.code yX5_brings cX5_brings 5 none, Cond.methodLink RX5 118 yX5_count, Cond.instanceMethod yX5_count, Cond.selects RX5 yX5_count yX5_count, Cond.code yX5_count cX5_count 6 (some .int)]
def wsX5_design : List Cond := .code yX5_design cX5_design 7 (some .int) :: ((wsX5_design_r1 ++ (wsX5_design_r2 ++ wsX5_design_r3)) ++ wsX50)
def wsX5_share_r1 : List Cond := [Cond.fieldLink RX5 30 "TesseraeRowModel" "width" "[I", Cond.fieldLink RX5 33 "TesseraeRowModel" "height" "[I", Cond.fieldLink RX5 39 "TesseraeRowModel" "state" "[I", Cond.fieldLink RX5 42 "TesseraeRowModel" "lot" "[I", Cond.fieldLink RX5 20 "TesseraeRowModel" "there" "[Z", Cond.fieldLink RX5 24 "TesseraeRowModel" "promised" "[I", Cond.methodLink RX5 92 yX5_isPicture, Cond.instanceMethod yX5_isPicture, Cond.selects RX5 yX5_isPicture yX5_isPicture, Cond.initialized RX5, Cond.code yX5_isPicture cX5_isPicture 2 (some .boolean), Cond.fieldLink RX5 89 "TesseraeRowModel" "pictures" "I", Cond.methodLink RX5 85 yX5_in, Cond.static yX5_in, Cond.code yX5_in cX5_in 3 (some .boolean), Cond.methodLink RX5 101 yX5_isLot, Cond.instanceMethod yX5_isLot, Cond.selects RX5 yX5_isLot yX5_isLot, Cond.code yX5_isLot cX5_isLot 2 (some .boolean), Cond.fieldLink RX5 82 "TesseraeRowModel" "lots" "I", Cond.methodLink RX5 96 yX5_asked_, Cond.instanceMethod yX5_asked_, Cond.selects RX5 yX5_asked_ yX5_asked_, Cond.code yX5_asked_ cX5_asked_ 3 (some .boolean)]
def wsX5_share_r2 : List Cond := [Cond.fieldLink RX5 78 "TesseraeRowModel" "thrown" "I", Cond.methodLink RX5 111 yX5_cellOf, Cond.static yX5_cellOf, Cond.code yX5_cellOf cX5_cellOf 3 (some .int), Cond.methodLink RX5 104 yX5_left, Cond.instanceMethod yX5_left, Cond.selects RX5 yX5_left yX5_left, Cond.code yX5_left cX5_left 2 (some .int), Cond.fieldLink RX5 13 "TesseraeRowModel" "many" "[I", Cond.fieldLink RX5 27 "TesseraeRowModel" "laid" "[I"]
def wsX5_share : List Cond := .code yX5_share cX5_share 9 (some .int) :: ((wsX5_share_r1 ++ wsX5_share_r2) ++ wsX50)
def wsX5_send : List Cond := .code yX5_send cX5_send 4 (some .int) :: ([.fieldLink RX5 60 "TesseraeRowModel" "at" "[I", .methodLink RX5 144 yX5_isCrew, .static yX5_isCrew, .initialized RX5, .code yX5_isCrew cX5_isCrew 1 (some .boolean), .methodLink RX5 85 yX5_in, .static yX5_in, .code yX5_in cX5_in 3 (some .boolean), .methodLink RX5 92 yX5_isPicture, .instanceMethod yX5_isPicture, .selects RX5 yX5_isPicture yX5_isPicture, .code yX5_isPicture cX5_isPicture 2 (some .boolean), .fieldLink RX5 89 "TesseraeRowModel" "pictures" "I", .methodLink RX5 122 yX5_asked, .instanceMethod yX5_asked, .selects RX5 yX5_asked yX5_asked, .code yX5_asked cX5_asked 2 (some .boolean), .fieldLink RX5 78 "TesseraeRowModel" "thrown" "I"] ++ wsX50)
def wsX5_crew : List Cond := .code yX5_crew cX5_crew 5 (some .int) :: ([.fieldLink RX5 63 "TesseraeRowModel" "rate" "[I", .fieldLink RX5 66 "TesseraeRowModel" "dry" "[I", .methodLink RX5 144 yX5_isCrew, .static yX5_isCrew, .initialized RX5, .code yX5_isCrew cX5_isCrew 1 (some .boolean), .methodLink RX5 85 yX5_in, .static yX5_in, .code yX5_in cX5_in 3 (some .boolean), .methodLink RX5 96 yX5_asked_, .instanceMethod yX5_asked_, .selects RX5 yX5_asked_ yX5_asked_, .code yX5_asked_ cX5_asked_ 3 (some .boolean), .fieldLink RX5 78 "TesseraeRowModel" "thrown" "I"] ++ wsX50)
def wsX5_onTray : List Cond := .code yX5_onTray cX5_onTray 4 (some .int) :: ([.fieldLink RX5 72 "TesseraeRowModel" "on" "[Z"] ++ wsX50)
def wsX5_tray : List Cond := .code yX5_tray cX5_tray 5 (some .int) :: ([.fieldLink RX5 69 "TesseraeRowModel" "tray" "[I", .fieldLink RX5 72 "TesseraeRowModel" "on" "[Z", .methodLink RX5 144 yX5_isCrew, .static yX5_isCrew, .initialized RX5, .code yX5_isCrew cX5_isCrew 1 (some .boolean), .methodLink RX5 85 yX5_in, .static yX5_in, .code yX5_in cX5_in 3 (some .boolean), .methodLink RX5 96 yX5_asked_, .instanceMethod yX5_asked_, .selects RX5 yX5_asked_ yX5_asked_, .code yX5_asked_ cX5_asked_ 3 (some .boolean), .fieldLink RX5 78 "TesseraeRowModel" "thrown" "I", .methodLink RX5 147 yX5_onTray, .instanceMethod yX5_onTray, .selects RX5 yX5_onTray yX5_onTray, .code yX5_onTray cX5_onTray 4 (some .int)] ++ wsX50)
def wsX5_load : List Cond := .code yX5_load cX5_load 3 (some .boolean) :: ([.fieldLink RX5 72 "TesseraeRowModel" "on" "[Z", .fieldLink RX5 17 "TesseraeRowModel" "material" "[I", .fieldLink RX5 69 "TesseraeRowModel" "tray" "[I", .methodLink RX5 144 yX5_isCrew, .static yX5_isCrew, .initialized RX5, .code yX5_isCrew cX5_isCrew 1 (some .boolean), .methodLink RX5 85 yX5_in, .static yX5_in, .code yX5_in cX5_in 3 (some .boolean), .methodLink RX5 101 yX5_isLot, .instanceMethod yX5_isLot, .selects RX5 yX5_isLot yX5_isLot, .code yX5_isLot cX5_isLot 2 (some .boolean), .fieldLink RX5 82 "TesseraeRowModel" "lots" "I", .methodLink RX5 122 yX5_asked, .instanceMethod yX5_asked, .selects RX5 yX5_asked yX5_asked, .code yX5_asked cX5_asked 2 (some .boolean), .fieldLink RX5 78 "TesseraeRowModel" "thrown" "I", .methodLink RX5 147 yX5_onTray, .instanceMethod yX5_onTray, .selects RX5 yX5_onTray yX5_onTray, .code yX5_onTray cX5_onTray 4 (some .int)] ++ wsX50)
def wsX5_isDry : List Cond := .code yX5_isDry cX5_isDry 7 (some .boolean) :: ([.fieldLink RX5 30 "TesseraeRowModel" "width" "[I", .fieldLink RX5 39 "TesseraeRowModel" "state" "[I", .fieldLink RX5 48 "TesseraeRowModel" "hourOf" "[I", .fieldLink RX5 51 "TesseraeRowModel" "dryOf" "[I", .fieldLink RX5 150 "TesseraeRowModel" "now" "I", .methodLink RX5 111 yX5_cellOf, .static yX5_cellOf, .initialized RX5, .code yX5_cellOf cX5_cellOf 3 (some .int)] ++ wsX50)
def wsX5_lays : List Cond := .code yX5_lays cX5_lays 6 (some .boolean) :: ([.fieldLink RX5 60 "TesseraeRowModel" "at" "[I", .fieldLink RX5 30 "TesseraeRowModel" "width" "[I", .fieldLink RX5 33 "TesseraeRowModel" "height" "[I", .fieldLink RX5 39 "TesseraeRowModel" "state" "[I", .fieldLink RX5 72 "TesseraeRowModel" "on" "[Z", .fieldLink RX5 42 "TesseraeRowModel" "lot" "[I", .fieldLink RX5 24 "TesseraeRowModel" "promised" "[I", .fieldLink RX5 27 "TesseraeRowModel" "laid" "[I", .fieldLink RX5 48 "TesseraeRowModel" "hourOf" "[I", .fieldLink RX5 150 "TesseraeRowModel" "now" "I", .fieldLink RX5 51 "TesseraeRowModel" "dryOf" "[I", .fieldLink RX5 66 "TesseraeRowModel" "dry" "[I", .fieldLink RX5 75 "TesseraeRowModel" "done" "[I", .methodLink RX5 111 yX5_cellOf, .static yX5_cellOf, .initialized RX5, .code yX5_cellOf cX5_cellOf 3 (some .int), .methodLink RX5 153 yX5_isDry, .instanceMethod yX5_isDry, .selects RX5 yX5_isDry yX5_isDry, .code yX5_isDry cX5_isDry 7 (some .boolean)] ++ wsX50)
def wsX5_pass_r1 : List Cond := [Cond.fieldLink RX5 150 "TesseraeRowModel" "now" "I", Cond.fieldLink RX5 63 "TesseraeRowModel" "rate" "[I", Cond.methodLink RX5 85 yX5_in, Cond.static yX5_in, Cond.initialized RX5, Cond.code yX5_in cX5_in 3 (some .boolean), Cond.methodLink RX5 122 yX5_asked, Cond.instanceMethod yX5_asked, Cond.selects RX5 yX5_asked yX5_asked, Cond.code yX5_asked cX5_asked 2 (some .boolean), Cond.fieldLink RX5 78 "TesseraeRowModel" "thrown" "I", Cond.methodLink RX5 157 yX5_lays, Cond.instanceMethod yX5_lays, Cond.selects RX5 yX5_lays yX5_lays, Cond.code yX5_lays cX5_lays 6 (some .boolean), Cond.fieldLink RX5 60 "TesseraeRowModel" "at" "[I", Cond.fieldLink RX5 30 "TesseraeRowModel" "width" "[I", Cond.fieldLink RX5 33 "TesseraeRowModel" "height" "[I", Cond.fieldLink RX5 39 "TesseraeRowModel" "state" "[I", Cond.fieldLink RX5 72 "TesseraeRowModel" "on" "[Z", Cond.fieldLink RX5 42 "TesseraeRowModel" "lot" "[I", Cond.fieldLink RX5 24 "TesseraeRowModel" "promised" "[I", Cond.fieldLink RX5 27 "TesseraeRowModel" "laid" "[I", Cond.fieldLink RX5 48 "TesseraeRowModel" "hourOf" "[I"]
def wsX5_pass_r2 : List Cond := [Cond.fieldLink RX5 51 "TesseraeRowModel" "dryOf" "[I", Cond.fieldLink RX5 66 "TesseraeRowModel" "dry" "[I", Cond.fieldLink RX5 75 "TesseraeRowModel" "done" "[I", Cond.methodLink RX5 111 yX5_cellOf, Cond.static yX5_cellOf, Cond.code yX5_cellOf cX5_cellOf 3 (some .int), Cond.methodLink RX5 153 yX5_isDry, Cond.instanceMethod yX5_isDry, Cond.selects RX5 yX5_isDry yX5_isDry, Cond.code yX5_isDry cX5_isDry 7 (some .boolean)]
def wsX5_pass : List Cond := .code yX5_pass cX5_pass 6 (some .int) :: ((wsX5_pass_r1 ++ wsX5_pass_r2) ++ wsX50)
def wsX5_hour : List Cond := .code yX5_hour cX5_hour 1 (some .int) :: ([.fieldLink RX5 78 "TesseraeRowModel" "thrown" "I", .fieldLink RX5 150 "TesseraeRowModel" "now" "I"] ++ wsX50)
def wsJxf58ca_isNaN_12338 : List Cond := .code yJxf58ca_isNaN_12338 cJxf58ca_isNaN_12338 1 (some .boolean) :: ([])
def wsJxf58ca_floatToIntBits_5c35a : List Cond := .code yJxf58ca_floatToIntBits_5c35a cJxf58ca_floatToIntBits_5c35a 1 (some .int) :: ([.methodLink RJxf58ca 74 ⟨"java/lang/Float", "floatToRawIntBits", "(F)I"⟩, .native ⟨"java/lang/Float", "floatToRawIntBits", "(F)I"⟩, .static ⟨"java/lang/Float", "floatToRawIntBits", "(F)I"⟩, .initialized "java/lang/Float", .constant RJxf58ca 77 (2143289344), .methodLink RJxf58ca 59 yJxf58ca_isNaN_12338, .static yJxf58ca_isNaN_12338, .initialized RJxf58ca, .code yJxf58ca_isNaN_12338 cJxf58ca_isNaN_12338 1 (some .boolean)])
def wsX5_ofCell_r1 : List Cond := [Cond.fieldLink RX5 39 "TesseraeRowModel" "state" "[I", Cond.fieldLink RX5 42 "TesseraeRowModel" "lot" "[I", Cond.fieldLink RX5 36 "TesseraeRowModel" "wanted" "[I", Cond.fieldLink RX5 45 "TesseraeRowModel" "aim" "[F", Cond.fieldLink RX5 48 "TesseraeRowModel" "hourOf" "[I", Cond.methodLink RX5 108 yX5_isCell, Cond.instanceMethod yX5_isCell, Cond.selects RX5 yX5_isCell yX5_isCell, Cond.initialized RX5, Cond.code yX5_isCell cX5_isCell 4 (some .boolean), Cond.fieldLink RX5 30 "TesseraeRowModel" "width" "[I", Cond.fieldLink RX5 33 "TesseraeRowModel" "height" "[I", Cond.methodLink RX5 92 yX5_isPicture, Cond.instanceMethod yX5_isPicture, Cond.selects RX5 yX5_isPicture yX5_isPicture, Cond.code yX5_isPicture cX5_isPicture 2 (some .boolean), Cond.fieldLink RX5 89 "TesseraeRowModel" "pictures" "I", Cond.methodLink RX5 85 yX5_in, Cond.static yX5_in, Cond.code yX5_in cX5_in 3 (some .boolean), Cond.methodLink RX5 96 yX5_asked_, Cond.instanceMethod yX5_asked_, Cond.selects RX5 yX5_asked_ yX5_asked_, Cond.code yX5_asked_ cX5_asked_ 3 (some .boolean)]
def wsX5_ofCell_r2 : List Cond := [Cond.fieldLink RX5 78 "TesseraeRowModel" "thrown" "I", Cond.methodLink RX5 111 yX5_cellOf, Cond.static yX5_cellOf, Cond.code yX5_cellOf cX5_cellOf 3 (some .int), Cond.methodLink RX5 160 yJxf58ca_floatToIntBits_5c35a, Cond.static yJxf58ca_floatToIntBits_5c35a, Cond.initialized RJxf58ca, Cond.code yJxf58ca_floatToIntBits_5c35a cJxf58ca_floatToIntBits_5c35a 1 (some .int), Cond.methodLink RJxf58ca 74 ⟨"java/lang/Float", "floatToRawIntBits", "(F)I"⟩, Cond.native ⟨"java/lang/Float", "floatToRawIntBits", "(F)I"⟩, Cond.static ⟨"java/lang/Float", "floatToRawIntBits", "(F)I"⟩, Cond.initialized "java/lang/Float", Cond.constant RJxf58ca 77 (2143289344), Cond.methodLink RJxf58ca 59 yJxf58ca_isNaN_12338, Cond.static yJxf58ca_isNaN_12338, Cond.code yJxf58ca_isNaN_12338 cJxf58ca_isNaN_12338 1 (some .boolean)]
def wsX5_ofCell : List Cond := .code yX5_ofCell cX5_ofCell 7 (some .int) :: ((wsX5_ofCell_r1 ++ wsX5_ofCell_r2) ++ wsX50)
def wsX5_aimAnew_r1 : List Cond := [Cond.fieldLink RX5 54 "TesseraeRowModel" "brought" "[F", Cond.fieldLink RX5 30 "TesseraeRowModel" "width" "[I", Cond.fieldLink RX5 42 "TesseraeRowModel" "lot" "[I", Cond.fieldLink RX5 36 "TesseraeRowModel" "wanted" "[I", Cond.fieldLink RX5 7 "TesseraeRowModel" "tone" "[F", Cond.methodLink RX5 108 yX5_isCell, Cond.instanceMethod yX5_isCell, Cond.selects RX5 yX5_isCell yX5_isCell, Cond.initialized RX5, Cond.code yX5_isCell cX5_isCell 4 (some .boolean), Cond.fieldLink RX5 33 "TesseraeRowModel" "height" "[I", Cond.methodLink RX5 92 yX5_isPicture, Cond.instanceMethod yX5_isPicture, Cond.selects RX5 yX5_isPicture yX5_isPicture, Cond.code yX5_isPicture cX5_isPicture 2 (some .boolean), Cond.fieldLink RX5 89 "TesseraeRowModel" "pictures" "I", Cond.methodLink RX5 85 yX5_in, Cond.static yX5_in, Cond.code yX5_in cX5_in 3 (some .boolean), Cond.methodLink RX5 122 yX5_asked, Cond.instanceMethod yX5_asked, Cond.selects RX5 yX5_asked yX5_asked, Cond.code yX5_asked cX5_asked 2 (some .boolean), Cond.fieldLink RX5 78 "TesseraeRowModel" "thrown" "I"]
def wsX5_aimAnew_r2 : List Cond := [Cond.methodLink RX5 111 yX5_cellOf, Cond.static yX5_cellOf, Cond.code yX5_cellOf cX5_cellOf 3 (some .int), Cond.methodLink RX5 141 yX5_passesOn, Cond.instanceMethod yX5_passesOn, Cond.selects RX5 yX5_passesOn yX5_passesOn, Cond.code yX5_passesOn cX5_passesOn 5 none, Cond.constantFloat RX5 129 (1054867456), Cond.constantFloat RX5 134 (1044381696), Cond.constantFloat RX5 135 (1050673152), Cond.constantFloat RX5 136 (1031798784), Cond.methodLink RX5 130 yX5_brings, Cond.instanceMethod yX5_brings, Cond.selects RX5 yX5_brings yX5_brings, Cond.code yX5_brings cX5_brings 5 none, Cond.methodLink RX5 160 yJxf58ca_floatToIntBits_5c35a, Cond.static yJxf58ca_floatToIntBits_5c35a, Cond.initialized RJxf58ca, Cond.code yJxf58ca_floatToIntBits_5c35a cJxf58ca_floatToIntBits_5c35a 1 (some .int), Cond.methodLink RJxf58ca 74 ⟨"java/lang/Float", "floatToRawIntBits", "(F)I"⟩, Cond.native ⟨"java/lang/Float", "floatToRawIntBits", "(F)I"⟩, Cond.static ⟨"java/lang/Float", "floatToRawIntBits", "(F)I"⟩, Cond.initialized "java/lang/Float", Cond.constant RJxf58ca 77 (2143289344)]
def wsX5_aimAnew_r3 : List Cond := [Cond.methodLink RJxf58ca 59 yJxf58ca_isNaN_12338, Cond.static yJxf58ca_isNaN_12338, Cond.code yJxf58ca_isNaN_12338 cJxf58ca_isNaN_12338 1 (some .boolean)]
def wsX5_aimAnew : List Cond := .code yX5_aimAnew cX5_aimAnew 8 (some .int) :: ((wsX5_aimAnew_r1 ++ (wsX5_aimAnew_r2 ++ wsX5_aimAnew_r3)) ++ wsX50)
def wsX5_toneOf : List Cond := .code yX5_toneOf cX5_toneOf 2 (some .float) :: ([.fieldLink RX5 39 "TesseraeRowModel" "state" "[I", .fieldLink RX5 36 "TesseraeRowModel" "wanted" "[I", .fieldLink RX5 7 "TesseraeRowModel" "tone" "[F", .fieldLink RX5 42 "TesseraeRowModel" "lot" "[I"] ++ wsX50)
def wsX5_apart : List Cond := .code yX5_apart cX5_apart 3 (some .float) :: ([.fieldLink RX5 39 "TesseraeRowModel" "state" "[I", .fieldLink RX5 36 "TesseraeRowModel" "wanted" "[I", .methodLink RX5 165 yX5_toneOf, .instanceMethod yX5_toneOf, .selects RX5 yX5_toneOf yX5_toneOf, .initialized RX5, .code yX5_toneOf cX5_toneOf 2 (some .float), .fieldLink RX5 7 "TesseraeRowModel" "tone" "[F", .fieldLink RX5 42 "TesseraeRowModel" "lot" "[I", .methodLink RX5 125 yX5_size, .static yX5_size, .code yX5_size cX5_size 1 (some .float)] ++ wsX50)
def wsX5_edge_r1 : List Cond := [Cond.fieldLink RX5 33 "TesseraeRowModel" "height" "[I", Cond.fieldLink RX5 30 "TesseraeRowModel" "width" "[I", Cond.methodLink RX5 92 yX5_isPicture, Cond.instanceMethod yX5_isPicture, Cond.selects RX5 yX5_isPicture yX5_isPicture, Cond.initialized RX5, Cond.code yX5_isPicture cX5_isPicture 2 (some .boolean), Cond.fieldLink RX5 89 "TesseraeRowModel" "pictures" "I", Cond.methodLink RX5 85 yX5_in, Cond.static yX5_in, Cond.code yX5_in cX5_in 3 (some .boolean), Cond.methodLink RX5 122 yX5_asked, Cond.instanceMethod yX5_asked, Cond.selects RX5 yX5_asked yX5_asked, Cond.code yX5_asked cX5_asked 2 (some .boolean), Cond.fieldLink RX5 78 "TesseraeRowModel" "thrown" "I", Cond.methodLink RX5 111 yX5_cellOf, Cond.static yX5_cellOf, Cond.code yX5_cellOf cX5_cellOf 3 (some .int), Cond.methodLink RX5 169 yX5_apart, Cond.instanceMethod yX5_apart, Cond.selects RX5 yX5_apart yX5_apart, Cond.code yX5_apart cX5_apart 3 (some .float), Cond.fieldLink RX5 39 "TesseraeRowModel" "state" "[I"]
def wsX5_edge_r2 : List Cond := [Cond.fieldLink RX5 36 "TesseraeRowModel" "wanted" "[I", Cond.methodLink RX5 165 yX5_toneOf, Cond.instanceMethod yX5_toneOf, Cond.selects RX5 yX5_toneOf yX5_toneOf, Cond.code yX5_toneOf cX5_toneOf 2 (some .float), Cond.fieldLink RX5 7 "TesseraeRowModel" "tone" "[F", Cond.fieldLink RX5 42 "TesseraeRowModel" "lot" "[I", Cond.methodLink RX5 125 yX5_size, Cond.static yX5_size, Cond.code yX5_size cX5_size 1 (some .float), Cond.methodLink RX5 160 yJxf58ca_floatToIntBits_5c35a, Cond.static yJxf58ca_floatToIntBits_5c35a, Cond.initialized RJxf58ca, Cond.code yJxf58ca_floatToIntBits_5c35a cJxf58ca_floatToIntBits_5c35a 1 (some .int), Cond.methodLink RJxf58ca 74 ⟨"java/lang/Float", "floatToRawIntBits", "(F)I"⟩, Cond.native ⟨"java/lang/Float", "floatToRawIntBits", "(F)I"⟩, Cond.static ⟨"java/lang/Float", "floatToRawIntBits", "(F)I"⟩, Cond.initialized "java/lang/Float", Cond.constant RJxf58ca 77 (2143289344), Cond.methodLink RJxf58ca 59 yJxf58ca_isNaN_12338, Cond.static yJxf58ca_isNaN_12338, Cond.code yJxf58ca_isNaN_12338 cJxf58ca_isNaN_12338 1 (some .boolean)]
def wsX5_edge : List Cond := .code yX5_edge cX5_edge 8 (some .int) :: ((wsX5_edge_r1 ++ wsX5_edge_r2) ++ wsX50)
def wsX5_ofLot_r1 : List Cond := [Cond.fieldLink RX5 24 "TesseraeRowModel" "promised" "[I", Cond.fieldLink RX5 27 "TesseraeRowModel" "laid" "[I", Cond.fieldLink RX5 20 "TesseraeRowModel" "there" "[Z", Cond.fieldLink RX5 7 "TesseraeRowModel" "tone" "[F", Cond.methodLink RX5 101 yX5_isLot, Cond.instanceMethod yX5_isLot, Cond.selects RX5 yX5_isLot yX5_isLot, Cond.initialized RX5, Cond.code yX5_isLot cX5_isLot 2 (some .boolean), Cond.fieldLink RX5 82 "TesseraeRowModel" "lots" "I", Cond.methodLink RX5 85 yX5_in, Cond.static yX5_in, Cond.code yX5_in cX5_in 3 (some .boolean), Cond.methodLink RX5 96 yX5_asked_, Cond.instanceMethod yX5_asked_, Cond.selects RX5 yX5_asked_ yX5_asked_, Cond.code yX5_asked_ cX5_asked_ 3 (some .boolean), Cond.fieldLink RX5 78 "TesseraeRowModel" "thrown" "I", Cond.methodLink RX5 104 yX5_left, Cond.instanceMethod yX5_left, Cond.selects RX5 yX5_left yX5_left, Cond.code yX5_left cX5_left 2 (some .int), Cond.fieldLink RX5 13 "TesseraeRowModel" "many" "[I", Cond.methodLink RX5 160 yJxf58ca_floatToIntBits_5c35a]
def wsX5_ofLot_r2 : List Cond := [Cond.static yJxf58ca_floatToIntBits_5c35a, Cond.initialized RJxf58ca, Cond.code yJxf58ca_floatToIntBits_5c35a cJxf58ca_floatToIntBits_5c35a 1 (some .int), Cond.methodLink RJxf58ca 74 ⟨"java/lang/Float", "floatToRawIntBits", "(F)I"⟩, Cond.native ⟨"java/lang/Float", "floatToRawIntBits", "(F)I"⟩, Cond.static ⟨"java/lang/Float", "floatToRawIntBits", "(F)I"⟩, Cond.initialized "java/lang/Float", Cond.constant RJxf58ca 77 (2143289344), Cond.methodLink RJxf58ca 59 yJxf58ca_isNaN_12338, Cond.static yJxf58ca_isNaN_12338, Cond.code yJxf58ca_isNaN_12338 cJxf58ca_isNaN_12338 1 (some .boolean)]
def wsX5_ofLot : List Cond := .code yX5_ofLot cX5_ofLot 3 (some .int) :: ((wsX5_ofLot_r1 ++ wsX5_ofLot_r2) ++ wsX50)
def wsX5_ofPicture : List Cond := .code yX5_ofPicture cX5_ofPicture 3 (some .int) :: ([.methodLink RX5 92 yX5_isPicture, .instanceMethod yX5_isPicture, .selects RX5 yX5_isPicture yX5_isPicture, .initialized RX5, .code yX5_isPicture cX5_isPicture 2 (some .boolean), .fieldLink RX5 89 "TesseraeRowModel" "pictures" "I", .methodLink RX5 85 yX5_in, .static yX5_in, .code yX5_in cX5_in 3 (some .boolean), .methodLink RX5 96 yX5_asked_, .instanceMethod yX5_asked_, .selects RX5 yX5_asked_ yX5_asked_, .code yX5_asked_ cX5_asked_ 3 (some .boolean), .fieldLink RX5 78 "TesseraeRowModel" "thrown" "I", .methodLink RX5 118 yX5_count, .instanceMethod yX5_count, .selects RX5 yX5_count yX5_count, .code yX5_count cX5_count 6 (some .int), .fieldLink RX5 33 "TesseraeRowModel" "height" "[I", .fieldLink RX5 30 "TesseraeRowModel" "width" "[I", .fieldLink RX5 39 "TesseraeRowModel" "state" "[I", .methodLink RX5 111 yX5_cellOf, .static yX5_cellOf, .code yX5_cellOf cX5_cellOf 3 (some .int)] ++ wsX50)
def wsX5_ofCrew : List Cond := .code yX5_ofCrew cX5_ofCrew 3 (some .int) :: ([.fieldLink RX5 60 "TesseraeRowModel" "at" "[I", .fieldLink RX5 69 "TesseraeRowModel" "tray" "[I", .fieldLink RX5 75 "TesseraeRowModel" "done" "[I", .methodLink RX5 144 yX5_isCrew, .static yX5_isCrew, .initialized RX5, .code yX5_isCrew cX5_isCrew 1 (some .boolean), .methodLink RX5 85 yX5_in, .static yX5_in, .code yX5_in cX5_in 3 (some .boolean), .methodLink RX5 96 yX5_asked_, .instanceMethod yX5_asked_, .selects RX5 yX5_asked_ yX5_asked_, .code yX5_asked_ cX5_asked_ 3 (some .boolean), .fieldLink RX5 78 "TesseraeRowModel" "thrown" "I", .methodLink RX5 147 yX5_onTray, .instanceMethod yX5_onTray, .selects RX5 yX5_onTray yX5_onTray, .code yX5_onTray cX5_onTray 4 (some .int), .fieldLink RX5 72 "TesseraeRowModel" "on" "[Z"] ++ wsX50)
theorem inJxf58ca : ∀ w ∈ wsJxf58ca0, w ∈ lw_tbl := by decide +kernel
theorem inJ0 : ∀ w ∈ wsJ00, w ∈ lw_tbl := by decide +kernel
theorem dX0_init_0 : decode cX0_init 0 = .ok (.aload_n 0, 1) := by decide +kernel
theorem dX0_init_1 : decode cX0_init 1 = .ok (.invokespecial 3, 3) := by decide +kernel
theorem dX0_init_4 : decode cX0_init 4 = .ok (.aload_n 0, 1) := by decide +kernel
theorem dX0_init_5 : decode cX0_init 5 = .ok (.iconst 0, 1) := by decide +kernel
theorem dX0_init_6 : decode cX0_init 6 = .ok (.putfield 9, 3) := by decide +kernel
theorem dX0_init_9 : decode cX0_init 9 = .ok (.aload_n 0, 1) := by decide +kernel
theorem dX0_init_10 : decode cX0_init 10 = .ok (.iload_n 1, 1) := by decide +kernel
theorem dX0_init_11 : decode cX0_init 11 = .ok (.putfield 15, 3) := by decide +kernel
theorem dX0_init_14 : decode cX0_init 14 = .ok (.aload_n 0, 1) := by decide +kernel
theorem dX0_init_15 : decode cX0_init 15 = .ok (.iload_n 2, 1) := by decide +kernel
theorem dX0_init_16 : decode cX0_init 16 = .ok (.putfield 18, 3) := by decide +kernel
theorem dX0_init_19 : decode cX0_init 19 = .ok (.aload_n 0, 1) := by decide +kernel
theorem dX0_init_20 : decode cX0_init 20 = .ok (.iload_n 3, 1) := by decide +kernel
theorem dX0_init_21 : decode cX0_init 21 = .ok (.putfield 21, 3) := by decide +kernel
theorem dX0_init_24 : decode cX0_init 24 = .ok (.return_, 1) := by decide +kernel
theorem dX0_isDone_0 : decode cX0_isDone 0 = .ok (.aload_n 0, 1) := by decide +kernel
theorem dX0_isDone_1 : decode cX0_isDone 1 = .ok (.getfield 9, 3) := by decide +kernel
theorem dX0_isDone_4 : decode cX0_isDone 4 = .ok (.iconst 2, 1) := by decide +kernel
theorem dX0_isDone_5 : decode cX0_isDone 5 = .ok (.if_icmp .eq 11, 3) := by decide +kernel
theorem dX0_isDone_8 : decode cX0_isDone 8 = .ok (.aload_n 0, 1) := by decide +kernel
theorem dX0_isDone_9 : decode cX0_isDone 9 = .ok (.getfield 9, 3) := by decide +kernel
theorem dX0_isDone_12 : decode cX0_isDone 12 = .ok (.iconst 3, 1) := by decide +kernel
theorem dX0_isDone_13 : decode cX0_isDone 13 = .ok (.if_icmp .ne 7, 3) := by decide +kernel
theorem dX0_isDone_16 : decode cX0_isDone 16 = .ok (.iconst 1, 1) := by decide +kernel
theorem dX0_isDone_17 : decode cX0_isDone 17 = .ok (.goto 4, 3) := by decide +kernel
theorem dX0_isDone_20 : decode cX0_isDone 20 = .ok (.iconst 0, 1) := by decide +kernel
theorem dX0_isDone_21 : decode cX0_isDone 21 = .ok (.ireturn, 1) := by decide +kernel
theorem dX0_isPromised_0 : decode cX0_isPromised 0 = .ok (.aload_n 0, 1) := by decide +kernel
theorem dX0_isPromised_1 : decode cX0_isPromised 1 = .ok (.getfield 9, 3) := by decide +kernel
theorem dX0_isPromised_4 : decode cX0_isPromised 4 = .ok (.iconst 1, 1) := by decide +kernel
theorem dX0_isPromised_5 : decode cX0_isPromised 5 = .ok (.if_icmp .ne 15, 3) := by decide +kernel
theorem dX0_isPromised_8 : decode cX0_isPromised 8 = .ok (.aload_n 0, 1) := by decide +kernel
theorem dX0_isPromised_9 : decode cX0_isPromised 9 = .ok (.getfield 24, 3) := by decide +kernel
theorem dX0_isPromised_12 : decode cX0_isPromised 12 = .ok (.aload_n 1, 1) := by decide +kernel
theorem dX0_isPromised_13 : decode cX0_isPromised 13 = .ok (.if_acmp .ne 7, 3) := by decide +kernel
theorem dX0_isPromised_16 : decode cX0_isPromised 16 = .ok (.iconst 1, 1) := by decide +kernel
theorem dX0_isPromised_17 : decode cX0_isPromised 17 = .ok (.goto 4, 3) := by decide +kernel
theorem dX0_isPromised_20 : decode cX0_isPromised 20 = .ok (.iconst 0, 1) := by decide +kernel
theorem dX0_isPromised_21 : decode cX0_isPromised 21 = .ok (.ireturn, 1) := by decide +kernel
theorem dX0_promise_0 : decode cX0_promise 0 = .ok (.aload_n 0, 1) := by decide +kernel
theorem dX0_promise_1 : decode cX0_promise 1 = .ok (.iconst 1, 1) := by decide +kernel
theorem dX0_promise_2 : decode cX0_promise 2 = .ok (.putfield 9, 3) := by decide +kernel
theorem dX0_promise_5 : decode cX0_promise 5 = .ok (.aload_n 0, 1) := by decide +kernel
theorem dX0_promise_6 : decode cX0_promise 6 = .ok (.aload_n 1, 1) := by decide +kernel
theorem dX0_promise_7 : decode cX0_promise 7 = .ok (.putfield 24, 3) := by decide +kernel
theorem dX0_promise_10 : decode cX0_promise 10 = .ok (.aload_n 1, 1) := by decide +kernel
theorem dX0_promise_11 : decode cX0_promise 11 = .ok (.dup, 1) := by decide +kernel
theorem dX0_promise_12 : decode cX0_promise 12 = .ok (.getfield 28, 3) := by decide +kernel
theorem dX0_promise_15 : decode cX0_promise 15 = .ok (.iconst 1, 1) := by decide +kernel
theorem dX0_promise_16 : decode cX0_promise 16 = .ok (.isub, 1) := by decide +kernel
theorem dX0_promise_17 : decode cX0_promise 17 = .ok (.putfield 28, 3) := by decide +kernel
theorem dX0_promise_20 : decode cX0_promise 20 = .ok (.aload_n 1, 1) := by decide +kernel
theorem dX0_promise_21 : decode cX0_promise 21 = .ok (.dup, 1) := by decide +kernel
theorem dX0_promise_22 : decode cX0_promise 22 = .ok (.getfield 33, 3) := by decide +kernel
theorem dX0_promise_25 : decode cX0_promise 25 = .ok (.iconst 1, 1) := by decide +kernel
theorem dX0_promise_26 : decode cX0_promise 26 = .ok (.iadd, 1) := by decide +kernel
theorem dX0_promise_27 : decode cX0_promise 27 = .ok (.putfield 33, 3) := by decide +kernel
theorem dX0_promise_30 : decode cX0_promise 30 = .ok (.return_, 1) := by decide +kernel
theorem dX0_takeBack_0 : decode cX0_takeBack 0 = .ok (.aload_n 0, 1) := by decide +kernel
theorem dX0_takeBack_1 : decode cX0_takeBack 1 = .ok (.getfield 9, 3) := by decide +kernel
theorem dX0_takeBack_4 : decode cX0_takeBack 4 = .ok (.iconst 1, 1) := by decide +kernel
theorem dX0_takeBack_5 : decode cX0_takeBack 5 = .ok (.if_icmp .ne 46, 3) := by decide +kernel
theorem dX0_takeBack_8 : decode cX0_takeBack 8 = .ok (.aload_n 0, 1) := by decide +kernel
theorem dX0_takeBack_9 : decode cX0_takeBack 9 = .ok (.getfield 24, 3) := by decide +kernel
theorem dX0_takeBack_12 : decode cX0_takeBack 12 = .ok (.ifnull 39, 3) := by decide +kernel
theorem dX0_takeBack_15 : decode cX0_takeBack 15 = .ok (.aload_n 0, 1) := by decide +kernel
theorem dX0_takeBack_16 : decode cX0_takeBack 16 = .ok (.getfield 24, 3) := by decide +kernel
theorem dX0_takeBack_19 : decode cX0_takeBack 19 = .ok (.dup, 1) := by decide +kernel
theorem dX0_takeBack_20 : decode cX0_takeBack 20 = .ok (.getfield 33, 3) := by decide +kernel
theorem dX0_takeBack_23 : decode cX0_takeBack 23 = .ok (.iconst 1, 1) := by decide +kernel
theorem dX0_takeBack_24 : decode cX0_takeBack 24 = .ok (.isub, 1) := by decide +kernel
theorem dX0_takeBack_25 : decode cX0_takeBack 25 = .ok (.putfield 33, 3) := by decide +kernel
theorem dX0_takeBack_28 : decode cX0_takeBack 28 = .ok (.aload_n 0, 1) := by decide +kernel
theorem dX0_takeBack_29 : decode cX0_takeBack 29 = .ok (.getfield 24, 3) := by decide +kernel
theorem dX0_takeBack_32 : decode cX0_takeBack 32 = .ok (.dup, 1) := by decide +kernel
theorem dX0_takeBack_33 : decode cX0_takeBack 33 = .ok (.getfield 28, 3) := by decide +kernel
theorem dX0_takeBack_36 : decode cX0_takeBack 36 = .ok (.iconst 1, 1) := by decide +kernel
theorem dX0_takeBack_37 : decode cX0_takeBack 37 = .ok (.iadd, 1) := by decide +kernel
theorem dX0_takeBack_38 : decode cX0_takeBack 38 = .ok (.putfield 28, 3) := by decide +kernel
theorem dX0_takeBack_41 : decode cX0_takeBack 41 = .ok (.aload_n 0, 1) := by decide +kernel
theorem dX0_takeBack_42 : decode cX0_takeBack 42 = .ok (.aconst_null, 1) := by decide +kernel
theorem dX0_takeBack_43 : decode cX0_takeBack 43 = .ok (.putfield 24, 3) := by decide +kernel
theorem dX0_takeBack_46 : decode cX0_takeBack 46 = .ok (.aload_n 0, 1) := by decide +kernel
theorem dX0_takeBack_47 : decode cX0_takeBack 47 = .ok (.iconst 0, 1) := by decide +kernel
theorem dX0_takeBack_48 : decode cX0_takeBack 48 = .ok (.putfield 9, 3) := by decide +kernel
theorem dX0_takeBack_51 : decode cX0_takeBack 51 = .ok (.return_, 1) := by decide +kernel
theorem dX0_lay_0 : decode cX0_lay 0 = .ok (.aload_n 0, 1) := by decide +kernel
theorem dX0_lay_1 : decode cX0_lay 1 = .ok (.getfield 9, 3) := by decide +kernel
theorem dX0_lay_4 : decode cX0_lay 4 = .ok (.iconst 1, 1) := by decide +kernel
theorem dX0_lay_5 : decode cX0_lay 5 = .ok (.if_icmp .ne 53, 3) := by decide +kernel
theorem dX0_lay_8 : decode cX0_lay 8 = .ok (.aload_n 0, 1) := by decide +kernel
theorem dX0_lay_9 : decode cX0_lay 9 = .ok (.getfield 24, 3) := by decide +kernel
theorem dX0_lay_12 : decode cX0_lay 12 = .ok (.ifnull 46, 3) := by decide +kernel
theorem dX0_lay_15 : decode cX0_lay 15 = .ok (.aload_n 0, 1) := by decide +kernel
theorem dX0_lay_16 : decode cX0_lay 16 = .ok (.getfield 24, 3) := by decide +kernel
theorem dX0_lay_19 : decode cX0_lay 19 = .ok (.dup, 1) := by decide +kernel
theorem dX0_lay_20 : decode cX0_lay 20 = .ok (.getfield 33, 3) := by decide +kernel
theorem dX0_lay_23 : decode cX0_lay 23 = .ok (.iconst 1, 1) := by decide +kernel
theorem dX0_lay_24 : decode cX0_lay 24 = .ok (.isub, 1) := by decide +kernel
theorem dX0_lay_25 : decode cX0_lay 25 = .ok (.putfield 33, 3) := by decide +kernel
theorem dX0_lay_28 : decode cX0_lay 28 = .ok (.aload_n 0, 1) := by decide +kernel
theorem dX0_lay_29 : decode cX0_lay 29 = .ok (.getfield 24, 3) := by decide +kernel
theorem dX0_lay_32 : decode cX0_lay 32 = .ok (.dup, 1) := by decide +kernel
theorem dX0_lay_33 : decode cX0_lay 33 = .ok (.getfield 36, 3) := by decide +kernel
theorem dX0_lay_36 : decode cX0_lay 36 = .ok (.iconst 1, 1) := by decide +kernel
theorem dX0_lay_37 : decode cX0_lay 37 = .ok (.iadd, 1) := by decide +kernel
theorem dX0_lay_38 : decode cX0_lay 38 = .ok (.putfield 36, 3) := by decide +kernel
theorem dX0_lay_41 : decode cX0_lay 41 = .ok (.aload_n 0, 1) := by decide +kernel
theorem dX0_lay_42 : decode cX0_lay 42 = .ok (.iconst 2, 1) := by decide +kernel
theorem dX0_lay_43 : decode cX0_lay 43 = .ok (.putfield 9, 3) := by decide +kernel
theorem dX0_lay_46 : decode cX0_lay 46 = .ok (.aload_n 0, 1) := by decide +kernel
theorem dX0_lay_47 : decode cX0_lay 47 = .ok (.iload_n 1, 1) := by decide +kernel
theorem dX0_lay_48 : decode cX0_lay 48 = .ok (.putfield 39, 3) := by decide +kernel
theorem dX0_lay_51 : decode cX0_lay 51 = .ok (.aload_n 0, 1) := by decide +kernel
theorem dX0_lay_52 : decode cX0_lay 52 = .ok (.iload_n 1, 1) := by decide +kernel
theorem dX0_lay_53 : decode cX0_lay 53 = .ok (.iload_n 2, 1) := by decide +kernel
theorem dX0_lay_54 : decode cX0_lay 54 = .ok (.iadd, 1) := by decide +kernel
theorem dX0_lay_55 : decode cX0_lay 55 = .ok (.putfield 42, 3) := by decide +kernel
theorem dX0_lay_58 : decode cX0_lay 58 = .ok (.return_, 1) := by decide +kernel
theorem dX0_stoneTone_0 : decode cX0_stoneTone 0 = .ok (.aload_n 0, 1) := by decide +kernel
theorem dX0_stoneTone_1 : decode cX0_stoneTone 1 = .ok (.getfield 24, 3) := by decide +kernel
theorem dX0_stoneTone_4 : decode cX0_stoneTone 4 = .ok (.ifnonnull 11, 3) := by decide +kernel
theorem dX0_stoneTone_7 : decode cX0_stoneTone 7 = .ok (.aload_n 0, 1) := by decide +kernel
theorem dX0_stoneTone_8 : decode cX0_stoneTone 8 = .ok (.getfield 21, 3) := by decide +kernel
theorem dX0_stoneTone_11 : decode cX0_stoneTone 11 = .ok (.i2f, 1) := by decide +kernel
theorem dX0_stoneTone_12 : decode cX0_stoneTone 12 = .ok (.goto 10, 3) := by decide +kernel
theorem dX0_stoneTone_15 : decode cX0_stoneTone 15 = .ok (.aload_n 0, 1) := by decide +kernel
theorem dX0_stoneTone_16 : decode cX0_stoneTone 16 = .ok (.getfield 24, 3) := by decide +kernel
theorem dX0_stoneTone_19 : decode cX0_stoneTone 19 = .ok (.getfield 45, 3) := by decide +kernel
theorem dX0_stoneTone_22 : decode cX0_stoneTone 22 = .ok (.freturn, 1) := by decide +kernel
theorem dX0_lackBehind_0 : decode cX0_lackBehind 0 = .ok (.aload_n 0, 1) := by decide +kernel
theorem dX0_lackBehind_1 : decode cX0_lackBehind 1 = .ok (.getfield 24, 3) := by decide +kernel
theorem dX0_lackBehind_4 : decode cX0_lackBehind 4 = .ok (.ifnonnull 7, 3) := by decide +kernel
theorem dX0_lackBehind_7 : decode cX0_lackBehind 7 = .ok (.fconst 0, 1) := by decide +kernel
theorem dX0_lackBehind_8 : decode cX0_lackBehind 8 = .ok (.goto 12, 3) := by decide +kernel
theorem dX0_lackBehind_11 : decode cX0_lackBehind 11 = .ok (.fload_n 1, 1) := by decide +kernel
theorem dX0_lackBehind_12 : decode cX0_lackBehind 12 = .ok (.aload_n 0, 1) := by decide +kernel
theorem dX0_lackBehind_13 : decode cX0_lackBehind 13 = .ok (.getfield 24, 3) := by decide +kernel
theorem dX0_lackBehind_16 : decode cX0_lackBehind 16 = .ok (.getfield 45, 3) := by decide +kernel
theorem dX0_lackBehind_19 : decode cX0_lackBehind 19 = .ok (.fsub, 1) := by decide +kernel
theorem dX0_lackBehind_20 : decode cX0_lackBehind 20 = .ok (.freturn, 1) := by decide +kernel
theorem dX0_bring_0 : decode cX0_bring 0 = .ok (.aload_n 0, 1) := by decide +kernel
theorem dX0_bring_1 : decode cX0_bring 1 = .ok (.aload_n 0, 1) := by decide +kernel
theorem dX0_bring_2 : decode cX0_bring 2 = .ok (.getfield 49, 3) := by decide +kernel
theorem dX0_bring_5 : decode cX0_bring 5 = .ok (.fload_n 1, 1) := by decide +kernel
theorem dX0_bring_6 : decode cX0_bring 6 = .ok (.fadd, 1) := by decide +kernel
theorem dX0_bring_7 : decode cX0_bring 7 = .ok (.putfield 49, 3) := by decide +kernel
theorem dX0_bring_10 : decode cX0_bring 10 = .ok (.return_, 1) := by decide +kernel
theorem dX1_init_0 : decode cX1_init 0 = .ok (.aload_n 0, 1) := by decide +kernel
theorem dX1_init_1 : decode cX1_init 1 = .ok (.invokespecial 3, 3) := by decide +kernel
theorem dX1_init_4 : decode cX1_init 4 = .ok (.aload_n 0, 1) := by decide +kernel
theorem dX1_init_5 : decode cX1_init 5 = .ok (.iconst 1, 1) := by decide +kernel
theorem dX1_init_6 : decode cX1_init 6 = .ok (.putfield 9, 3) := by decide +kernel
theorem dX1_init_9 : decode cX1_init 9 = .ok (.aload_n 0, 1) := by decide +kernel
theorem dX1_init_10 : decode cX1_init 10 = .ok (.iconst 1, 1) := by decide +kernel
theorem dX1_init_11 : decode cX1_init 11 = .ok (.putfield 15, 3) := by decide +kernel
theorem dX1_init_14 : decode cX1_init 14 = .ok (.aload_n 0, 1) := by decide +kernel
theorem dX1_init_15 : decode cX1_init 15 = .ok (.iconst 0, 1) := by decide +kernel
theorem dX1_init_16 : decode cX1_init 16 = .ok (.putfield 18, 3) := by decide +kernel
theorem dX1_init_19 : decode cX1_init 19 = .ok (.aload_n 0, 1) := by decide +kernel
theorem dX1_init_20 : decode cX1_init 20 = .ok (.iconst 4, 1) := by decide +kernel
theorem dX1_init_21 : decode cX1_init 21 = .ok (.anewarray 21, 3) := by decide +kernel
theorem dX1_init_24 : decode cX1_init 24 = .ok (.putfield 23, 3) := by decide +kernel
theorem dX1_init_27 : decode cX1_init 27 = .ok (.return_, 1) := by decide +kernel
theorem dX1_pictureNumber_0 : decode cX1_pictureNumber 0 = .ok (.aload_n 0, 1) := by decide +kernel
theorem dX1_pictureNumber_1 : decode cX1_pictureNumber 1 = .ok (.getfield 27, 3) := by decide +kernel
theorem dX1_pictureNumber_4 : decode cX1_pictureNumber 4 = .ok (.ifnonnull 7, 3) := by decide +kernel
theorem dX1_pictureNumber_7 : decode cX1_pictureNumber 7 = .ok (.iconst (-1), 1) := by decide +kernel
theorem dX1_pictureNumber_8 : decode cX1_pictureNumber 8 = .ok (.goto 10, 3) := by decide +kernel
theorem dX1_pictureNumber_11 : decode cX1_pictureNumber 11 = .ok (.aload_n 0, 1) := by decide +kernel
theorem dX1_pictureNumber_12 : decode cX1_pictureNumber 12 = .ok (.getfield 27, 3) := by decide +kernel
theorem dX1_pictureNumber_15 : decode cX1_pictureNumber 15 = .ok (.getfield 31, 3) := by decide +kernel
theorem dX1_pictureNumber_18 : decode cX1_pictureNumber 18 = .ok (.ireturn, 1) := by decide +kernel
theorem dX1_hasOnTray_0 : decode cX1_hasOnTray 0 = .ok (.iconst 0, 1) := by decide +kernel
theorem dX1_hasOnTray_1 : decode cX1_hasOnTray 1 = .ok (.istore_n 2, 1) := by decide +kernel
theorem dX1_hasOnTray_2 : decode cX1_hasOnTray 2 = .ok (.iload_n 2, 1) := by decide +kernel
theorem dX1_hasOnTray_3 : decode cX1_hasOnTray 3 = .ok (.aload_n 0, 1) := by decide +kernel
theorem dX1_hasOnTray_4 : decode cX1_hasOnTray 4 = .ok (.getfield 36, 3) := by decide +kernel
theorem dX1_hasOnTray_7 : decode cX1_hasOnTray 7 = .ok (.if_icmp .ge 30, 3) := by decide +kernel
theorem dX1_hasOnTray_10 : decode cX1_hasOnTray 10 = .ok (.iload_n 2, 1) := by decide +kernel
theorem dX1_hasOnTray_11 : decode cX1_hasOnTray 11 = .ok (.aload_n 0, 1) := by decide +kernel
theorem dX1_hasOnTray_12 : decode cX1_hasOnTray 12 = .ok (.getfield 23, 3) := by decide +kernel
theorem dX1_hasOnTray_15 : decode cX1_hasOnTray 15 = .ok (.arraylength, 1) := by decide +kernel
theorem dX1_hasOnTray_16 : decode cX1_hasOnTray 16 = .ok (.if_icmp .ge 21, 3) := by decide +kernel
theorem dX1_hasOnTray_19 : decode cX1_hasOnTray 19 = .ok (.aload_n 0, 1) := by decide +kernel
theorem dX1_hasOnTray_20 : decode cX1_hasOnTray 20 = .ok (.getfield 23, 3) := by decide +kernel
theorem dX1_hasOnTray_23 : decode cX1_hasOnTray 23 = .ok (.iload_n 2, 1) := by decide +kernel
theorem dX1_hasOnTray_24 : decode cX1_hasOnTray 24 = .ok (.aaload, 1) := by decide +kernel
theorem dX1_hasOnTray_25 : decode cX1_hasOnTray 25 = .ok (.aload_n 1, 1) := by decide +kernel
theorem dX1_hasOnTray_26 : decode cX1_hasOnTray 26 = .ok (.if_acmp .ne 5, 3) := by decide +kernel
theorem dX1_hasOnTray_29 : decode cX1_hasOnTray 29 = .ok (.iconst 1, 1) := by decide +kernel
theorem dX1_hasOnTray_30 : decode cX1_hasOnTray 30 = .ok (.ireturn, 1) := by decide +kernel
theorem dX1_hasOnTray_31 : decode cX1_hasOnTray 31 = .ok (.iinc 2 1, 3) := by decide +kernel
theorem dX1_hasOnTray_34 : decode cX1_hasOnTray 34 = .ok (.goto (-32), 3) := by decide +kernel
theorem dX1_hasOnTray_37 : decode cX1_hasOnTray 37 = .ok (.iconst 0, 1) := by decide +kernel
theorem dX1_hasOnTray_38 : decode cX1_hasOnTray 38 = .ok (.ireturn, 1) := by decide +kernel
set_option maxRecDepth 20000 in
theorem ggX1_takeOnTray_X1_hasOnTray : GoodIn wsX1_takeOnTray wsX1_hasOnTray := goodIn_r _ [9, 3, 4, 17, 18, 19, 20, 21, 22, 23] (by decide +kernel) (by decide +kernel)
set_option maxRecDepth 20000 in
theorem gX1_takeOnTray_X1_hasOnTray : GoodIn wsX1_takeOnTray (wsV RX1 39 RX1 yX1_hasOnTray wsX1_hasOnTray) := goodIn_app (goodIn_of _ (by decide +kernel)) ggX1_takeOnTray_X1_hasOnTray
theorem dX1_takeOnTray_0 : decode cX1_takeOnTray 0 = .ok (.aload_n 0, 1) := by decide +kernel
theorem dX1_takeOnTray_1 : decode cX1_takeOnTray 1 = .ok (.aload_n 1, 1) := by decide +kernel
theorem dX1_takeOnTray_2 : decode cX1_takeOnTray 2 = .ok (.invokevirtual 39, 3) := by decide +kernel
theorem dX1_takeOnTray_5 : decode cX1_takeOnTray 5 = .ok (.ifCond .eq 5, 3) := by decide +kernel
theorem dX1_takeOnTray_8 : decode cX1_takeOnTray 8 = .ok (.iconst 1, 1) := by decide +kernel
theorem dX1_takeOnTray_9 : decode cX1_takeOnTray 9 = .ok (.ireturn, 1) := by decide +kernel
theorem dX1_takeOnTray_10 : decode cX1_takeOnTray 10 = .ok (.aload_n 1, 1) := by decide +kernel
theorem dX1_takeOnTray_11 : decode cX1_takeOnTray 11 = .ok (.getfield 43, 3) := by decide +kernel
theorem dX1_takeOnTray_14 : decode cX1_takeOnTray 14 = .ok (.aload_n 0, 1) := by decide +kernel
theorem dX1_takeOnTray_15 : decode cX1_takeOnTray 15 = .ok (.getfield 18, 3) := by decide +kernel
theorem dX1_takeOnTray_18 : decode cX1_takeOnTray 18 = .ok (.if_icmp .ne 22, 3) := by decide +kernel
theorem dX1_takeOnTray_21 : decode cX1_takeOnTray 21 = .ok (.aload_n 0, 1) := by decide +kernel
theorem dX1_takeOnTray_22 : decode cX1_takeOnTray 22 = .ok (.getfield 36, 3) := by decide +kernel
theorem dX1_takeOnTray_25 : decode cX1_takeOnTray 25 = .ok (.ifCond .lt 15, 3) := by decide +kernel
theorem dX1_takeOnTray_28 : decode cX1_takeOnTray 28 = .ok (.aload_n 0, 1) := by decide +kernel
theorem dX1_takeOnTray_29 : decode cX1_takeOnTray 29 = .ok (.getfield 36, 3) := by decide +kernel
theorem dX1_takeOnTray_32 : decode cX1_takeOnTray 32 = .ok (.aload_n 0, 1) := by decide +kernel
theorem dX1_takeOnTray_33 : decode cX1_takeOnTray 33 = .ok (.getfield 23, 3) := by decide +kernel
theorem dX1_takeOnTray_36 : decode cX1_takeOnTray 36 = .ok (.arraylength, 1) := by decide +kernel
theorem dX1_takeOnTray_37 : decode cX1_takeOnTray 37 = .ok (.if_icmp .lt 5, 3) := by decide +kernel
theorem dX1_takeOnTray_40 : decode cX1_takeOnTray 40 = .ok (.iconst 0, 1) := by decide +kernel
theorem dX1_takeOnTray_41 : decode cX1_takeOnTray 41 = .ok (.ireturn, 1) := by decide +kernel
theorem dX1_takeOnTray_42 : decode cX1_takeOnTray 42 = .ok (.aload_n 0, 1) := by decide +kernel
theorem dX1_takeOnTray_43 : decode cX1_takeOnTray 43 = .ok (.getfield 23, 3) := by decide +kernel
theorem dX1_takeOnTray_46 : decode cX1_takeOnTray 46 = .ok (.aload_n 0, 1) := by decide +kernel
theorem dX1_takeOnTray_47 : decode cX1_takeOnTray 47 = .ok (.getfield 36, 3) := by decide +kernel
theorem dX1_takeOnTray_50 : decode cX1_takeOnTray 50 = .ok (.aload_n 1, 1) := by decide +kernel
theorem dX1_takeOnTray_51 : decode cX1_takeOnTray 51 = .ok (.aastore, 1) := by decide +kernel
theorem dX1_takeOnTray_52 : decode cX1_takeOnTray 52 = .ok (.aload_n 0, 1) := by decide +kernel
theorem dX1_takeOnTray_53 : decode cX1_takeOnTray 53 = .ok (.dup, 1) := by decide +kernel
theorem dX1_takeOnTray_54 : decode cX1_takeOnTray 54 = .ok (.getfield 36, 3) := by decide +kernel
theorem dX1_takeOnTray_57 : decode cX1_takeOnTray 57 = .ok (.iconst 1, 1) := by decide +kernel
theorem dX1_takeOnTray_58 : decode cX1_takeOnTray 58 = .ok (.iadd, 1) := by decide +kernel
theorem dX1_takeOnTray_59 : decode cX1_takeOnTray 59 = .ok (.putfield 36, 3) := by decide +kernel
theorem dX1_takeOnTray_62 : decode cX1_takeOnTray 62 = .ok (.iconst 1, 1) := by decide +kernel
theorem dX1_takeOnTray_63 : decode cX1_takeOnTray 63 = .ok (.ireturn, 1) := by decide +kernel
set_option maxRecDepth 20000 in
theorem ggX1_layFor_X1_layNext : GoodIn wsX1_layFor wsX1_layNext := goodIn_r _ [7, 8, 9, 10, 11, 12, 13, 14, 15, 16, 17, 18, 19, 20, 21, 22, 23, 24, 25, 26, 27, 6, 28, 29, 30, 31, 32, 33, 34, 35, 36, 37, 38, 39, 40, 41, 42, 43, 44, 45, 46, 47, 48, 49, 50, 51, 52, 53, 54, 55, 56, 57, 58, 59, 60, 61, 62, 63, 64, 65, 66, 67, 68, 69, 70, 71, 72, 73, 74, 75, 76, 77, 78, 79, 80] (by decide +kernel) (by decide +kernel)
set_option maxRecDepth 20000 in
theorem gX1_layFor_X1_layNext : GoodIn wsX1_layFor (wsV RX1 44 RX1 yX1_layNext wsX1_layNext) := goodIn_app (goodIn_of _ (by decide +kernel)) ggX1_layFor_X1_layNext
theorem dX1_layFor_0 : decode cX1_layFor 0 = .ok (.iconst 0, 1) := by decide +kernel
theorem dX1_layFor_1 : decode cX1_layFor 1 = .ok (.istore_n 2, 1) := by decide +kernel
theorem dX1_layFor_2 : decode cX1_layFor 2 = .ok (.iload_n 2, 1) := by decide +kernel
theorem dX1_layFor_3 : decode cX1_layFor 3 = .ok (.aload_n 0, 1) := by decide +kernel
theorem dX1_layFor_4 : decode cX1_layFor 4 = .ok (.getfield 9, 3) := by decide +kernel
theorem dX1_layFor_7 : decode cX1_layFor 7 = .ok (.if_icmp .ge 17, 3) := by decide +kernel
theorem dX1_layFor_10 : decode cX1_layFor 10 = .ok (.aload_n 0, 1) := by decide +kernel
theorem dX1_layFor_11 : decode cX1_layFor 11 = .ok (.iload_n 1, 1) := by decide +kernel
theorem dX1_layFor_12 : decode cX1_layFor 12 = .ok (.invokevirtual 44, 3) := by decide +kernel
theorem dX1_layFor_15 : decode cX1_layFor 15 = .ok (.ifCond .eq 9, 3) := by decide +kernel
theorem dX1_layFor_18 : decode cX1_layFor 18 = .ok (.iinc 2 1, 3) := by decide +kernel
theorem dX1_layFor_21 : decode cX1_layFor 21 = .ok (.goto (-19), 3) := by decide +kernel
theorem dX1_layFor_24 : decode cX1_layFor 24 = .ok (.aload_n 0, 1) := by decide +kernel
theorem dX1_layFor_25 : decode cX1_layFor 25 = .ok (.dup, 1) := by decide +kernel
theorem dX1_layFor_26 : decode cX1_layFor 26 = .ok (.getfield 48, 3) := by decide +kernel
theorem dX1_layFor_29 : decode cX1_layFor 29 = .ok (.iload_n 2, 1) := by decide +kernel
theorem dX1_layFor_30 : decode cX1_layFor 30 = .ok (.iadd, 1) := by decide +kernel
theorem dX1_layFor_31 : decode cX1_layFor 31 = .ok (.putfield 48, 3) := by decide +kernel
theorem dX1_layFor_34 : decode cX1_layFor 34 = .ok (.iload_n 2, 1) := by decide +kernel
theorem dX1_layFor_35 : decode cX1_layFor 35 = .ok (.ireturn, 1) := by decide +kernel
set_option maxRecDepth 20000 in
theorem ggX1_layNext_X3_firstUndone : GoodIn wsX1_layNext wsX3_firstUndone := goodIn_r _ [10, 11, 12, 13, 14, 15, 16, 17, 64, 65, 66, 67, 54, 55, 56, 57, 58, 59, 60, 61, 62, 63] (by decide +kernel) (by decide +kernel)
set_option maxRecDepth 20000 in
theorem gX1_layNext_X3_firstUndone : GoodIn wsX1_layNext (wsV RX1 51 RX3 yX3_firstUndone wsX3_firstUndone) := goodIn_app (goodIn_of _ (by decide +kernel)) ggX1_layNext_X3_firstUndone
set_option maxRecDepth 20000 in
theorem ggX1_layNext_X1_hasOnTray : GoodIn wsX1_layNext wsX1_hasOnTray := goodIn_r _ [22, 23, 24, 47, 48, 49, 50, 51, 52, 53] (by decide +kernel) (by decide +kernel)
set_option maxRecDepth 20000 in
theorem gX1_layNext_X1_hasOnTray : GoodIn wsX1_layNext (wsV RX1 39 RX1 yX1_hasOnTray wsX1_hasOnTray) := goodIn_app (goodIn_of _ (by decide +kernel)) ggX1_layNext_X1_hasOnTray
set_option maxRecDepth 20000 in
theorem ggX1_layNext_X3_isDryRow : GoodIn wsX1_layNext wsX3_isDryRow := goodIn_r _ [28, 29, 30, 31, 32, 33, 34, 35, 9, 36, 37, 11, 12, 13, 14, 15, 16, 17, 64, 65, 66, 67, 54, 55, 56, 57, 58, 59, 60, 61, 62, 63] (by decide +kernel) (by decide +kernel)
set_option maxRecDepth 20000 in
theorem gX1_layNext_X3_isDryRow : GoodIn wsX1_layNext (wsV RX1 67 RX3 yX3_isDryRow wsX3_isDryRow) := goodIn_app (goodIn_of _ (by decide +kernel)) ggX1_layNext_X3_isDryRow
set_option maxRecDepth 20000 in
theorem ggX1_layNext_X0_lay : GoodIn wsX1_layNext wsX0_lay := goodIn_r _ [41, 17, 42, 43, 44, 45, 46, 54, 55, 56, 57, 58, 59, 60, 61, 62, 63, 68, 69, 70, 71, 72, 73, 74] (by decide +kernel) (by decide +kernel)
set_option maxRecDepth 20000 in
theorem gX1_layNext_X0_lay : GoodIn wsX1_layNext (wsV RX1 71 RX0 yX0_lay wsX0_lay) := goodIn_app (goodIn_of _ (by decide +kernel)) ggX1_layNext_X0_lay
theorem dX1_layNext_0 : decode cX1_layNext 0 = .ok (.aload_n 0, 1) := by decide +kernel
theorem dX1_layNext_1 : decode cX1_layNext 1 = .ok (.getfield 27, 3) := by decide +kernel
theorem dX1_layNext_4 : decode cX1_layNext 4 = .ok (.ifnonnull 5, 3) := by decide +kernel
theorem dX1_layNext_7 : decode cX1_layNext 7 = .ok (.iconst 0, 1) := by decide +kernel
theorem dX1_layNext_8 : decode cX1_layNext 8 = .ok (.ireturn, 1) := by decide +kernel
theorem dX1_layNext_9 : decode cX1_layNext 9 = .ok (.aload_n 0, 1) := by decide +kernel
theorem dX1_layNext_10 : decode cX1_layNext 10 = .ok (.getfield 27, 3) := by decide +kernel
theorem dX1_layNext_13 : decode cX1_layNext 13 = .ok (.invokevirtual 51, 3) := by decide +kernel
theorem dX1_layNext_16 : decode cX1_layNext 16 = .ok (.astore_n 2, 1) := by decide +kernel
theorem dX1_layNext_17 : decode cX1_layNext 17 = .ok (.aload_n 2, 1) := by decide +kernel
theorem dX1_layNext_18 : decode cX1_layNext 18 = .ok (.ifnull 39, 3) := by decide +kernel
theorem dX1_layNext_21 : decode cX1_layNext 21 = .ok (.aload_n 2, 1) := by decide +kernel
theorem dX1_layNext_22 : decode cX1_layNext 22 = .ok (.getfield 55, 3) := by decide +kernel
theorem dX1_layNext_25 : decode cX1_layNext 25 = .ok (.iconst 1, 1) := by decide +kernel
theorem dX1_layNext_26 : decode cX1_layNext 26 = .ok (.if_icmp .ne 31, 3) := by decide +kernel
theorem dX1_layNext_29 : decode cX1_layNext 29 = .ok (.aload_n 0, 1) := by decide +kernel
theorem dX1_layNext_30 : decode cX1_layNext 30 = .ok (.aload_n 2, 1) := by decide +kernel
theorem dX1_layNext_31 : decode cX1_layNext 31 = .ok (.getfield 60, 3) := by decide +kernel
theorem dX1_layNext_34 : decode cX1_layNext 34 = .ok (.invokevirtual 39, 3) := by decide +kernel
theorem dX1_layNext_37 : decode cX1_layNext 37 = .ok (.ifCond .eq 20, 3) := by decide +kernel
theorem dX1_layNext_40 : decode cX1_layNext 40 = .ok (.aload_n 0, 1) := by decide +kernel
theorem dX1_layNext_41 : decode cX1_layNext 41 = .ok (.getfield 27, 3) := by decide +kernel
theorem dX1_layNext_44 : decode cX1_layNext 44 = .ok (.aload_n 2, 1) := by decide +kernel
theorem dX1_layNext_45 : decode cX1_layNext 45 = .ok (.getfield 64, 3) := by decide +kernel
theorem dX1_layNext_48 : decode cX1_layNext 48 = .ok (.iconst 1, 1) := by decide +kernel
theorem dX1_layNext_49 : decode cX1_layNext 49 = .ok (.isub, 1) := by decide +kernel
theorem dX1_layNext_50 : decode cX1_layNext 50 = .ok (.iload_n 1, 1) := by decide +kernel
theorem dX1_layNext_51 : decode cX1_layNext 51 = .ok (.invokevirtual 67, 3) := by decide +kernel
theorem dX1_layNext_54 : decode cX1_layNext 54 = .ok (.ifCond .ne 5, 3) := by decide +kernel
theorem dX1_layNext_57 : decode cX1_layNext 57 = .ok (.iconst 0, 1) := by decide +kernel
theorem dX1_layNext_58 : decode cX1_layNext 58 = .ok (.ireturn, 1) := by decide +kernel
theorem dX1_layNext_59 : decode cX1_layNext 59 = .ok (.aload_n 2, 1) := by decide +kernel
theorem dX1_layNext_60 : decode cX1_layNext 60 = .ok (.iload_n 1, 1) := by decide +kernel
theorem dX1_layNext_61 : decode cX1_layNext 61 = .ok (.aload_n 0, 1) := by decide +kernel
theorem dX1_layNext_62 : decode cX1_layNext 62 = .ok (.getfield 15, 3) := by decide +kernel
theorem dX1_layNext_65 : decode cX1_layNext 65 = .ok (.invokevirtual 71, 3) := by decide +kernel
theorem dX1_layNext_68 : decode cX1_layNext 68 = .ok (.iconst 1, 1) := by decide +kernel
theorem dX1_layNext_69 : decode cX1_layNext 69 = .ok (.ireturn, 1) := by decide +kernel
theorem dX2_init_0 : decode cX2_init 0 = .ok (.aload_n 0, 1) := by decide +kernel
theorem dX2_init_1 : decode cX2_init 1 = .ok (.invokespecial 1, 3) := by decide +kernel
theorem dX2_init_4 : decode cX2_init 4 = .ok (.aload_n 0, 1) := by decide +kernel
theorem dX2_init_5 : decode cX2_init 5 = .ok (.iload_n 1, 1) := by decide +kernel
theorem dX2_init_6 : decode cX2_init 6 = .ok (.putfield 7, 3) := by decide +kernel
theorem dX2_init_9 : decode cX2_init 9 = .ok (.aload_n 0, 1) := by decide +kernel
theorem dX2_init_10 : decode cX2_init 10 = .ok (.fload_n 2, 1) := by decide +kernel
theorem dX2_init_11 : decode cX2_init 11 = .ok (.putfield 13, 3) := by decide +kernel
theorem dX2_init_14 : decode cX2_init 14 = .ok (.aload_n 0, 1) := by decide +kernel
theorem dX2_init_15 : decode cX2_init 15 = .ok (.iload_n 3, 1) := by decide +kernel
theorem dX2_init_16 : decode cX2_init 16 = .ok (.putfield 17, 3) := by decide +kernel
theorem dX2_init_19 : decode cX2_init 19 = .ok (.aload_n 0, 1) := by decide +kernel
theorem dX2_init_20 : decode cX2_init 20 = .ok (.iload 4, 2) := by decide +kernel
theorem dX2_init_22 : decode cX2_init 22 = .ok (.putfield 20, 3) := by decide +kernel
theorem dX2_init_25 : decode cX2_init 25 = .ok (.aload_n 0, 1) := by decide +kernel
theorem dX2_init_26 : decode cX2_init 26 = .ok (.iload 5, 2) := by decide +kernel
theorem dX2_init_28 : decode cX2_init 28 = .ok (.putfield 23, 3) := by decide +kernel
theorem dX2_init_31 : decode cX2_init 31 = .ok (.return_, 1) := by decide +kernel
theorem dX2_canPromise_0 : decode cX2_canPromise 0 = .ok (.aload_n 0, 1) := by decide +kernel
theorem dX2_canPromise_1 : decode cX2_canPromise 1 = .ok (.getfield 23, 3) := by decide +kernel
theorem dX2_canPromise_4 : decode cX2_canPromise 4 = .ok (.ifCond .eq 14, 3) := by decide +kernel
theorem dX2_canPromise_7 : decode cX2_canPromise 7 = .ok (.aload_n 0, 1) := by decide +kernel
theorem dX2_canPromise_8 : decode cX2_canPromise 8 = .ok (.getfield 17, 3) := by decide +kernel
theorem dX2_canPromise_11 : decode cX2_canPromise 11 = .ok (.ifCond .le 7, 3) := by decide +kernel
theorem dX2_canPromise_14 : decode cX2_canPromise 14 = .ok (.iconst 1, 1) := by decide +kernel
theorem dX2_canPromise_15 : decode cX2_canPromise 15 = .ok (.goto 4, 3) := by decide +kernel
theorem dX2_canPromise_18 : decode cX2_canPromise 18 = .ok (.iconst 0, 1) := by decide +kernel
theorem dX2_canPromise_19 : decode cX2_canPromise 19 = .ok (.ireturn, 1) := by decide +kernel
set_option maxRecDepth 20000 in
theorem ggX3_init_X0_init : GoodIn wsX3_init wsX0_init := goodIn_r _ [13, 14, 2, 3, 15, 16, 17, 18, 23, 24, 25, 26, 27, 28, 29, 30, 31, 32] (by decide +kernel) (by decide +kernel)
set_option maxRecDepth 20000 in
theorem gX3_init_X0_init : GoodIn wsX3_init (wsX0_init) := ggX3_init_X0_init
theorem dX3_init_0 : decode cX3_init 0 = .ok (.aload_n 0, 1) := by decide +kernel
theorem dX3_init_1 : decode cX3_init 1 = .ok (.invokespecial 3, 3) := by decide +kernel
theorem dX3_init_4 : decode cX3_init 4 = .ok (.aload_n 0, 1) := by decide +kernel
theorem dX3_init_5 : decode cX3_init 5 = .ok (.iload_n 1, 1) := by decide +kernel
theorem dX3_init_6 : decode cX3_init 6 = .ok (.putfield 9, 3) := by decide +kernel
theorem dX3_init_9 : decode cX3_init 9 = .ok (.aload_n 0, 1) := by decide +kernel
theorem dX3_init_10 : decode cX3_init 10 = .ok (.iload_n 2, 1) := by decide +kernel
theorem dX3_init_11 : decode cX3_init 11 = .ok (.putfield 15, 3) := by decide +kernel
theorem dX3_init_14 : decode cX3_init 14 = .ok (.aload_n 0, 1) := by decide +kernel
theorem dX3_init_15 : decode cX3_init 15 = .ok (.iload_n 3, 1) := by decide +kernel
theorem dX3_init_16 : decode cX3_init 16 = .ok (.putfield 18, 3) := by decide +kernel
theorem dX3_init_19 : decode cX3_init 19 = .ok (.aload_n 0, 1) := by decide +kernel
theorem dX3_init_20 : decode cX3_init 20 = .ok (.iload_n 2, 1) := by decide +kernel
theorem dX3_init_21 : decode cX3_init 21 = .ok (.iload_n 3, 1) := by decide +kernel
theorem dX3_init_22 : decode cX3_init 22 = .ok (.imul, 1) := by decide +kernel
theorem dX3_init_23 : decode cX3_init 23 = .ok (.anewarray 21, 3) := by decide +kernel
theorem dX3_init_26 : decode cX3_init 26 = .ok (.putfield 23, 3) := by decide +kernel
theorem dX3_init_29 : decode cX3_init 29 = .ok (.iconst 0, 1) := by decide +kernel
theorem dX3_init_30 : decode cX3_init 30 = .ok (.istore 5, 2) := by decide +kernel
theorem dX3_init_32 : decode cX3_init 32 = .ok (.iconst 0, 1) := by decide +kernel
theorem dX3_init_33 : decode cX3_init 33 = .ok (.istore 6, 2) := by decide +kernel
theorem dX3_init_35 : decode cX3_init 35 = .ok (.iconst 0, 1) := by decide +kernel
theorem dX3_init_36 : decode cX3_init 36 = .ok (.istore 7, 2) := by decide +kernel
theorem dX3_init_38 : decode cX3_init 38 = .ok (.iload 7, 2) := by decide +kernel
theorem dX3_init_40 : decode cX3_init 40 = .ok (.aload_n 0, 1) := by decide +kernel
theorem dX3_init_41 : decode cX3_init 41 = .ok (.getfield 23, 3) := by decide +kernel
theorem dX3_init_44 : decode cX3_init 44 = .ok (.arraylength, 1) := by decide +kernel
theorem dX3_init_45 : decode cX3_init 45 = .ok (.if_icmp .ge 44, 3) := by decide +kernel
theorem dX3_init_48 : decode cX3_init 48 = .ok (.aload_n 0, 1) := by decide +kernel
theorem dX3_init_49 : decode cX3_init 49 = .ok (.getfield 23, 3) := by decide +kernel
theorem dX3_init_52 : decode cX3_init 52 = .ok (.iload 7, 2) := by decide +kernel
theorem dX3_init_54 : decode cX3_init 54 = .ok (.new 21, 3) := by decide +kernel
theorem dX3_init_57 : decode cX3_init 57 = .ok (.dup, 1) := by decide +kernel
theorem dX3_init_58 : decode cX3_init 58 = .ok (.iload 5, 2) := by decide +kernel
theorem dX3_init_60 : decode cX3_init 60 = .ok (.iload 6, 2) := by decide +kernel
theorem dX3_init_62 : decode cX3_init 62 = .ok (.iload 4, 2) := by decide +kernel
theorem dX3_init_64 : decode cX3_init 64 = .ok (.invokespecial 27, 3) := by decide +kernel
theorem dX3_init_67 : decode cX3_init 67 = .ok (.aastore, 1) := by decide +kernel
theorem dX3_init_68 : decode cX3_init 68 = .ok (.iinc 5 1, 3) := by decide +kernel
theorem dX3_init_71 : decode cX3_init 71 = .ok (.iload 5, 2) := by decide +kernel
theorem dX3_init_73 : decode cX3_init 73 = .ok (.iload_n 2, 1) := by decide +kernel
theorem dX3_init_74 : decode cX3_init 74 = .ok (.if_icmp .ne 9, 3) := by decide +kernel
theorem dX3_init_77 : decode cX3_init 77 = .ok (.iconst 0, 1) := by decide +kernel
theorem dX3_init_78 : decode cX3_init 78 = .ok (.istore 5, 2) := by decide +kernel
theorem dX3_init_80 : decode cX3_init 80 = .ok (.iinc 6 1, 3) := by decide +kernel
theorem dX3_init_83 : decode cX3_init 83 = .ok (.iinc 7 1, 3) := by decide +kernel
theorem dX3_init_86 : decode cX3_init 86 = .ok (.goto (-48), 3) := by decide +kernel
theorem dX3_init_89 : decode cX3_init 89 = .ok (.return_, 1) := by decide +kernel
theorem dX3_cellAt_0 : decode cX3_cellAt 0 = .ok (.iload_n 1, 1) := by decide +kernel
theorem dX3_cellAt_1 : decode cX3_cellAt 1 = .ok (.ifCond .lt 23, 3) := by decide +kernel
theorem dX3_cellAt_4 : decode cX3_cellAt 4 = .ok (.iload_n 1, 1) := by decide +kernel
theorem dX3_cellAt_5 : decode cX3_cellAt 5 = .ok (.aload_n 0, 1) := by decide +kernel
theorem dX3_cellAt_6 : decode cX3_cellAt 6 = .ok (.getfield 15, 3) := by decide +kernel
theorem dX3_cellAt_9 : decode cX3_cellAt 9 = .ok (.if_icmp .ge 15, 3) := by decide +kernel
theorem dX3_cellAt_12 : decode cX3_cellAt 12 = .ok (.iload_n 2, 1) := by decide +kernel
theorem dX3_cellAt_13 : decode cX3_cellAt 13 = .ok (.ifCond .lt 11, 3) := by decide +kernel
theorem dX3_cellAt_16 : decode cX3_cellAt 16 = .ok (.iload_n 2, 1) := by decide +kernel
theorem dX3_cellAt_17 : decode cX3_cellAt 17 = .ok (.aload_n 0, 1) := by decide +kernel
theorem dX3_cellAt_18 : decode cX3_cellAt 18 = .ok (.getfield 18, 3) := by decide +kernel
theorem dX3_cellAt_21 : decode cX3_cellAt 21 = .ok (.if_icmp .lt 5, 3) := by decide +kernel
theorem dX3_cellAt_24 : decode cX3_cellAt 24 = .ok (.aconst_null, 1) := by decide +kernel
theorem dX3_cellAt_25 : decode cX3_cellAt 25 = .ok (.areturn, 1) := by decide +kernel
theorem dX3_cellAt_26 : decode cX3_cellAt 26 = .ok (.aload_n 0, 1) := by decide +kernel
theorem dX3_cellAt_27 : decode cX3_cellAt 27 = .ok (.getfield 23, 3) := by decide +kernel
theorem dX3_cellAt_30 : decode cX3_cellAt 30 = .ok (.iload_n 2, 1) := by decide +kernel
theorem dX3_cellAt_31 : decode cX3_cellAt 31 = .ok (.aload_n 0, 1) := by decide +kernel
theorem dX3_cellAt_32 : decode cX3_cellAt 32 = .ok (.getfield 15, 3) := by decide +kernel
theorem dX3_cellAt_35 : decode cX3_cellAt 35 = .ok (.imul, 1) := by decide +kernel
theorem dX3_cellAt_36 : decode cX3_cellAt 36 = .ok (.iload_n 1, 1) := by decide +kernel
theorem dX3_cellAt_37 : decode cX3_cellAt 37 = .ok (.iadd, 1) := by decide +kernel
theorem dX3_cellAt_38 : decode cX3_cellAt 38 = .ok (.aaload, 1) := by decide +kernel
theorem dX3_cellAt_39 : decode cX3_cellAt 39 = .ok (.areturn, 1) := by decide +kernel
theorem dX3_count_0 : decode cX3_count 0 = .ok (.iconst 0, 1) := by decide +kernel
theorem dX3_count_1 : decode cX3_count 1 = .ok (.istore_n 2, 1) := by decide +kernel
theorem dX3_count_2 : decode cX3_count 2 = .ok (.aload_n 0, 1) := by decide +kernel
theorem dX3_count_3 : decode cX3_count 3 = .ok (.getfield 23, 3) := by decide +kernel
theorem dX3_count_6 : decode cX3_count 6 = .ok (.astore_n 3, 1) := by decide +kernel
theorem dX3_count_7 : decode cX3_count 7 = .ok (.aload_n 3, 1) := by decide +kernel
theorem dX3_count_8 : decode cX3_count 8 = .ok (.arraylength, 1) := by decide +kernel
theorem dX3_count_9 : decode cX3_count 9 = .ok (.istore 4, 2) := by decide +kernel
theorem dX3_count_11 : decode cX3_count 11 = .ok (.iconst 0, 1) := by decide +kernel
theorem dX3_count_12 : decode cX3_count 12 = .ok (.istore 5, 2) := by decide +kernel
theorem dX3_count_14 : decode cX3_count 14 = .ok (.iload 5, 2) := by decide +kernel
theorem dX3_count_16 : decode cX3_count 16 = .ok (.iload 4, 2) := by decide +kernel
theorem dX3_count_18 : decode cX3_count 18 = .ok (.if_icmp .ge 27, 3) := by decide +kernel
theorem dX3_count_21 : decode cX3_count 21 = .ok (.aload_n 3, 1) := by decide +kernel
theorem dX3_count_22 : decode cX3_count 22 = .ok (.iload 5, 2) := by decide +kernel
theorem dX3_count_24 : decode cX3_count 24 = .ok (.aaload, 1) := by decide +kernel
theorem dX3_count_25 : decode cX3_count 25 = .ok (.astore 6, 2) := by decide +kernel
theorem dX3_count_27 : decode cX3_count 27 = .ok (.aload 6, 2) := by decide +kernel
theorem dX3_count_29 : decode cX3_count 29 = .ok (.getfield 30, 3) := by decide +kernel
theorem dX3_count_32 : decode cX3_count 32 = .ok (.iload_n 1, 1) := by decide +kernel
theorem dX3_count_33 : decode cX3_count 33 = .ok (.if_icmp .ne 6, 3) := by decide +kernel
theorem dX3_count_36 : decode cX3_count 36 = .ok (.iinc 2 1, 3) := by decide +kernel
theorem dX3_count_39 : decode cX3_count 39 = .ok (.iinc 5 1, 3) := by decide +kernel
theorem dX3_count_42 : decode cX3_count 42 = .ok (.goto (-28), 3) := by decide +kernel
theorem dX3_count_45 : decode cX3_count 45 = .ok (.iload_n 2, 1) := by decide +kernel
theorem dX3_count_46 : decode cX3_count 46 = .ok (.ireturn, 1) := by decide +kernel
set_option maxRecDepth 20000 in
theorem ggX3_designFrom_X0_takeBack : GoodIn wsX3_designFrom wsX0_takeBack := goodIn_r _ [10, 11, 12, 13, 14, 72, 73, 74, 75, 76, 77, 78, 79, 80, 81, 82, 83, 84, 85, 86, 87, 88] (by decide +kernel) (by decide +kernel)
set_option maxRecDepth 20000 in
theorem gX3_designFrom_X0_takeBack : GoodIn wsX3_designFrom (wsV RX3 33 RX0 yX0_takeBack wsX0_takeBack) := goodIn_app (goodIn_of _ (by decide +kernel)) ggX3_designFrom_X0_takeBack
set_option maxRecDepth 20000 in
theorem ggX3_designFrom_X3_forgetBrought : GoodIn wsX3_designFrom wsX3_forgetBrought := goodIn_r _ [19, 1, 3, 68, 69, 70, 71, 72, 73, 74, 75, 76, 77, 78, 79, 80, 81] (by decide +kernel) (by decide +kernel)
set_option maxRecDepth 20000 in
theorem gX3_designFrom_X3_forgetBrought : GoodIn wsX3_designFrom (wsV RX3 36 RX3 yX3_forgetBrought wsX3_forgetBrought) := goodIn_app (goodIn_of _ (by decide +kernel)) ggX3_designFrom_X3_forgetBrought
set_option maxRecDepth 20000 in
theorem ggX3_designFrom_X3_promiseNearest : GoodIn wsX3_designFrom wsX3_promiseNearest := goodIn_r _ [22, 4, 23, 24, 25, 26, 27, 28, 29, 30, 31, 32, 18, 33, 34, 35, 36, 9, 37, 11, 12, 14, 13, 72, 73, 74, 75, 76, 77, 78, 79, 80, 81, 82, 83, 84, 85, 86, 87, 88] (by decide +kernel) (by decide +kernel)
set_option maxRecDepth 20000 in
theorem gX3_designFrom_X3_promiseNearest : GoodIn wsX3_designFrom (va_wsS RX3 49 yX3_promiseNearest wsX3_promiseNearest) := goodIn_app (goodIn_of _ (by decide +kernel)) ggX3_designFrom_X3_promiseNearest
set_option maxRecDepth 20000 in
theorem ggX3_designFrom_X0_lackBehind : GoodIn wsX3_designFrom wsX0_lackBehind := goodIn_r _ [41, 12, 42, 72, 73, 74, 75, 76, 77, 78, 79, 80, 81, 82, 83, 84, 85, 86, 87, 88] (by decide +kernel) (by decide +kernel)
set_option maxRecDepth 20000 in
theorem gX3_designFrom_X0_lackBehind : GoodIn wsX3_designFrom (wsV RX3 53 RX0 yX0_lackBehind wsX0_lackBehind) := goodIn_app (goodIn_of _ (by decide +kernel)) ggX3_designFrom_X0_lackBehind
set_option maxRecDepth 20000 in
theorem ggX3_designFrom_X3_passOn : GoodIn wsX3_designFrom wsX3_passOn := goodIn_r _ [46, 47, 48, 49, 50, 51, 52, 53, 54, 55, 18, 56, 57, 58, 59, 60, 61, 62, 1, 63, 64, 65, 9, 66, 67, 72, 73, 74, 75, 76, 77, 78, 79, 80, 81, 68, 69, 70, 71] (by decide +kernel) (by decide +kernel)
set_option maxRecDepth 20000 in
theorem gX3_designFrom_X3_passOn : GoodIn wsX3_designFrom (wsV RX3 57 RX3 yX3_passOn wsX3_passOn) := goodIn_app (goodIn_of _ (by decide +kernel)) ggX3_designFrom_X3_passOn
theorem dX3_designFrom_0 : decode cX3_designFrom 0 = .ok (.aload_n 0, 1) := by decide +kernel
theorem dX3_designFrom_1 : decode cX3_designFrom 1 = .ok (.getfield 23, 3) := by decide +kernel
theorem dX3_designFrom_4 : decode cX3_designFrom 4 = .ok (.astore_n 2, 1) := by decide +kernel
theorem dX3_designFrom_5 : decode cX3_designFrom 5 = .ok (.aload_n 2, 1) := by decide +kernel
theorem dX3_designFrom_6 : decode cX3_designFrom 6 = .ok (.arraylength, 1) := by decide +kernel
theorem dX3_designFrom_7 : decode cX3_designFrom 7 = .ok (.istore_n 3, 1) := by decide +kernel
theorem dX3_designFrom_8 : decode cX3_designFrom 8 = .ok (.iconst 0, 1) := by decide +kernel
theorem dX3_designFrom_9 : decode cX3_designFrom 9 = .ok (.istore 4, 2) := by decide +kernel
theorem dX3_designFrom_11 : decode cX3_designFrom 11 = .ok (.iload 4, 2) := by decide +kernel
theorem dX3_designFrom_13 : decode cX3_designFrom 13 = .ok (.iload_n 3, 1) := by decide +kernel
theorem dX3_designFrom_14 : decode cX3_designFrom 14 = .ok (.if_icmp .ge 20, 3) := by decide +kernel
theorem dX3_designFrom_17 : decode cX3_designFrom 17 = .ok (.aload_n 2, 1) := by decide +kernel
theorem dX3_designFrom_18 : decode cX3_designFrom 18 = .ok (.iload 4, 2) := by decide +kernel
theorem dX3_designFrom_20 : decode cX3_designFrom 20 = .ok (.aaload, 1) := by decide +kernel
theorem dX3_designFrom_21 : decode cX3_designFrom 21 = .ok (.astore 5, 2) := by decide +kernel
theorem dX3_designFrom_23 : decode cX3_designFrom 23 = .ok (.aload 5, 2) := by decide +kernel
theorem dX3_designFrom_25 : decode cX3_designFrom 25 = .ok (.invokevirtual 33, 3) := by decide +kernel
theorem dX3_designFrom_28 : decode cX3_designFrom 28 = .ok (.iinc 4 1, 3) := by decide +kernel
theorem dX3_designFrom_31 : decode cX3_designFrom 31 = .ok (.goto (-20), 3) := by decide +kernel
theorem dX3_designFrom_34 : decode cX3_designFrom 34 = .ok (.aload_n 0, 1) := by decide +kernel
theorem dX3_designFrom_35 : decode cX3_designFrom 35 = .ok (.invokevirtual 36, 3) := by decide +kernel
theorem dX3_designFrom_38 : decode cX3_designFrom 38 = .ok (.aload_n 0, 1) := by decide +kernel
theorem dX3_designFrom_39 : decode cX3_designFrom 39 = .ok (.getfield 23, 3) := by decide +kernel
theorem dX3_designFrom_42 : decode cX3_designFrom 42 = .ok (.astore_n 2, 1) := by decide +kernel
theorem dX3_designFrom_43 : decode cX3_designFrom 43 = .ok (.aload_n 2, 1) := by decide +kernel
theorem dX3_designFrom_44 : decode cX3_designFrom 44 = .ok (.arraylength, 1) := by decide +kernel
theorem dX3_designFrom_45 : decode cX3_designFrom 45 = .ok (.istore_n 3, 1) := by decide +kernel
theorem dX3_designFrom_46 : decode cX3_designFrom 46 = .ok (.iconst 0, 1) := by decide +kernel
theorem dX3_designFrom_47 : decode cX3_designFrom 47 = .ok (.istore 4, 2) := by decide +kernel
theorem dX3_designFrom_49 : decode cX3_designFrom 49 = .ok (.iload 4, 2) := by decide +kernel
theorem dX3_designFrom_51 : decode cX3_designFrom 51 = .ok (.iload_n 3, 1) := by decide +kernel
theorem dX3_designFrom_52 : decode cX3_designFrom 52 = .ok (.if_icmp .ge 62, 3) := by decide +kernel
theorem dX3_designFrom_55 : decode cX3_designFrom 55 = .ok (.aload_n 2, 1) := by decide +kernel
theorem dX3_designFrom_56 : decode cX3_designFrom 56 = .ok (.iload 4, 2) := by decide +kernel
theorem dX3_designFrom_58 : decode cX3_designFrom 58 = .ok (.aaload, 1) := by decide +kernel
theorem dX3_designFrom_59 : decode cX3_designFrom 59 = .ok (.astore 5, 2) := by decide +kernel
theorem dX3_designFrom_61 : decode cX3_designFrom 61 = .ok (.aload 5, 2) := by decide +kernel
theorem dX3_designFrom_63 : decode cX3_designFrom 63 = .ok (.aload 5, 2) := by decide +kernel
theorem dX3_designFrom_65 : decode cX3_designFrom 65 = .ok (.getfield 39, 3) := by decide +kernel
theorem dX3_designFrom_68 : decode cX3_designFrom 68 = .ok (.i2f, 1) := by decide +kernel
theorem dX3_designFrom_69 : decode cX3_designFrom 69 = .ok (.aload 5, 2) := by decide +kernel
theorem dX3_designFrom_71 : decode cX3_designFrom 71 = .ok (.getfield 42, 3) := by decide +kernel
theorem dX3_designFrom_74 : decode cX3_designFrom 74 = .ok (.fadd, 1) := by decide +kernel
theorem dX3_designFrom_75 : decode cX3_designFrom 75 = .ok (.putfield 46, 3) := by decide +kernel
theorem dX3_designFrom_78 : decode cX3_designFrom 78 = .ok (.aload 5, 2) := by decide +kernel
theorem dX3_designFrom_80 : decode cX3_designFrom 80 = .ok (.getfield 30, 3) := by decide +kernel
theorem dX3_designFrom_83 : decode cX3_designFrom 83 = .ok (.ifCond .ne 9, 3) := by decide +kernel
theorem dX3_designFrom_86 : decode cX3_designFrom 86 = .ok (.aload 5, 2) := by decide +kernel
theorem dX3_designFrom_88 : decode cX3_designFrom 88 = .ok (.aload_n 1, 1) := by decide +kernel
theorem dX3_designFrom_89 : decode cX3_designFrom 89 = .ok (.invokestatic 49, 3) := by decide +kernel
theorem dX3_designFrom_92 : decode cX3_designFrom 92 = .ok (.aload_n 0, 1) := by decide +kernel
theorem dX3_designFrom_93 : decode cX3_designFrom 93 = .ok (.aload 5, 2) := by decide +kernel
theorem dX3_designFrom_95 : decode cX3_designFrom 95 = .ok (.aload 5, 2) := by decide +kernel
theorem dX3_designFrom_97 : decode cX3_designFrom 97 = .ok (.aload 5, 2) := by decide +kernel
theorem dX3_designFrom_99 : decode cX3_designFrom 99 = .ok (.getfield 46, 3) := by decide +kernel
theorem dX3_designFrom_102 : decode cX3_designFrom 102 = .ok (.invokevirtual 53, 3) := by decide +kernel
theorem dX3_designFrom_105 : decode cX3_designFrom 105 = .ok (.invokevirtual 57, 3) := by decide +kernel
theorem dX3_designFrom_108 : decode cX3_designFrom 108 = .ok (.iinc 4 1, 3) := by decide +kernel
theorem dX3_designFrom_111 : decode cX3_designFrom 111 = .ok (.goto (-62), 3) := by decide +kernel
theorem dX3_designFrom_114 : decode cX3_designFrom 114 = .ok (.return_, 1) := by decide +kernel
set_option maxRecDepth 20000 in
theorem ggX3_aimByNow_X3_forgetBrought : GoodIn wsX3_aimByNow wsX3_forgetBrought := goodIn_r _ [8, 1, 3, 41, 42, 43, 44, 45, 46, 47, 48, 49, 50, 51, 52, 53, 54] (by decide +kernel) (by decide +kernel)
set_option maxRecDepth 20000 in
theorem gX3_aimByNow_X3_forgetBrought : GoodIn wsX3_aimByNow (wsV RX3 36 RX3 yX3_forgetBrought wsX3_forgetBrought) := goodIn_app (goodIn_of _ (by decide +kernel)) ggX3_aimByNow_X3_forgetBrought
set_option maxRecDepth 20000 in
theorem ggX3_aimByNow_X0_lackBehind : GoodIn wsX3_aimByNow wsX0_lackBehind := goodIn_r _ [13, 14, 15, 45, 46, 47, 48, 49, 50, 51, 52, 53, 54, 55, 56, 57, 58, 59, 60, 61] (by decide +kernel) (by decide +kernel)
set_option maxRecDepth 20000 in
theorem gX3_aimByNow_X0_lackBehind : GoodIn wsX3_aimByNow (wsV RX3 53 RX0 yX0_lackBehind wsX0_lackBehind) := goodIn_app (goodIn_of _ (by decide +kernel)) ggX3_aimByNow_X0_lackBehind
set_option maxRecDepth 20000 in
theorem ggX3_aimByNow_X3_passOn : GoodIn wsX3_aimByNow wsX3_passOn := goodIn_r _ [19, 20, 21, 22, 23, 24, 25, 26, 27, 28, 7, 29, 30, 31, 32, 33, 34, 35, 1, 36, 37, 38, 12, 39, 40, 45, 46, 47, 48, 49, 50, 51, 52, 53, 54, 41, 42, 43, 44] (by decide +kernel) (by decide +kernel)
set_option maxRecDepth 20000 in
theorem gX3_aimByNow_X3_passOn : GoodIn wsX3_aimByNow (wsV RX3 57 RX3 yX3_passOn wsX3_passOn) := goodIn_app (goodIn_of _ (by decide +kernel)) ggX3_aimByNow_X3_passOn
theorem dX3_aimByNow_0 : decode cX3_aimByNow 0 = .ok (.aload_n 0, 1) := by decide +kernel
theorem dX3_aimByNow_1 : decode cX3_aimByNow 1 = .ok (.invokevirtual 36, 3) := by decide +kernel
theorem dX3_aimByNow_4 : decode cX3_aimByNow 4 = .ok (.aload_n 0, 1) := by decide +kernel
theorem dX3_aimByNow_5 : decode cX3_aimByNow 5 = .ok (.getfield 23, 3) := by decide +kernel
theorem dX3_aimByNow_8 : decode cX3_aimByNow 8 = .ok (.astore_n 2, 1) := by decide +kernel
theorem dX3_aimByNow_9 : decode cX3_aimByNow 9 = .ok (.aload_n 2, 1) := by decide +kernel
theorem dX3_aimByNow_10 : decode cX3_aimByNow 10 = .ok (.arraylength, 1) := by decide +kernel
theorem dX3_aimByNow_11 : decode cX3_aimByNow 11 = .ok (.istore_n 3, 1) := by decide +kernel
theorem dX3_aimByNow_12 : decode cX3_aimByNow 12 = .ok (.iconst 0, 1) := by decide +kernel
theorem dX3_aimByNow_13 : decode cX3_aimByNow 13 = .ok (.istore 4, 2) := by decide +kernel
theorem dX3_aimByNow_15 : decode cX3_aimByNow 15 = .ok (.iload 4, 2) := by decide +kernel
theorem dX3_aimByNow_17 : decode cX3_aimByNow 17 = .ok (.iload_n 3, 1) := by decide +kernel
theorem dX3_aimByNow_18 : decode cX3_aimByNow 18 = .ok (.if_icmp .ge 51, 3) := by decide +kernel
theorem dX3_aimByNow_21 : decode cX3_aimByNow 21 = .ok (.aload_n 2, 1) := by decide +kernel
theorem dX3_aimByNow_22 : decode cX3_aimByNow 22 = .ok (.iload 4, 2) := by decide +kernel
theorem dX3_aimByNow_24 : decode cX3_aimByNow 24 = .ok (.aaload, 1) := by decide +kernel
theorem dX3_aimByNow_25 : decode cX3_aimByNow 25 = .ok (.astore 5, 2) := by decide +kernel
theorem dX3_aimByNow_27 : decode cX3_aimByNow 27 = .ok (.aload 5, 2) := by decide +kernel
theorem dX3_aimByNow_29 : decode cX3_aimByNow 29 = .ok (.getfield 39, 3) := by decide +kernel
theorem dX3_aimByNow_32 : decode cX3_aimByNow 32 = .ok (.i2f, 1) := by decide +kernel
theorem dX3_aimByNow_33 : decode cX3_aimByNow 33 = .ok (.aload 5, 2) := by decide +kernel
theorem dX3_aimByNow_35 : decode cX3_aimByNow 35 = .ok (.getfield 42, 3) := by decide +kernel
theorem dX3_aimByNow_38 : decode cX3_aimByNow 38 = .ok (.fadd, 1) := by decide +kernel
theorem dX3_aimByNow_39 : decode cX3_aimByNow 39 = .ok (.fstore 6, 2) := by decide +kernel
theorem dX3_aimByNow_41 : decode cX3_aimByNow 41 = .ok (.aload 5, 2) := by decide +kernel
theorem dX3_aimByNow_43 : decode cX3_aimByNow 43 = .ok (.aload_n 1, 1) := by decide +kernel
theorem dX3_aimByNow_44 : decode cX3_aimByNow 44 = .ok (.if_acmp .ne 6, 3) := by decide +kernel
theorem dX3_aimByNow_47 : decode cX3_aimByNow 47 = .ok (.fload 6, 2) := by decide +kernel
theorem dX3_aimByNow_49 : decode cX3_aimByNow 49 = .ok (.freturn, 1) := by decide +kernel
theorem dX3_aimByNow_50 : decode cX3_aimByNow 50 = .ok (.aload_n 0, 1) := by decide +kernel
theorem dX3_aimByNow_51 : decode cX3_aimByNow 51 = .ok (.aload 5, 2) := by decide +kernel
theorem dX3_aimByNow_53 : decode cX3_aimByNow 53 = .ok (.aload 5, 2) := by decide +kernel
theorem dX3_aimByNow_55 : decode cX3_aimByNow 55 = .ok (.fload 6, 2) := by decide +kernel
theorem dX3_aimByNow_57 : decode cX3_aimByNow 57 = .ok (.invokevirtual 53, 3) := by decide +kernel
theorem dX3_aimByNow_60 : decode cX3_aimByNow 60 = .ok (.invokevirtual 57, 3) := by decide +kernel
theorem dX3_aimByNow_63 : decode cX3_aimByNow 63 = .ok (.iinc 4 1, 3) := by decide +kernel
theorem dX3_aimByNow_66 : decode cX3_aimByNow 66 = .ok (.goto (-51), 3) := by decide +kernel
theorem dX3_aimByNow_69 : decode cX3_aimByNow 69 = .ok (.fconst 0, 1) := by decide +kernel
theorem dX3_aimByNow_70 : decode cX3_aimByNow 70 = .ok (.freturn, 1) := by decide +kernel
theorem dX3_forgetBrought_0 : decode cX3_forgetBrought 0 = .ok (.aload_n 0, 1) := by decide +kernel
theorem dX3_forgetBrought_1 : decode cX3_forgetBrought 1 = .ok (.getfield 23, 3) := by decide +kernel
theorem dX3_forgetBrought_4 : decode cX3_forgetBrought 4 = .ok (.astore_n 1, 1) := by decide +kernel
theorem dX3_forgetBrought_5 : decode cX3_forgetBrought 5 = .ok (.aload_n 1, 1) := by decide +kernel
theorem dX3_forgetBrought_6 : decode cX3_forgetBrought 6 = .ok (.arraylength, 1) := by decide +kernel
theorem dX3_forgetBrought_7 : decode cX3_forgetBrought 7 = .ok (.istore_n 2, 1) := by decide +kernel
theorem dX3_forgetBrought_8 : decode cX3_forgetBrought 8 = .ok (.iconst 0, 1) := by decide +kernel
theorem dX3_forgetBrought_9 : decode cX3_forgetBrought 9 = .ok (.istore_n 3, 1) := by decide +kernel
theorem dX3_forgetBrought_10 : decode cX3_forgetBrought 10 = .ok (.iload_n 3, 1) := by decide +kernel
theorem dX3_forgetBrought_11 : decode cX3_forgetBrought 11 = .ok (.iload_n 2, 1) := by decide +kernel
theorem dX3_forgetBrought_12 : decode cX3_forgetBrought 12 = .ok (.if_icmp .ge 20, 3) := by decide +kernel
theorem dX3_forgetBrought_15 : decode cX3_forgetBrought 15 = .ok (.aload_n 1, 1) := by decide +kernel
theorem dX3_forgetBrought_16 : decode cX3_forgetBrought 16 = .ok (.iload_n 3, 1) := by decide +kernel
theorem dX3_forgetBrought_17 : decode cX3_forgetBrought 17 = .ok (.aaload, 1) := by decide +kernel
theorem dX3_forgetBrought_18 : decode cX3_forgetBrought 18 = .ok (.astore 4, 2) := by decide +kernel
theorem dX3_forgetBrought_20 : decode cX3_forgetBrought 20 = .ok (.aload 4, 2) := by decide +kernel
theorem dX3_forgetBrought_22 : decode cX3_forgetBrought 22 = .ok (.fconst 0, 1) := by decide +kernel
theorem dX3_forgetBrought_23 : decode cX3_forgetBrought 23 = .ok (.putfield 42, 3) := by decide +kernel
theorem dX3_forgetBrought_26 : decode cX3_forgetBrought 26 = .ok (.iinc 3 1, 3) := by decide +kernel
theorem dX3_forgetBrought_29 : decode cX3_forgetBrought 29 = .ok (.goto (-19), 3) := by decide +kernel
theorem dX3_forgetBrought_32 : decode cX3_forgetBrought 32 = .ok (.return_, 1) := by decide +kernel
set_option maxRecDepth 20000 in
theorem ggX3_promiseNearest_X2_canPromise : GoodIn wsX3_promiseNearest wsX2_canPromise := goodIn_r _ [7, 8, 9, 33, 34, 35, 36, 37, 38, 39] (by decide +kernel) (by decide +kernel)
set_option maxRecDepth 20000 in
theorem gX3_promiseNearest_X2_canPromise : GoodIn wsX3_promiseNearest (wsV RX3 61 RX2 yX2_canPromise wsX2_canPromise) := goodIn_app (goodIn_of _ (by decide +kernel)) ggX3_promiseNearest_X2_canPromise
set_option maxRecDepth 20000 in
theorem ggX3_promiseNearest_X3_distance : GoodIn wsX3_promiseNearest wsX3_distance := goodIn_r _ [13] (by decide +kernel) (by decide +kernel)
set_option maxRecDepth 20000 in
theorem gX3_promiseNearest_X3_distance : GoodIn wsX3_promiseNearest (va_wsS RX3 70 yX3_distance wsX3_distance) := goodIn_app (goodIn_of _ (by decide +kernel)) ggX3_promiseNearest_X3_distance
set_option maxRecDepth 20000 in
theorem ggX3_promiseNearest_X0_promise : GoodIn wsX3_promiseNearest wsX0_promise := goodIn_r _ [18, 19, 20, 21, 22, 23, 24, 25, 26, 27, 28, 29, 30, 31, 32, 33, 34, 35, 36, 37, 38, 39] (by decide +kernel) (by decide +kernel)
set_option maxRecDepth 20000 in
theorem gX3_promiseNearest_X0_promise : GoodIn wsX3_promiseNearest (wsV RX3 74 RX0 yX0_promise wsX0_promise) := goodIn_app (goodIn_of _ (by decide +kernel)) ggX3_promiseNearest_X0_promise
theorem dX3_promiseNearest_0 : decode cX3_promiseNearest 0 = .ok (.aconst_null, 1) := by decide +kernel
theorem dX3_promiseNearest_1 : decode cX3_promiseNearest 1 = .ok (.astore_n 2, 1) := by decide +kernel
theorem dX3_promiseNearest_2 : decode cX3_promiseNearest 2 = .ok (.fconst 0, 1) := by decide +kernel
theorem dX3_promiseNearest_3 : decode cX3_promiseNearest 3 = .ok (.fstore_n 3, 1) := by decide +kernel
theorem dX3_promiseNearest_4 : decode cX3_promiseNearest 4 = .ok (.aload_n 1, 1) := by decide +kernel
theorem dX3_promiseNearest_5 : decode cX3_promiseNearest 5 = .ok (.astore 4, 2) := by decide +kernel
theorem dX3_promiseNearest_7 : decode cX3_promiseNearest 7 = .ok (.aload 4, 2) := by decide +kernel
theorem dX3_promiseNearest_9 : decode cX3_promiseNearest 9 = .ok (.arraylength, 1) := by decide +kernel
theorem dX3_promiseNearest_10 : decode cX3_promiseNearest 10 = .ok (.istore 5, 2) := by decide +kernel
theorem dX3_promiseNearest_12 : decode cX3_promiseNearest 12 = .ok (.iconst 0, 1) := by decide +kernel
theorem dX3_promiseNearest_13 : decode cX3_promiseNearest 13 = .ok (.istore 6, 2) := by decide +kernel
theorem dX3_promiseNearest_15 : decode cX3_promiseNearest 15 = .ok (.iload 6, 2) := by decide +kernel
theorem dX3_promiseNearest_17 : decode cX3_promiseNearest 17 = .ok (.iload 5, 2) := by decide +kernel
theorem dX3_promiseNearest_19 : decode cX3_promiseNearest 19 = .ok (.if_icmp .ge 60, 3) := by decide +kernel
theorem dX3_promiseNearest_22 : decode cX3_promiseNearest 22 = .ok (.aload 4, 2) := by decide +kernel
theorem dX3_promiseNearest_24 : decode cX3_promiseNearest 24 = .ok (.iload 6, 2) := by decide +kernel
theorem dX3_promiseNearest_26 : decode cX3_promiseNearest 26 = .ok (.aaload, 1) := by decide +kernel
theorem dX3_promiseNearest_27 : decode cX3_promiseNearest 27 = .ok (.astore 7, 2) := by decide +kernel
theorem dX3_promiseNearest_29 : decode cX3_promiseNearest 29 = .ok (.aload 7, 2) := by decide +kernel
theorem dX3_promiseNearest_31 : decode cX3_promiseNearest 31 = .ok (.ifnull 42, 3) := by decide +kernel
theorem dX3_promiseNearest_34 : decode cX3_promiseNearest 34 = .ok (.aload 7, 2) := by decide +kernel
theorem dX3_promiseNearest_36 : decode cX3_promiseNearest 36 = .ok (.invokevirtual 61, 3) := by decide +kernel
theorem dX3_promiseNearest_39 : decode cX3_promiseNearest 39 = .ok (.ifCond .eq 34, 3) := by decide +kernel
theorem dX3_promiseNearest_42 : decode cX3_promiseNearest 42 = .ok (.aload_n 0, 1) := by decide +kernel
theorem dX3_promiseNearest_43 : decode cX3_promiseNearest 43 = .ok (.getfield 46, 3) := by decide +kernel
theorem dX3_promiseNearest_46 : decode cX3_promiseNearest 46 = .ok (.aload 7, 2) := by decide +kernel
theorem dX3_promiseNearest_48 : decode cX3_promiseNearest 48 = .ok (.getfield 67, 3) := by decide +kernel
theorem dX3_promiseNearest_51 : decode cX3_promiseNearest 51 = .ok (.invokestatic 70, 3) := by decide +kernel
theorem dX3_promiseNearest_54 : decode cX3_promiseNearest 54 = .ok (.fstore 8, 2) := by decide +kernel
theorem dX3_promiseNearest_56 : decode cX3_promiseNearest 56 = .ok (.aload_n 2, 1) := by decide +kernel
theorem dX3_promiseNearest_57 : decode cX3_promiseNearest 57 = .ok (.ifnull 10, 3) := by decide +kernel
theorem dX3_promiseNearest_60 : decode cX3_promiseNearest 60 = .ok (.fload 8, 2) := by decide +kernel
theorem dX3_promiseNearest_62 : decode cX3_promiseNearest 62 = .ok (.fload_n 3, 1) := by decide +kernel
theorem dX3_promiseNearest_63 : decode cX3_promiseNearest 63 = .ok (.fcmp .g, 1) := by decide +kernel
theorem dX3_promiseNearest_64 : decode cX3_promiseNearest 64 = .ok (.ifCond .ge 9, 3) := by decide +kernel
theorem dX3_promiseNearest_67 : decode cX3_promiseNearest 67 = .ok (.aload 7, 2) := by decide +kernel
theorem dX3_promiseNearest_69 : decode cX3_promiseNearest 69 = .ok (.astore_n 2, 1) := by decide +kernel
theorem dX3_promiseNearest_70 : decode cX3_promiseNearest 70 = .ok (.fload 8, 2) := by decide +kernel
theorem dX3_promiseNearest_72 : decode cX3_promiseNearest 72 = .ok (.fstore_n 3, 1) := by decide +kernel
theorem dX3_promiseNearest_73 : decode cX3_promiseNearest 73 = .ok (.iinc 6 1, 3) := by decide +kernel
theorem dX3_promiseNearest_76 : decode cX3_promiseNearest 76 = .ok (.goto (-61), 3) := by decide +kernel
theorem dX3_promiseNearest_79 : decode cX3_promiseNearest 79 = .ok (.aload_n 2, 1) := by decide +kernel
theorem dX3_promiseNearest_80 : decode cX3_promiseNearest 80 = .ok (.ifnull 8, 3) := by decide +kernel
theorem dX3_promiseNearest_83 : decode cX3_promiseNearest 83 = .ok (.aload_n 0, 1) := by decide +kernel
theorem dX3_promiseNearest_84 : decode cX3_promiseNearest 84 = .ok (.aload_n 2, 1) := by decide +kernel
theorem dX3_promiseNearest_85 : decode cX3_promiseNearest 85 = .ok (.invokevirtual 74, 3) := by decide +kernel
theorem dX3_promiseNearest_88 : decode cX3_promiseNearest 88 = .ok (.return_, 1) := by decide +kernel
theorem dX3_distance_0 : decode cX3_distance 0 = .ok (.fload_n 0, 1) := by decide +kernel
theorem dX3_distance_1 : decode cX3_distance 1 = .ok (.fload_n 1, 1) := by decide +kernel
theorem dX3_distance_2 : decode cX3_distance 2 = .ok (.fsub, 1) := by decide +kernel
theorem dX3_distance_3 : decode cX3_distance 3 = .ok (.fstore_n 2, 1) := by decide +kernel
theorem dX3_distance_4 : decode cX3_distance 4 = .ok (.fload_n 2, 1) := by decide +kernel
theorem dX3_distance_5 : decode cX3_distance 5 = .ok (.fconst 0, 1) := by decide +kernel
theorem dX3_distance_6 : decode cX3_distance 6 = .ok (.fcmp .g, 1) := by decide +kernel
theorem dX3_distance_7 : decode cX3_distance 7 = .ok (.ifCond .ge 8, 3) := by decide +kernel
theorem dX3_distance_10 : decode cX3_distance 10 = .ok (.fload_n 2, 1) := by decide +kernel
theorem dX3_distance_11 : decode cX3_distance 11 = .ok (.fneg, 1) := by decide +kernel
theorem dX3_distance_12 : decode cX3_distance 12 = .ok (.goto 4, 3) := by decide +kernel
theorem dX3_distance_15 : decode cX3_distance 15 = .ok (.fload_n 2, 1) := by decide +kernel
theorem dX3_distance_16 : decode cX3_distance 16 = .ok (.freturn, 1) := by decide +kernel
set_option maxRecDepth 20000 in
theorem ggX3_passOn_X3_bringTo : GoodIn wsX3_passOn wsX3_bringTo := goodIn_r _ [11, 12, 13, 14, 10, 15, 16, 17, 18, 19, 20, 21, 22, 23, 24, 35, 36, 37, 38, 25, 26, 27, 28, 29, 30, 31, 32, 33, 34] (by decide +kernel) (by decide +kernel)
set_option maxRecDepth 20000 in
theorem gX3_passOn_X3_bringTo : GoodIn wsX3_passOn (wsV RX3 85 RX3 yX3_bringTo wsX3_bringTo) := goodIn_app (goodIn_of _ (by decide +kernel)) ggX3_passOn_X3_bringTo
theorem dX3_passOn_0 : decode cX3_passOn 0 = .ok (.fload_n 2, 1) := by decide +kernel
theorem dX3_passOn_1 : decode cX3_passOn 1 = .ok (.fconst 0, 1) := by decide +kernel
theorem dX3_passOn_2 : decode cX3_passOn 2 = .ok (.fcmp .l, 1) := by decide +kernel
theorem dX3_passOn_3 : decode cX3_passOn 3 = .ok (.ifCond .eq 79, 3) := by decide +kernel
theorem dX3_passOn_6 : decode cX3_passOn 6 = .ok (.aload_n 0, 1) := by decide +kernel
theorem dX3_passOn_7 : decode cX3_passOn 7 = .ok (.aload_n 1, 1) := by decide +kernel
theorem dX3_passOn_8 : decode cX3_passOn 8 = .ok (.getfield 78, 3) := by decide +kernel
theorem dX3_passOn_11 : decode cX3_passOn 11 = .ok (.iconst 1, 1) := by decide +kernel
theorem dX3_passOn_12 : decode cX3_passOn 12 = .ok (.iadd, 1) := by decide +kernel
theorem dX3_passOn_13 : decode cX3_passOn 13 = .ok (.aload_n 1, 1) := by decide +kernel
theorem dX3_passOn_14 : decode cX3_passOn 14 = .ok (.getfield 81, 3) := by decide +kernel
theorem dX3_passOn_17 : decode cX3_passOn 17 = .ok (.fload_n 2, 1) := by decide +kernel
theorem dX3_passOn_18 : decode cX3_passOn 18 = .ok (.ldc 84, 2) := by decide +kernel
theorem dX3_passOn_20 : decode cX3_passOn 20 = .ok (.fmul, 1) := by decide +kernel
theorem dX3_passOn_21 : decode cX3_passOn 21 = .ok (.invokevirtual 85, 3) := by decide +kernel
theorem dX3_passOn_24 : decode cX3_passOn 24 = .ok (.aload_n 0, 1) := by decide +kernel
theorem dX3_passOn_25 : decode cX3_passOn 25 = .ok (.aload_n 1, 1) := by decide +kernel
theorem dX3_passOn_26 : decode cX3_passOn 26 = .ok (.getfield 78, 3) := by decide +kernel
theorem dX3_passOn_29 : decode cX3_passOn 29 = .ok (.iconst 1, 1) := by decide +kernel
theorem dX3_passOn_30 : decode cX3_passOn 30 = .ok (.isub, 1) := by decide +kernel
theorem dX3_passOn_31 : decode cX3_passOn 31 = .ok (.aload_n 1, 1) := by decide +kernel
theorem dX3_passOn_32 : decode cX3_passOn 32 = .ok (.getfield 81, 3) := by decide +kernel
theorem dX3_passOn_35 : decode cX3_passOn 35 = .ok (.iconst 1, 1) := by decide +kernel
theorem dX3_passOn_36 : decode cX3_passOn 36 = .ok (.iadd, 1) := by decide +kernel
theorem dX3_passOn_37 : decode cX3_passOn 37 = .ok (.fload_n 2, 1) := by decide +kernel
theorem dX3_passOn_38 : decode cX3_passOn 38 = .ok (.ldc 89, 2) := by decide +kernel
theorem dX3_passOn_40 : decode cX3_passOn 40 = .ok (.fmul, 1) := by decide +kernel
theorem dX3_passOn_41 : decode cX3_passOn 41 = .ok (.invokevirtual 85, 3) := by decide +kernel
theorem dX3_passOn_44 : decode cX3_passOn 44 = .ok (.aload_n 0, 1) := by decide +kernel
theorem dX3_passOn_45 : decode cX3_passOn 45 = .ok (.aload_n 1, 1) := by decide +kernel
theorem dX3_passOn_46 : decode cX3_passOn 46 = .ok (.getfield 78, 3) := by decide +kernel
theorem dX3_passOn_49 : decode cX3_passOn 49 = .ok (.aload_n 1, 1) := by decide +kernel
theorem dX3_passOn_50 : decode cX3_passOn 50 = .ok (.getfield 81, 3) := by decide +kernel
theorem dX3_passOn_53 : decode cX3_passOn 53 = .ok (.iconst 1, 1) := by decide +kernel
theorem dX3_passOn_54 : decode cX3_passOn 54 = .ok (.iadd, 1) := by decide +kernel
theorem dX3_passOn_55 : decode cX3_passOn 55 = .ok (.fload_n 2, 1) := by decide +kernel
theorem dX3_passOn_56 : decode cX3_passOn 56 = .ok (.ldc 90, 2) := by decide +kernel
theorem dX3_passOn_58 : decode cX3_passOn 58 = .ok (.fmul, 1) := by decide +kernel
theorem dX3_passOn_59 : decode cX3_passOn 59 = .ok (.invokevirtual 85, 3) := by decide +kernel
theorem dX3_passOn_62 : decode cX3_passOn 62 = .ok (.aload_n 0, 1) := by decide +kernel
theorem dX3_passOn_63 : decode cX3_passOn 63 = .ok (.aload_n 1, 1) := by decide +kernel
theorem dX3_passOn_64 : decode cX3_passOn 64 = .ok (.getfield 78, 3) := by decide +kernel
theorem dX3_passOn_67 : decode cX3_passOn 67 = .ok (.iconst 1, 1) := by decide +kernel
theorem dX3_passOn_68 : decode cX3_passOn 68 = .ok (.iadd, 1) := by decide +kernel
theorem dX3_passOn_69 : decode cX3_passOn 69 = .ok (.aload_n 1, 1) := by decide +kernel
theorem dX3_passOn_70 : decode cX3_passOn 70 = .ok (.getfield 81, 3) := by decide +kernel
theorem dX3_passOn_73 : decode cX3_passOn 73 = .ok (.iconst 1, 1) := by decide +kernel
theorem dX3_passOn_74 : decode cX3_passOn 74 = .ok (.iadd, 1) := by decide +kernel
theorem dX3_passOn_75 : decode cX3_passOn 75 = .ok (.fload_n 2, 1) := by decide +kernel
theorem dX3_passOn_76 : decode cX3_passOn 76 = .ok (.ldc 91, 2) := by decide +kernel
theorem dX3_passOn_78 : decode cX3_passOn 78 = .ok (.fmul, 1) := by decide +kernel
theorem dX3_passOn_79 : decode cX3_passOn 79 = .ok (.invokevirtual 85, 3) := by decide +kernel
theorem dX3_passOn_82 : decode cX3_passOn 82 = .ok (.return_, 1) := by decide +kernel
set_option maxRecDepth 20000 in
theorem ggX3_bringTo_X3_cellAt : GoodIn wsX3_bringTo wsX3_cellAt := goodIn_r _ [5, 6, 7, 8, 15, 16, 17, 18] (by decide +kernel) (by decide +kernel)
set_option maxRecDepth 20000 in
theorem gX3_bringTo_X3_cellAt : GoodIn wsX3_bringTo (wsV RX3 92 RX3 yX3_cellAt wsX3_cellAt) := goodIn_app (goodIn_of _ (by decide +kernel)) ggX3_bringTo_X3_cellAt
set_option maxRecDepth 20000 in
theorem ggX3_bringTo_X0_bring : GoodIn wsX3_bringTo wsX0_bring := goodIn_r _ [13, 14, 19, 20, 21, 22, 23, 24, 25, 26, 27, 28] (by decide +kernel) (by decide +kernel)
set_option maxRecDepth 20000 in
theorem gX3_bringTo_X0_bring : GoodIn wsX3_bringTo (wsV RX3 96 RX0 yX0_bring wsX0_bring) := goodIn_app (goodIn_of _ (by decide +kernel)) ggX3_bringTo_X0_bring
theorem dX3_bringTo_0 : decode cX3_bringTo 0 = .ok (.aload_n 0, 1) := by decide +kernel
theorem dX3_bringTo_1 : decode cX3_bringTo 1 = .ok (.iload_n 1, 1) := by decide +kernel
theorem dX3_bringTo_2 : decode cX3_bringTo 2 = .ok (.iload_n 2, 1) := by decide +kernel
theorem dX3_bringTo_3 : decode cX3_bringTo 3 = .ok (.invokevirtual 92, 3) := by decide +kernel
theorem dX3_bringTo_6 : decode cX3_bringTo 6 = .ok (.astore 4, 2) := by decide +kernel
theorem dX3_bringTo_8 : decode cX3_bringTo 8 = .ok (.aload 4, 2) := by decide +kernel
theorem dX3_bringTo_10 : decode cX3_bringTo 10 = .ok (.ifnull 9, 3) := by decide +kernel
theorem dX3_bringTo_13 : decode cX3_bringTo 13 = .ok (.aload 4, 2) := by decide +kernel
theorem dX3_bringTo_15 : decode cX3_bringTo 15 = .ok (.fload_n 3, 1) := by decide +kernel
theorem dX3_bringTo_16 : decode cX3_bringTo 16 = .ok (.invokevirtual 96, 3) := by decide +kernel
theorem dX3_bringTo_19 : decode cX3_bringTo 19 = .ok (.return_, 1) := by decide +kernel
set_option maxRecDepth 20000 in
theorem ggX3_giveOddCells_X0_isPromised : GoodIn wsX3_giveOddCells wsX0_isPromised := goodIn_r _ [8, 9, 10, 32, 33, 34, 35, 36, 37, 38, 39, 40, 41] (by decide +kernel) (by decide +kernel)
set_option maxRecDepth 20000 in
theorem gX3_giveOddCells_X0_isPromised : GoodIn wsX3_giveOddCells (wsV RX3 100 RX0 yX0_isPromised wsX0_isPromised) := goodIn_app (goodIn_of _ (by decide +kernel)) ggX3_giveOddCells_X0_isPromised
set_option maxRecDepth 20000 in
theorem ggX3_giveOddCells_X2_canPromise : GoodIn wsX3_giveOddCells wsX2_canPromise := goodIn_r _ [15, 16, 17, 42, 43, 44, 45, 46, 47, 48] (by decide +kernel) (by decide +kernel)
set_option maxRecDepth 20000 in
theorem gX3_giveOddCells_X2_canPromise : GoodIn wsX3_giveOddCells (wsV RX3 61 RX2 yX2_canPromise wsX2_canPromise) := goodIn_app (goodIn_of _ (by decide +kernel)) ggX3_giveOddCells_X2_canPromise
set_option maxRecDepth 20000 in
theorem ggX3_giveOddCells_X0_takeBack : GoodIn wsX3_giveOddCells wsX0_takeBack := goodIn_r _ [21, 9, 10, 22, 23, 32, 33, 34, 35, 36, 37, 38, 39, 40, 41, 42, 43, 44, 45, 46, 47, 48] (by decide +kernel) (by decide +kernel)
set_option maxRecDepth 20000 in
theorem gX3_giveOddCells_X0_takeBack : GoodIn wsX3_giveOddCells (wsV RX3 33 RX0 yX0_takeBack wsX0_takeBack) := goodIn_app (goodIn_of _ (by decide +kernel)) ggX3_giveOddCells_X0_takeBack
set_option maxRecDepth 20000 in
theorem ggX3_giveOddCells_X0_promise : GoodIn wsX3_giveOddCells wsX0_promise := goodIn_r _ [27, 9, 10, 23, 22, 32, 33, 34, 35, 36, 37, 38, 39, 40, 41, 42, 43, 44, 45, 46, 47, 48] (by decide +kernel) (by decide +kernel)
set_option maxRecDepth 20000 in
theorem gX3_giveOddCells_X0_promise : GoodIn wsX3_giveOddCells (wsV RX3 74 RX0 yX0_promise wsX0_promise) := goodIn_app (goodIn_of _ (by decide +kernel)) ggX3_giveOddCells_X0_promise
theorem dX3_giveOddCells_0 : decode cX3_giveOddCells 0 = .ok (.iconst 0, 1) := by decide +kernel
theorem dX3_giveOddCells_1 : decode cX3_giveOddCells 1 = .ok (.istore_n 3, 1) := by decide +kernel
theorem dX3_giveOddCells_2 : decode cX3_giveOddCells 2 = .ok (.aload_n 0, 1) := by decide +kernel
theorem dX3_giveOddCells_3 : decode cX3_giveOddCells 3 = .ok (.getfield 23, 3) := by decide +kernel
theorem dX3_giveOddCells_6 : decode cX3_giveOddCells 6 = .ok (.astore 4, 2) := by decide +kernel
theorem dX3_giveOddCells_8 : decode cX3_giveOddCells 8 = .ok (.aload 4, 2) := by decide +kernel
theorem dX3_giveOddCells_10 : decode cX3_giveOddCells 10 = .ok (.arraylength, 1) := by decide +kernel
theorem dX3_giveOddCells_11 : decode cX3_giveOddCells 11 = .ok (.istore 5, 2) := by decide +kernel
theorem dX3_giveOddCells_13 : decode cX3_giveOddCells 13 = .ok (.iconst 0, 1) := by decide +kernel
theorem dX3_giveOddCells_14 : decode cX3_giveOddCells 14 = .ok (.istore 6, 2) := by decide +kernel
theorem dX3_giveOddCells_16 : decode cX3_giveOddCells 16 = .ok (.iload 6, 2) := by decide +kernel
theorem dX3_giveOddCells_18 : decode cX3_giveOddCells 18 = .ok (.iload 5, 2) := by decide +kernel
theorem dX3_giveOddCells_20 : decode cX3_giveOddCells 20 = .ok (.if_icmp .ge 63, 3) := by decide +kernel
theorem dX3_giveOddCells_23 : decode cX3_giveOddCells 23 = .ok (.aload 4, 2) := by decide +kernel
theorem dX3_giveOddCells_25 : decode cX3_giveOddCells 25 = .ok (.iload 6, 2) := by decide +kernel
theorem dX3_giveOddCells_27 : decode cX3_giveOddCells 27 = .ok (.aaload, 1) := by decide +kernel
theorem dX3_giveOddCells_28 : decode cX3_giveOddCells 28 = .ok (.astore 7, 2) := by decide +kernel
theorem dX3_giveOddCells_30 : decode cX3_giveOddCells 30 = .ok (.aload 7, 2) := by decide +kernel
theorem dX3_giveOddCells_32 : decode cX3_giveOddCells 32 = .ok (.aload_n 1, 1) := by decide +kernel
theorem dX3_giveOddCells_33 : decode cX3_giveOddCells 33 = .ok (.invokevirtual 100, 3) := by decide +kernel
theorem dX3_giveOddCells_36 : decode cX3_giveOddCells 36 = .ok (.ifCond .eq 41, 3) := by decide +kernel
theorem dX3_giveOddCells_39 : decode cX3_giveOddCells 39 = .ok (.aload 7, 2) := by decide +kernel
theorem dX3_giveOddCells_41 : decode cX3_giveOddCells 41 = .ok (.getfield 78, 3) := by decide +kernel
theorem dX3_giveOddCells_44 : decode cX3_giveOddCells 44 = .ok (.aload 7, 2) := by decide +kernel
theorem dX3_giveOddCells_46 : decode cX3_giveOddCells 46 = .ok (.getfield 81, 3) := by decide +kernel
theorem dX3_giveOddCells_49 : decode cX3_giveOddCells 49 = .ok (.iadd, 1) := by decide +kernel
theorem dX3_giveOddCells_50 : decode cX3_giveOddCells 50 = .ok (.iconst 2, 1) := by decide +kernel
theorem dX3_giveOddCells_51 : decode cX3_giveOddCells 51 = .ok (.irem, 1) := by decide +kernel
theorem dX3_giveOddCells_52 : decode cX3_giveOddCells 52 = .ok (.iconst 1, 1) := by decide +kernel
theorem dX3_giveOddCells_53 : decode cX3_giveOddCells 53 = .ok (.if_icmp .ne 24, 3) := by decide +kernel
theorem dX3_giveOddCells_56 : decode cX3_giveOddCells 56 = .ok (.aload_n 2, 1) := by decide +kernel
theorem dX3_giveOddCells_57 : decode cX3_giveOddCells 57 = .ok (.invokevirtual 61, 3) := by decide +kernel
theorem dX3_giveOddCells_60 : decode cX3_giveOddCells 60 = .ok (.ifCond .eq 17, 3) := by decide +kernel
theorem dX3_giveOddCells_63 : decode cX3_giveOddCells 63 = .ok (.aload 7, 2) := by decide +kernel
theorem dX3_giveOddCells_65 : decode cX3_giveOddCells 65 = .ok (.invokevirtual 33, 3) := by decide +kernel
theorem dX3_giveOddCells_68 : decode cX3_giveOddCells 68 = .ok (.aload 7, 2) := by decide +kernel
theorem dX3_giveOddCells_70 : decode cX3_giveOddCells 70 = .ok (.aload_n 2, 1) := by decide +kernel
theorem dX3_giveOddCells_71 : decode cX3_giveOddCells 71 = .ok (.invokevirtual 74, 3) := by decide +kernel
theorem dX3_giveOddCells_74 : decode cX3_giveOddCells 74 = .ok (.iinc 3 1, 3) := by decide +kernel
theorem dX3_giveOddCells_77 : decode cX3_giveOddCells 77 = .ok (.iinc 6 1, 3) := by decide +kernel
theorem dX3_giveOddCells_80 : decode cX3_giveOddCells 80 = .ok (.goto (-64), 3) := by decide +kernel
theorem dX3_giveOddCells_83 : decode cX3_giveOddCells 83 = .ok (.iload_n 3, 1) := by decide +kernel
theorem dX3_giveOddCells_84 : decode cX3_giveOddCells 84 = .ok (.ireturn, 1) := by decide +kernel
set_option maxRecDepth 20000 in
theorem ggX3_fillGaps_X0_isDone : GoodIn wsX3_fillGaps wsX0_isDone := goodIn_r _ [7, 8, 31, 32, 33, 34, 35, 36, 37, 38, 39, 40] (by decide +kernel) (by decide +kernel)
set_option maxRecDepth 20000 in
theorem gX3_fillGaps_X0_isDone : GoodIn wsX3_fillGaps (wsV RX3 104 RX0 yX0_isDone wsX0_isDone) := goodIn_app (goodIn_of _ (by decide +kernel)) ggX3_fillGaps_X0_isDone
set_option maxRecDepth 20000 in
theorem ggX3_fillGaps_X3_fillRound : GoodIn wsX3_fillGaps wsX3_fillRound := goodIn_r _ [13, 1, 2, 14, 15, 16, 12, 17, 18, 19, 20, 21, 22, 23, 24, 25, 26, 27, 28, 29, 30, 31, 32, 33, 34, 35, 36, 37, 38, 39, 40] (by decide +kernel) (by decide +kernel)
set_option maxRecDepth 20000 in
theorem gX3_fillGaps_X3_fillRound : GoodIn wsX3_fillGaps (wsV RX3 110 RX3 yX3_fillRound wsX3_fillRound) := goodIn_app (goodIn_of _ (by decide +kernel)) ggX3_fillGaps_X3_fillRound
theorem dX3_fillGaps_0 : decode cX3_fillGaps 0 = .ok (.aload_n 0, 1) := by decide +kernel
theorem dX3_fillGaps_1 : decode cX3_fillGaps 1 = .ok (.getfield 23, 3) := by decide +kernel
theorem dX3_fillGaps_4 : decode cX3_fillGaps 4 = .ok (.astore_n 1, 1) := by decide +kernel
theorem dX3_fillGaps_5 : decode cX3_fillGaps 5 = .ok (.aload_n 1, 1) := by decide +kernel
theorem dX3_fillGaps_6 : decode cX3_fillGaps 6 = .ok (.arraylength, 1) := by decide +kernel
theorem dX3_fillGaps_7 : decode cX3_fillGaps 7 = .ok (.istore_n 2, 1) := by decide +kernel
theorem dX3_fillGaps_8 : decode cX3_fillGaps 8 = .ok (.iconst 0, 1) := by decide +kernel
theorem dX3_fillGaps_9 : decode cX3_fillGaps 9 = .ok (.istore_n 3, 1) := by decide +kernel
theorem dX3_fillGaps_10 : decode cX3_fillGaps 10 = .ok (.iload_n 3, 1) := by decide +kernel
theorem dX3_fillGaps_11 : decode cX3_fillGaps 11 = .ok (.iload_n 2, 1) := by decide +kernel
theorem dX3_fillGaps_12 : decode cX3_fillGaps 12 = .ok (.if_icmp .ge 32, 3) := by decide +kernel
theorem dX3_fillGaps_15 : decode cX3_fillGaps 15 = .ok (.aload_n 1, 1) := by decide +kernel
theorem dX3_fillGaps_16 : decode cX3_fillGaps 16 = .ok (.iload_n 3, 1) := by decide +kernel
theorem dX3_fillGaps_17 : decode cX3_fillGaps 17 = .ok (.aaload, 1) := by decide +kernel
theorem dX3_fillGaps_18 : decode cX3_fillGaps 18 = .ok (.astore 4, 2) := by decide +kernel
theorem dX3_fillGaps_20 : decode cX3_fillGaps 20 = .ok (.aload 4, 2) := by decide +kernel
theorem dX3_fillGaps_22 : decode cX3_fillGaps 22 = .ok (.aload 4, 2) := by decide +kernel
theorem dX3_fillGaps_24 : decode cX3_fillGaps 24 = .ok (.invokevirtual 104, 3) := by decide +kernel
theorem dX3_fillGaps_27 : decode cX3_fillGaps 27 = .ok (.ifCond .eq 7, 3) := by decide +kernel
theorem dX3_fillGaps_30 : decode cX3_fillGaps 30 = .ok (.iconst 0, 1) := by decide +kernel
theorem dX3_fillGaps_31 : decode cX3_fillGaps 31 = .ok (.goto 4, 3) := by decide +kernel
theorem dX3_fillGaps_34 : decode cX3_fillGaps 34 = .ok (.iconst (-1), 1) := by decide +kernel
theorem dX3_fillGaps_35 : decode cX3_fillGaps 35 = .ok (.putfield 107, 3) := by decide +kernel
theorem dX3_fillGaps_38 : decode cX3_fillGaps 38 = .ok (.iinc 3 1, 3) := by decide +kernel
theorem dX3_fillGaps_41 : decode cX3_fillGaps 41 = .ok (.goto (-31), 3) := by decide +kernel
theorem dX3_fillGaps_44 : decode cX3_fillGaps 44 = .ok (.iconst 0, 1) := by decide +kernel
theorem dX3_fillGaps_45 : decode cX3_fillGaps 45 = .ok (.istore_n 1, 1) := by decide +kernel
theorem dX3_fillGaps_46 : decode cX3_fillGaps 46 = .ok (.iconst 1, 1) := by decide +kernel
theorem dX3_fillGaps_47 : decode cX3_fillGaps 47 = .ok (.istore_n 2, 1) := by decide +kernel
theorem dX3_fillGaps_48 : decode cX3_fillGaps 48 = .ok (.iload_n 2, 1) := by decide +kernel
theorem dX3_fillGaps_49 : decode cX3_fillGaps 49 = .ok (.aload_n 0, 1) := by decide +kernel
theorem dX3_fillGaps_50 : decode cX3_fillGaps 50 = .ok (.getfield 23, 3) := by decide +kernel
theorem dX3_fillGaps_53 : decode cX3_fillGaps 53 = .ok (.arraylength, 1) := by decide +kernel
theorem dX3_fillGaps_54 : decode cX3_fillGaps 54 = .ok (.if_icmp .gt 26, 3) := by decide +kernel
theorem dX3_fillGaps_57 : decode cX3_fillGaps 57 = .ok (.aload_n 0, 1) := by decide +kernel
theorem dX3_fillGaps_58 : decode cX3_fillGaps 58 = .ok (.iload_n 2, 1) := by decide +kernel
theorem dX3_fillGaps_59 : decode cX3_fillGaps 59 = .ok (.invokevirtual 110, 3) := by decide +kernel
theorem dX3_fillGaps_62 : decode cX3_fillGaps 62 = .ok (.istore_n 3, 1) := by decide +kernel
theorem dX3_fillGaps_63 : decode cX3_fillGaps 63 = .ok (.iload_n 3, 1) := by decide +kernel
theorem dX3_fillGaps_64 : decode cX3_fillGaps 64 = .ok (.ifCond .ne 6, 3) := by decide +kernel
theorem dX3_fillGaps_67 : decode cX3_fillGaps 67 = .ok (.goto 13, 3) := by decide +kernel
theorem dX3_fillGaps_70 : decode cX3_fillGaps 70 = .ok (.iload_n 1, 1) := by decide +kernel
theorem dX3_fillGaps_71 : decode cX3_fillGaps 71 = .ok (.iload_n 3, 1) := by decide +kernel
theorem dX3_fillGaps_72 : decode cX3_fillGaps 72 = .ok (.iadd, 1) := by decide +kernel
theorem dX3_fillGaps_73 : decode cX3_fillGaps 73 = .ok (.istore_n 1, 1) := by decide +kernel
theorem dX3_fillGaps_74 : decode cX3_fillGaps 74 = .ok (.iinc 2 1, 3) := by decide +kernel
theorem dX3_fillGaps_77 : decode cX3_fillGaps 77 = .ok (.goto (-29), 3) := by decide +kernel
theorem dX3_fillGaps_80 : decode cX3_fillGaps 80 = .ok (.iload_n 1, 1) := by decide +kernel
theorem dX3_fillGaps_81 : decode cX3_fillGaps 81 = .ok (.ireturn, 1) := by decide +kernel
set_option maxRecDepth 20000 in
theorem ggX3_fillRound_X3_fillCell : GoodIn wsX3_fillRound wsX3_fillCell := goodIn_r _ [7, 8, 9, 2, 10, 11, 12, 13, 6, 14, 15, 16, 1, 21, 22, 23, 24, 25, 26, 27, 28, 29, 30, 17, 18, 19, 20] (by decide +kernel) (by decide +kernel)
set_option maxRecDepth 20000 in
theorem gX3_fillRound_X3_fillCell : GoodIn wsX3_fillRound (wsV RX3 114 RX3 yX3_fillCell wsX3_fillCell) := goodIn_app (goodIn_of _ (by decide +kernel)) ggX3_fillRound_X3_fillCell
theorem dX3_fillRound_0 : decode cX3_fillRound 0 = .ok (.iconst 0, 1) := by decide +kernel
theorem dX3_fillRound_1 : decode cX3_fillRound 1 = .ok (.istore_n 2, 1) := by decide +kernel
theorem dX3_fillRound_2 : decode cX3_fillRound 2 = .ok (.aload_n 0, 1) := by decide +kernel
theorem dX3_fillRound_3 : decode cX3_fillRound 3 = .ok (.getfield 23, 3) := by decide +kernel
theorem dX3_fillRound_6 : decode cX3_fillRound 6 = .ok (.astore_n 3, 1) := by decide +kernel
theorem dX3_fillRound_7 : decode cX3_fillRound 7 = .ok (.aload_n 3, 1) := by decide +kernel
theorem dX3_fillRound_8 : decode cX3_fillRound 8 = .ok (.arraylength, 1) := by decide +kernel
theorem dX3_fillRound_9 : decode cX3_fillRound 9 = .ok (.istore 4, 2) := by decide +kernel
theorem dX3_fillRound_11 : decode cX3_fillRound 11 = .ok (.iconst 0, 1) := by decide +kernel
theorem dX3_fillRound_12 : decode cX3_fillRound 12 = .ok (.istore 5, 2) := by decide +kernel
theorem dX3_fillRound_14 : decode cX3_fillRound 14 = .ok (.iload 5, 2) := by decide +kernel
theorem dX3_fillRound_16 : decode cX3_fillRound 16 = .ok (.iload 4, 2) := by decide +kernel
theorem dX3_fillRound_18 : decode cX3_fillRound 18 = .ok (.if_icmp .ge 36, 3) := by decide +kernel
theorem dX3_fillRound_21 : decode cX3_fillRound 21 = .ok (.aload_n 3, 1) := by decide +kernel
theorem dX3_fillRound_22 : decode cX3_fillRound 22 = .ok (.iload 5, 2) := by decide +kernel
theorem dX3_fillRound_24 : decode cX3_fillRound 24 = .ok (.aaload, 1) := by decide +kernel
theorem dX3_fillRound_25 : decode cX3_fillRound 25 = .ok (.astore 6, 2) := by decide +kernel
theorem dX3_fillRound_27 : decode cX3_fillRound 27 = .ok (.aload 6, 2) := by decide +kernel
theorem dX3_fillRound_29 : decode cX3_fillRound 29 = .ok (.getfield 107, 3) := by decide +kernel
theorem dX3_fillRound_32 : decode cX3_fillRound 32 = .ok (.ifCond .ge 16, 3) := by decide +kernel
theorem dX3_fillRound_35 : decode cX3_fillRound 35 = .ok (.aload_n 0, 1) := by decide +kernel
theorem dX3_fillRound_36 : decode cX3_fillRound 36 = .ok (.aload 6, 2) := by decide +kernel
theorem dX3_fillRound_38 : decode cX3_fillRound 38 = .ok (.iload_n 1, 1) := by decide +kernel
theorem dX3_fillRound_39 : decode cX3_fillRound 39 = .ok (.invokevirtual 114, 3) := by decide +kernel
theorem dX3_fillRound_42 : decode cX3_fillRound 42 = .ok (.ifCond .eq 6, 3) := by decide +kernel
theorem dX3_fillRound_45 : decode cX3_fillRound 45 = .ok (.iinc 2 1, 3) := by decide +kernel
theorem dX3_fillRound_48 : decode cX3_fillRound 48 = .ok (.iinc 5 1, 3) := by decide +kernel
theorem dX3_fillRound_51 : decode cX3_fillRound 51 = .ok (.goto (-37), 3) := by decide +kernel
theorem dX3_fillRound_54 : decode cX3_fillRound 54 = .ok (.iload_n 2, 1) := by decide +kernel
theorem dX3_fillRound_55 : decode cX3_fillRound 55 = .ok (.ireturn, 1) := by decide +kernel
set_option maxRecDepth 20000 in
theorem ggX3_fillCell_X3_cellAt : GoodIn wsX3_fillCell wsX3_cellAt := goodIn_r _ [9, 10, 11, 12, 23, 24, 25, 26] (by decide +kernel) (by decide +kernel)
set_option maxRecDepth 20000 in
theorem gX3_fillCell_X3_cellAt : GoodIn wsX3_fillCell (wsV RX3 92 RX3 yX3_cellAt wsX3_cellAt) := goodIn_app (goodIn_of _ (by decide +kernel)) ggX3_fillCell_X3_cellAt
theorem dX3_fillCell_0 : decode cX3_fillCell 0 = .ok (.fconst 0, 1) := by decide +kernel
theorem dX3_fillCell_1 : decode cX3_fillCell 1 = .ok (.fstore_n 3, 1) := by decide +kernel
theorem dX3_fillCell_2 : decode cX3_fillCell 2 = .ok (.iconst 0, 1) := by decide +kernel
theorem dX3_fillCell_3 : decode cX3_fillCell 3 = .ok (.istore 4, 2) := by decide +kernel
theorem dX3_fillCell_5 : decode cX3_fillCell 5 = .ok (.aload_n 1, 1) := by decide +kernel
theorem dX3_fillCell_6 : decode cX3_fillCell 6 = .ok (.getfield 81, 3) := by decide +kernel
theorem dX3_fillCell_9 : decode cX3_fillCell 9 = .ok (.iconst 1, 1) := by decide +kernel
theorem dX3_fillCell_10 : decode cX3_fillCell 10 = .ok (.isub, 1) := by decide +kernel
theorem dX3_fillCell_11 : decode cX3_fillCell 11 = .ok (.istore 5, 2) := by decide +kernel
theorem dX3_fillCell_13 : decode cX3_fillCell 13 = .ok (.iload 5, 2) := by decide +kernel
theorem dX3_fillCell_15 : decode cX3_fillCell 15 = .ok (.aload_n 1, 1) := by decide +kernel
theorem dX3_fillCell_16 : decode cX3_fillCell 16 = .ok (.getfield 81, 3) := by decide +kernel
theorem dX3_fillCell_19 : decode cX3_fillCell 19 = .ok (.iconst 1, 1) := by decide +kernel
theorem dX3_fillCell_20 : decode cX3_fillCell 20 = .ok (.iadd, 1) := by decide +kernel
theorem dX3_fillCell_21 : decode cX3_fillCell 21 = .ok (.if_icmp .gt 78, 3) := by decide +kernel
theorem dX3_fillCell_24 : decode cX3_fillCell 24 = .ok (.aload_n 1, 1) := by decide +kernel
theorem dX3_fillCell_25 : decode cX3_fillCell 25 = .ok (.getfield 78, 3) := by decide +kernel
theorem dX3_fillCell_28 : decode cX3_fillCell 28 = .ok (.iconst 1, 1) := by decide +kernel
theorem dX3_fillCell_29 : decode cX3_fillCell 29 = .ok (.isub, 1) := by decide +kernel
theorem dX3_fillCell_30 : decode cX3_fillCell 30 = .ok (.istore 6, 2) := by decide +kernel
theorem dX3_fillCell_32 : decode cX3_fillCell 32 = .ok (.iload 6, 2) := by decide +kernel
theorem dX3_fillCell_34 : decode cX3_fillCell 34 = .ok (.aload_n 1, 1) := by decide +kernel
theorem dX3_fillCell_35 : decode cX3_fillCell 35 = .ok (.getfield 78, 3) := by decide +kernel
theorem dX3_fillCell_38 : decode cX3_fillCell 38 = .ok (.iconst 1, 1) := by decide +kernel
theorem dX3_fillCell_39 : decode cX3_fillCell 39 = .ok (.iadd, 1) := by decide +kernel
theorem dX3_fillCell_40 : decode cX3_fillCell 40 = .ok (.if_icmp .gt 53, 3) := by decide +kernel
theorem dX3_fillCell_43 : decode cX3_fillCell 43 = .ok (.aload_n 0, 1) := by decide +kernel
theorem dX3_fillCell_44 : decode cX3_fillCell 44 = .ok (.iload 6, 2) := by decide +kernel
theorem dX3_fillCell_46 : decode cX3_fillCell 46 = .ok (.iload 5, 2) := by decide +kernel
theorem dX3_fillCell_48 : decode cX3_fillCell 48 = .ok (.invokevirtual 92, 3) := by decide +kernel
theorem dX3_fillCell_51 : decode cX3_fillCell 51 = .ok (.astore 7, 2) := by decide +kernel
theorem dX3_fillCell_53 : decode cX3_fillCell 53 = .ok (.aload 7, 2) := by decide +kernel
theorem dX3_fillCell_55 : decode cX3_fillCell 55 = .ok (.ifnull 32, 3) := by decide +kernel
theorem dX3_fillCell_58 : decode cX3_fillCell 58 = .ok (.aload 7, 2) := by decide +kernel
theorem dX3_fillCell_60 : decode cX3_fillCell 60 = .ok (.getfield 107, 3) := by decide +kernel
theorem dX3_fillCell_63 : decode cX3_fillCell 63 = .ok (.ifCond .lt 24, 3) := by decide +kernel
theorem dX3_fillCell_66 : decode cX3_fillCell 66 = .ok (.aload 7, 2) := by decide +kernel
theorem dX3_fillCell_68 : decode cX3_fillCell 68 = .ok (.getfield 107, 3) := by decide +kernel
theorem dX3_fillCell_71 : decode cX3_fillCell 71 = .ok (.iload_n 2, 1) := by decide +kernel
theorem dX3_fillCell_72 : decode cX3_fillCell 72 = .ok (.if_icmp .ge 15, 3) := by decide +kernel
theorem dX3_fillCell_75 : decode cX3_fillCell 75 = .ok (.fload_n 3, 1) := by decide +kernel
theorem dX3_fillCell_76 : decode cX3_fillCell 76 = .ok (.aload 7, 2) := by decide +kernel
theorem dX3_fillCell_78 : decode cX3_fillCell 78 = .ok (.getfield 39, 3) := by decide +kernel
theorem dX3_fillCell_81 : decode cX3_fillCell 81 = .ok (.i2f, 1) := by decide +kernel
theorem dX3_fillCell_82 : decode cX3_fillCell 82 = .ok (.fadd, 1) := by decide +kernel
theorem dX3_fillCell_83 : decode cX3_fillCell 83 = .ok (.fstore_n 3, 1) := by decide +kernel
theorem dX3_fillCell_84 : decode cX3_fillCell 84 = .ok (.iinc 4 1, 3) := by decide +kernel
theorem dX3_fillCell_87 : decode cX3_fillCell 87 = .ok (.iinc 6 1, 3) := by decide +kernel
theorem dX3_fillCell_90 : decode cX3_fillCell 90 = .ok (.goto (-58), 3) := by decide +kernel
theorem dX3_fillCell_93 : decode cX3_fillCell 93 = .ok (.iinc 5 1, 3) := by decide +kernel
theorem dX3_fillCell_96 : decode cX3_fillCell 96 = .ok (.goto (-83), 3) := by decide +kernel
theorem dX3_fillCell_99 : decode cX3_fillCell 99 = .ok (.iload 4, 2) := by decide +kernel
theorem dX3_fillCell_101 : decode cX3_fillCell 101 = .ok (.ifCond .ne 5, 3) := by decide +kernel
theorem dX3_fillCell_104 : decode cX3_fillCell 104 = .ok (.iconst 0, 1) := by decide +kernel
theorem dX3_fillCell_105 : decode cX3_fillCell 105 = .ok (.ireturn, 1) := by decide +kernel
theorem dX3_fillCell_106 : decode cX3_fillCell 106 = .ok (.aload_n 1, 1) := by decide +kernel
theorem dX3_fillCell_107 : decode cX3_fillCell 107 = .ok (.fload_n 3, 1) := by decide +kernel
theorem dX3_fillCell_108 : decode cX3_fillCell 108 = .ok (.iload 4, 2) := by decide +kernel
theorem dX3_fillCell_110 : decode cX3_fillCell 110 = .ok (.i2f, 1) := by decide +kernel
theorem dX3_fillCell_111 : decode cX3_fillCell 111 = .ok (.fdiv, 1) := by decide +kernel
theorem dX3_fillCell_112 : decode cX3_fillCell 112 = .ok (.f2i, 1) := by decide +kernel
theorem dX3_fillCell_113 : decode cX3_fillCell 113 = .ok (.putfield 39, 3) := by decide +kernel
theorem dX3_fillCell_116 : decode cX3_fillCell 116 = .ok (.aload_n 1, 1) := by decide +kernel
theorem dX3_fillCell_117 : decode cX3_fillCell 117 = .ok (.iload_n 2, 1) := by decide +kernel
theorem dX3_fillCell_118 : decode cX3_fillCell 118 = .ok (.putfield 107, 3) := by decide +kernel
theorem dX3_fillCell_121 : decode cX3_fillCell 121 = .ok (.iconst 1, 1) := by decide +kernel
theorem dX3_fillCell_122 : decode cX3_fillCell 122 = .ok (.ireturn, 1) := by decide +kernel
set_option maxRecDepth 20000 in
theorem ggX3_firstUndone_X0_isDone : GoodIn wsX3_firstUndone wsX0_isDone := goodIn_r _ [6, 7, 12, 13, 14, 15, 16, 17, 18, 19, 20, 21] (by decide +kernel) (by decide +kernel)
set_option maxRecDepth 20000 in
theorem gX3_firstUndone_X0_isDone : GoodIn wsX3_firstUndone (wsV RX3 104 RX0 yX0_isDone wsX0_isDone) := goodIn_app (goodIn_of _ (by decide +kernel)) ggX3_firstUndone_X0_isDone
theorem dX3_firstUndone_0 : decode cX3_firstUndone 0 = .ok (.aload_n 0, 1) := by decide +kernel
theorem dX3_firstUndone_1 : decode cX3_firstUndone 1 = .ok (.getfield 23, 3) := by decide +kernel
theorem dX3_firstUndone_4 : decode cX3_firstUndone 4 = .ok (.astore_n 1, 1) := by decide +kernel
theorem dX3_firstUndone_5 : decode cX3_firstUndone 5 = .ok (.aload_n 1, 1) := by decide +kernel
theorem dX3_firstUndone_6 : decode cX3_firstUndone 6 = .ok (.arraylength, 1) := by decide +kernel
theorem dX3_firstUndone_7 : decode cX3_firstUndone 7 = .ok (.istore_n 2, 1) := by decide +kernel
theorem dX3_firstUndone_8 : decode cX3_firstUndone 8 = .ok (.iconst 0, 1) := by decide +kernel
theorem dX3_firstUndone_9 : decode cX3_firstUndone 9 = .ok (.istore_n 3, 1) := by decide +kernel
theorem dX3_firstUndone_10 : decode cX3_firstUndone 10 = .ok (.iload_n 3, 1) := by decide +kernel
theorem dX3_firstUndone_11 : decode cX3_firstUndone 11 = .ok (.iload_n 2, 1) := by decide +kernel
theorem dX3_firstUndone_12 : decode cX3_firstUndone 12 = .ok (.if_icmp .ge 25, 3) := by decide +kernel
theorem dX3_firstUndone_15 : decode cX3_firstUndone 15 = .ok (.aload_n 1, 1) := by decide +kernel
theorem dX3_firstUndone_16 : decode cX3_firstUndone 16 = .ok (.iload_n 3, 1) := by decide +kernel
theorem dX3_firstUndone_17 : decode cX3_firstUndone 17 = .ok (.aaload, 1) := by decide +kernel
theorem dX3_firstUndone_18 : decode cX3_firstUndone 18 = .ok (.astore 4, 2) := by decide +kernel
theorem dX3_firstUndone_20 : decode cX3_firstUndone 20 = .ok (.aload 4, 2) := by decide +kernel
theorem dX3_firstUndone_22 : decode cX3_firstUndone 22 = .ok (.invokevirtual 104, 3) := by decide +kernel
theorem dX3_firstUndone_25 : decode cX3_firstUndone 25 = .ok (.ifCond .ne 6, 3) := by decide +kernel
theorem dX3_firstUndone_28 : decode cX3_firstUndone 28 = .ok (.aload 4, 2) := by decide +kernel
theorem dX3_firstUndone_30 : decode cX3_firstUndone 30 = .ok (.areturn, 1) := by decide +kernel
theorem dX3_firstUndone_31 : decode cX3_firstUndone 31 = .ok (.iinc 3 1, 3) := by decide +kernel
theorem dX3_firstUndone_34 : decode cX3_firstUndone 34 = .ok (.goto (-24), 3) := by decide +kernel
theorem dX3_firstUndone_37 : decode cX3_firstUndone 37 = .ok (.aconst_null, 1) := by decide +kernel
theorem dX3_firstUndone_38 : decode cX3_firstUndone 38 = .ok (.areturn, 1) := by decide +kernel
set_option maxRecDepth 20000 in
theorem ggX3_isDryRow_X3_cellAt : GoodIn wsX3_isDryRow wsX3_cellAt := goodIn_r _ [9, 1, 10, 11, 18, 19, 20, 21] (by decide +kernel) (by decide +kernel)
set_option maxRecDepth 20000 in
theorem gX3_isDryRow_X3_cellAt : GoodIn wsX3_isDryRow (wsV RX3 92 RX3 yX3_cellAt wsX3_cellAt) := goodIn_app (goodIn_of _ (by decide +kernel)) ggX3_isDryRow_X3_cellAt
set_option maxRecDepth 20000 in
theorem ggX3_isDryRow_X0_isDone : GoodIn wsX3_isDryRow wsX0_isDone := goodIn_r _ [16, 17, 22, 23, 24, 25, 26, 27, 28, 29, 30, 31] (by decide +kernel) (by decide +kernel)
set_option maxRecDepth 20000 in
theorem gX3_isDryRow_X0_isDone : GoodIn wsX3_isDryRow (wsV RX3 104 RX0 yX0_isDone wsX0_isDone) := goodIn_app (goodIn_of _ (by decide +kernel)) ggX3_isDryRow_X0_isDone
theorem dX3_isDryRow_0 : decode cX3_isDryRow 0 = .ok (.aconst_null, 1) := by decide +kernel
theorem dX3_isDryRow_1 : decode cX3_isDryRow 1 = .ok (.astore_n 3, 1) := by decide +kernel
theorem dX3_isDryRow_2 : decode cX3_isDryRow 2 = .ok (.iconst 0, 1) := by decide +kernel
theorem dX3_isDryRow_3 : decode cX3_isDryRow 3 = .ok (.istore 4, 2) := by decide +kernel
theorem dX3_isDryRow_5 : decode cX3_isDryRow 5 = .ok (.iload 4, 2) := by decide +kernel
theorem dX3_isDryRow_7 : decode cX3_isDryRow 7 = .ok (.aload_n 0, 1) := by decide +kernel
theorem dX3_isDryRow_8 : decode cX3_isDryRow 8 = .ok (.getfield 15, 3) := by decide +kernel
theorem dX3_isDryRow_11 : decode cX3_isDryRow 11 = .ok (.if_icmp .ge 61, 3) := by decide +kernel
theorem dX3_isDryRow_14 : decode cX3_isDryRow 14 = .ok (.aload_n 0, 1) := by decide +kernel
theorem dX3_isDryRow_15 : decode cX3_isDryRow 15 = .ok (.iload 4, 2) := by decide +kernel
theorem dX3_isDryRow_17 : decode cX3_isDryRow 17 = .ok (.iload_n 1, 1) := by decide +kernel
theorem dX3_isDryRow_18 : decode cX3_isDryRow 18 = .ok (.invokevirtual 92, 3) := by decide +kernel
theorem dX3_isDryRow_21 : decode cX3_isDryRow 21 = .ok (.astore 5, 2) := by decide +kernel
theorem dX3_isDryRow_23 : decode cX3_isDryRow 23 = .ok (.aload 5, 2) := by decide +kernel
theorem dX3_isDryRow_25 : decode cX3_isDryRow 25 = .ok (.ifnull 41, 3) := by decide +kernel
theorem dX3_isDryRow_28 : decode cX3_isDryRow 28 = .ok (.aload 5, 2) := by decide +kernel
theorem dX3_isDryRow_30 : decode cX3_isDryRow 30 = .ok (.invokevirtual 104, 3) := by decide +kernel
theorem dX3_isDryRow_33 : decode cX3_isDryRow 33 = .ok (.ifCond .ne 5, 3) := by decide +kernel
theorem dX3_isDryRow_36 : decode cX3_isDryRow 36 = .ok (.iconst 0, 1) := by decide +kernel
theorem dX3_isDryRow_37 : decode cX3_isDryRow 37 = .ok (.ireturn, 1) := by decide +kernel
theorem dX3_isDryRow_38 : decode cX3_isDryRow 38 = .ok (.aload 5, 2) := by decide +kernel
theorem dX3_isDryRow_40 : decode cX3_isDryRow 40 = .ok (.getfield 30, 3) := by decide +kernel
theorem dX3_isDryRow_43 : decode cX3_isDryRow 43 = .ok (.iconst 2, 1) := by decide +kernel
theorem dX3_isDryRow_44 : decode cX3_isDryRow 44 = .ok (.if_icmp .ne 22, 3) := by decide +kernel
theorem dX3_isDryRow_47 : decode cX3_isDryRow 47 = .ok (.aload_n 3, 1) := by decide +kernel
theorem dX3_isDryRow_48 : decode cX3_isDryRow 48 = .ok (.ifnull 15, 3) := by decide +kernel
theorem dX3_isDryRow_51 : decode cX3_isDryRow 51 = .ok (.aload 5, 2) := by decide +kernel
theorem dX3_isDryRow_53 : decode cX3_isDryRow 53 = .ok (.getfield 118, 3) := by decide +kernel
theorem dX3_isDryRow_56 : decode cX3_isDryRow 56 = .ok (.aload_n 3, 1) := by decide +kernel
theorem dX3_isDryRow_57 : decode cX3_isDryRow 57 = .ok (.getfield 118, 3) := by decide +kernel
theorem dX3_isDryRow_60 : decode cX3_isDryRow 60 = .ok (.if_icmp .lt 6, 3) := by decide +kernel
theorem dX3_isDryRow_63 : decode cX3_isDryRow 63 = .ok (.aload 5, 2) := by decide +kernel
theorem dX3_isDryRow_65 : decode cX3_isDryRow 65 = .ok (.astore_n 3, 1) := by decide +kernel
theorem dX3_isDryRow_66 : decode cX3_isDryRow 66 = .ok (.iinc 4 1, 3) := by decide +kernel
theorem dX3_isDryRow_69 : decode cX3_isDryRow 69 = .ok (.goto (-64), 3) := by decide +kernel
theorem dX3_isDryRow_72 : decode cX3_isDryRow 72 = .ok (.aload_n 3, 1) := by decide +kernel
theorem dX3_isDryRow_73 : decode cX3_isDryRow 73 = .ok (.ifnull 11, 3) := by decide +kernel
theorem dX3_isDryRow_76 : decode cX3_isDryRow 76 = .ok (.iload_n 2, 1) := by decide +kernel
theorem dX3_isDryRow_77 : decode cX3_isDryRow 77 = .ok (.aload_n 3, 1) := by decide +kernel
theorem dX3_isDryRow_78 : decode cX3_isDryRow 78 = .ok (.getfield 121, 3) := by decide +kernel
theorem dX3_isDryRow_81 : decode cX3_isDryRow 81 = .ok (.if_icmp .lt 7, 3) := by decide +kernel
theorem dX3_isDryRow_84 : decode cX3_isDryRow 84 = .ok (.iconst 1, 1) := by decide +kernel
theorem dX3_isDryRow_85 : decode cX3_isDryRow 85 = .ok (.goto 4, 3) := by decide +kernel
theorem dX3_isDryRow_88 : decode cX3_isDryRow 88 = .ok (.iconst 0, 1) := by decide +kernel
theorem dX3_isDryRow_89 : decode cX3_isDryRow 89 = .ok (.ireturn, 1) := by decide +kernel
set_option maxRecDepth 20000 in
theorem ggX3_greatestEdge_X3_cellAt : GoodIn wsX3_greatestEdge wsX3_cellAt := goodIn_r _ [8, 9, 10, 1, 27, 28, 29, 30] (by decide +kernel) (by decide +kernel)
set_option maxRecDepth 20000 in
theorem gX3_greatestEdge_X3_cellAt : GoodIn wsX3_greatestEdge (wsV RX3 92 RX3 yX3_cellAt wsX3_cellAt) := goodIn_app (goodIn_of _ (by decide +kernel)) ggX3_greatestEdge_X3_cellAt
set_option maxRecDepth 20000 in
theorem ggX3_greatestEdge_X3_edgeBetween : GoodIn wsX3_greatestEdge wsX3_edgeBetween := goodIn_r _ [13, 14, 15, 16, 17, 18, 19, 20, 21, 22, 23, 24, 25, 7, 26, 31, 32, 33, 34, 35, 36, 37, 38, 39, 40, 41, 42, 43, 44, 45, 46, 47] (by decide +kernel) (by decide +kernel)
set_option maxRecDepth 20000 in
theorem gX3_greatestEdge_X3_edgeBetween : GoodIn wsX3_greatestEdge (va_wsS RX3 124 yX3_edgeBetween wsX3_edgeBetween) := goodIn_app (goodIn_of _ (by decide +kernel)) ggX3_greatestEdge_X3_edgeBetween
theorem dX3_greatestEdge_0 : decode cX3_greatestEdge 0 = .ok (.fconst 0, 1) := by decide +kernel
theorem dX3_greatestEdge_1 : decode cX3_greatestEdge 1 = .ok (.fstore_n 1, 1) := by decide +kernel
theorem dX3_greatestEdge_2 : decode cX3_greatestEdge 2 = .ok (.aload_n 0, 1) := by decide +kernel
theorem dX3_greatestEdge_3 : decode cX3_greatestEdge 3 = .ok (.getfield 23, 3) := by decide +kernel
theorem dX3_greatestEdge_6 : decode cX3_greatestEdge 6 = .ok (.astore_n 2, 1) := by decide +kernel
theorem dX3_greatestEdge_7 : decode cX3_greatestEdge 7 = .ok (.aload_n 2, 1) := by decide +kernel
theorem dX3_greatestEdge_8 : decode cX3_greatestEdge 8 = .ok (.arraylength, 1) := by decide +kernel
theorem dX3_greatestEdge_9 : decode cX3_greatestEdge 9 = .ok (.istore_n 3, 1) := by decide +kernel
theorem dX3_greatestEdge_10 : decode cX3_greatestEdge 10 = .ok (.iconst 0, 1) := by decide +kernel
theorem dX3_greatestEdge_11 : decode cX3_greatestEdge 11 = .ok (.istore 4, 2) := by decide +kernel
theorem dX3_greatestEdge_13 : decode cX3_greatestEdge 13 = .ok (.iload 4, 2) := by decide +kernel
theorem dX3_greatestEdge_15 : decode cX3_greatestEdge 15 = .ok (.iload_n 3, 1) := by decide +kernel
theorem dX3_greatestEdge_16 : decode cX3_greatestEdge 16 = .ok (.if_icmp .ge 88, 3) := by decide +kernel
theorem dX3_greatestEdge_19 : decode cX3_greatestEdge 19 = .ok (.aload_n 2, 1) := by decide +kernel
theorem dX3_greatestEdge_20 : decode cX3_greatestEdge 20 = .ok (.iload 4, 2) := by decide +kernel
theorem dX3_greatestEdge_22 : decode cX3_greatestEdge 22 = .ok (.aaload, 1) := by decide +kernel
theorem dX3_greatestEdge_23 : decode cX3_greatestEdge 23 = .ok (.astore 5, 2) := by decide +kernel
theorem dX3_greatestEdge_25 : decode cX3_greatestEdge 25 = .ok (.aload 5, 2) := by decide +kernel
theorem dX3_greatestEdge_27 : decode cX3_greatestEdge 27 = .ok (.aload_n 0, 1) := by decide +kernel
theorem dX3_greatestEdge_28 : decode cX3_greatestEdge 28 = .ok (.aload 5, 2) := by decide +kernel
theorem dX3_greatestEdge_30 : decode cX3_greatestEdge 30 = .ok (.getfield 78, 3) := by decide +kernel
theorem dX3_greatestEdge_33 : decode cX3_greatestEdge 33 = .ok (.iconst 1, 1) := by decide +kernel
theorem dX3_greatestEdge_34 : decode cX3_greatestEdge 34 = .ok (.iadd, 1) := by decide +kernel
theorem dX3_greatestEdge_35 : decode cX3_greatestEdge 35 = .ok (.aload 5, 2) := by decide +kernel
theorem dX3_greatestEdge_37 : decode cX3_greatestEdge 37 = .ok (.getfield 81, 3) := by decide +kernel
theorem dX3_greatestEdge_40 : decode cX3_greatestEdge 40 = .ok (.invokevirtual 92, 3) := by decide +kernel
theorem dX3_greatestEdge_43 : decode cX3_greatestEdge 43 = .ok (.invokestatic 124, 3) := by decide +kernel
theorem dX3_greatestEdge_46 : decode cX3_greatestEdge 46 = .ok (.fstore 6, 2) := by decide +kernel
theorem dX3_greatestEdge_48 : decode cX3_greatestEdge 48 = .ok (.aload 5, 2) := by decide +kernel
theorem dX3_greatestEdge_50 : decode cX3_greatestEdge 50 = .ok (.aload_n 0, 1) := by decide +kernel
theorem dX3_greatestEdge_51 : decode cX3_greatestEdge 51 = .ok (.aload 5, 2) := by decide +kernel
theorem dX3_greatestEdge_53 : decode cX3_greatestEdge 53 = .ok (.getfield 78, 3) := by decide +kernel
theorem dX3_greatestEdge_56 : decode cX3_greatestEdge 56 = .ok (.aload 5, 2) := by decide +kernel
theorem dX3_greatestEdge_58 : decode cX3_greatestEdge 58 = .ok (.getfield 81, 3) := by decide +kernel
theorem dX3_greatestEdge_61 : decode cX3_greatestEdge 61 = .ok (.iconst 1, 1) := by decide +kernel
theorem dX3_greatestEdge_62 : decode cX3_greatestEdge 62 = .ok (.iadd, 1) := by decide +kernel
theorem dX3_greatestEdge_63 : decode cX3_greatestEdge 63 = .ok (.invokevirtual 92, 3) := by decide +kernel
theorem dX3_greatestEdge_66 : decode cX3_greatestEdge 66 = .ok (.invokestatic 124, 3) := by decide +kernel
theorem dX3_greatestEdge_69 : decode cX3_greatestEdge 69 = .ok (.fstore 7, 2) := by decide +kernel
theorem dX3_greatestEdge_71 : decode cX3_greatestEdge 71 = .ok (.fload 6, 2) := by decide +kernel
theorem dX3_greatestEdge_73 : decode cX3_greatestEdge 73 = .ok (.fload 7, 2) := by decide +kernel
theorem dX3_greatestEdge_75 : decode cX3_greatestEdge 75 = .ok (.fcmp .l, 1) := by decide +kernel
theorem dX3_greatestEdge_76 : decode cX3_greatestEdge 76 = .ok (.ifCond .lt 8, 3) := by decide +kernel
theorem dX3_greatestEdge_79 : decode cX3_greatestEdge 79 = .ok (.fload 6, 2) := by decide +kernel
theorem dX3_greatestEdge_81 : decode cX3_greatestEdge 81 = .ok (.goto 5, 3) := by decide +kernel
theorem dX3_greatestEdge_84 : decode cX3_greatestEdge 84 = .ok (.fload 7, 2) := by decide +kernel
theorem dX3_greatestEdge_86 : decode cX3_greatestEdge 86 = .ok (.fstore 8, 2) := by decide +kernel
theorem dX3_greatestEdge_88 : decode cX3_greatestEdge 88 = .ok (.fload 8, 2) := by decide +kernel
theorem dX3_greatestEdge_90 : decode cX3_greatestEdge 90 = .ok (.fload_n 1, 1) := by decide +kernel
theorem dX3_greatestEdge_91 : decode cX3_greatestEdge 91 = .ok (.fcmp .l, 1) := by decide +kernel
theorem dX3_greatestEdge_92 : decode cX3_greatestEdge 92 = .ok (.ifCond .le 6, 3) := by decide +kernel
theorem dX3_greatestEdge_95 : decode cX3_greatestEdge 95 = .ok (.fload 8, 2) := by decide +kernel
theorem dX3_greatestEdge_97 : decode cX3_greatestEdge 97 = .ok (.fstore_n 1, 1) := by decide +kernel
theorem dX3_greatestEdge_98 : decode cX3_greatestEdge 98 = .ok (.iinc 4 1, 3) := by decide +kernel
theorem dX3_greatestEdge_101 : decode cX3_greatestEdge 101 = .ok (.goto (-88), 3) := by decide +kernel
theorem dX3_greatestEdge_104 : decode cX3_greatestEdge 104 = .ok (.fload_n 1, 1) := by decide +kernel
theorem dX3_greatestEdge_105 : decode cX3_greatestEdge 105 = .ok (.freturn, 1) := by decide +kernel
set_option maxRecDepth 20000 in
theorem ggX3_edgeBetween_X0_stoneTone : GoodIn wsX3_edgeBetween wsX0_stoneTone := goodIn_r _ [7, 8, 9, 10, 15, 16, 17, 18, 19, 20, 21, 22, 23, 24, 25, 26, 27, 28, 29, 30, 31] (by decide +kernel) (by decide +kernel)
set_option maxRecDepth 20000 in
theorem gX3_edgeBetween_X0_stoneTone : GoodIn wsX3_edgeBetween (wsV RX3 128 RX0 yX0_stoneTone wsX0_stoneTone) := goodIn_app (goodIn_of _ (by decide +kernel)) ggX3_edgeBetween_X0_stoneTone
set_option maxRecDepth 20000 in
theorem ggX3_edgeBetween_X3_distance : GoodIn wsX3_edgeBetween wsX3_distance := goodIn_r _ [14] (by decide +kernel) (by decide +kernel)
set_option maxRecDepth 20000 in
theorem gX3_edgeBetween_X3_distance : GoodIn wsX3_edgeBetween (va_wsS RX3 70 yX3_distance wsX3_distance) := goodIn_app (goodIn_of _ (by decide +kernel)) ggX3_edgeBetween_X3_distance
theorem dX3_edgeBetween_0 : decode cX3_edgeBetween 0 = .ok (.aload_n 1, 1) := by decide +kernel
theorem dX3_edgeBetween_1 : decode cX3_edgeBetween 1 = .ok (.ifnull 17, 3) := by decide +kernel
theorem dX3_edgeBetween_4 : decode cX3_edgeBetween 4 = .ok (.aload_n 0, 1) := by decide +kernel
theorem dX3_edgeBetween_5 : decode cX3_edgeBetween 5 = .ok (.getfield 30, 3) := by decide +kernel
theorem dX3_edgeBetween_8 : decode cX3_edgeBetween 8 = .ok (.ifCond .eq 10, 3) := by decide +kernel
theorem dX3_edgeBetween_11 : decode cX3_edgeBetween 11 = .ok (.aload_n 1, 1) := by decide +kernel
theorem dX3_edgeBetween_12 : decode cX3_edgeBetween 12 = .ok (.getfield 30, 3) := by decide +kernel
theorem dX3_edgeBetween_15 : decode cX3_edgeBetween 15 = .ok (.ifCond .ne 5, 3) := by decide +kernel
theorem dX3_edgeBetween_18 : decode cX3_edgeBetween 18 = .ok (.fconst 0, 1) := by decide +kernel
theorem dX3_edgeBetween_19 : decode cX3_edgeBetween 19 = .ok (.freturn, 1) := by decide +kernel
theorem dX3_edgeBetween_20 : decode cX3_edgeBetween 20 = .ok (.aload_n 0, 1) := by decide +kernel
theorem dX3_edgeBetween_21 : decode cX3_edgeBetween 21 = .ok (.invokevirtual 128, 3) := by decide +kernel
theorem dX3_edgeBetween_24 : decode cX3_edgeBetween 24 = .ok (.aload_n 1, 1) := by decide +kernel
theorem dX3_edgeBetween_25 : decode cX3_edgeBetween 25 = .ok (.invokevirtual 128, 3) := by decide +kernel
theorem dX3_edgeBetween_28 : decode cX3_edgeBetween 28 = .ok (.fsub, 1) := by decide +kernel
theorem dX3_edgeBetween_29 : decode cX3_edgeBetween 29 = .ok (.fstore_n 2, 1) := by decide +kernel
theorem dX3_edgeBetween_30 : decode cX3_edgeBetween 30 = .ok (.aload_n 0, 1) := by decide +kernel
theorem dX3_edgeBetween_31 : decode cX3_edgeBetween 31 = .ok (.getfield 39, 3) := by decide +kernel
theorem dX3_edgeBetween_34 : decode cX3_edgeBetween 34 = .ok (.i2f, 1) := by decide +kernel
theorem dX3_edgeBetween_35 : decode cX3_edgeBetween 35 = .ok (.aload_n 1, 1) := by decide +kernel
theorem dX3_edgeBetween_36 : decode cX3_edgeBetween 36 = .ok (.getfield 39, 3) := by decide +kernel
theorem dX3_edgeBetween_39 : decode cX3_edgeBetween 39 = .ok (.i2f, 1) := by decide +kernel
theorem dX3_edgeBetween_40 : decode cX3_edgeBetween 40 = .ok (.fsub, 1) := by decide +kernel
theorem dX3_edgeBetween_41 : decode cX3_edgeBetween 41 = .ok (.fstore_n 3, 1) := by decide +kernel
theorem dX3_edgeBetween_42 : decode cX3_edgeBetween 42 = .ok (.fload_n 2, 1) := by decide +kernel
theorem dX3_edgeBetween_43 : decode cX3_edgeBetween 43 = .ok (.fload_n 3, 1) := by decide +kernel
theorem dX3_edgeBetween_44 : decode cX3_edgeBetween 44 = .ok (.invokestatic 70, 3) := by decide +kernel
theorem dX3_edgeBetween_47 : decode cX3_edgeBetween 47 = .ok (.freturn, 1) := by decide +kernel
set_option maxRecDepth 20000 in
theorem ggX4_init_X1_init : GoodIn wsX4_init wsX1_init := goodIn_r _ [13, 14, 2, 3, 15, 16, 17, 18, 19, 26, 27, 28, 29, 30, 31, 32] (by decide +kernel) (by decide +kernel)
set_option maxRecDepth 20000 in
theorem gX4_init_X1_init_n27 : GoodIn wsX4_init (wsX1_init) := ggX4_init_X1_init
theorem dX4_init_0 : decode cX4_init 0 = .ok (.aload_n 0, 1) := by decide +kernel
theorem dX4_init_1 : decode cX4_init 1 = .ok (.invokespecial 1, 3) := by decide +kernel
theorem dX4_init_4 : decode cX4_init 4 = .ok (.aload_n 0, 1) := by decide +kernel
theorem dX4_init_5 : decode cX4_init 5 = .ok (.bipush 12, 2) := by decide +kernel
theorem dX4_init_7 : decode cX4_init 7 = .ok (.anewarray 9, 3) := by decide +kernel
theorem dX4_init_10 : decode cX4_init 10 = .ok (.putfield 11, 3) := by decide +kernel
theorem dX4_init_13 : decode cX4_init 13 = .ok (.aload_n 0, 1) := by decide +kernel
theorem dX4_init_14 : decode cX4_init 14 = .ok (.iconst 5, 1) := by decide +kernel
theorem dX4_init_15 : decode cX4_init 15 = .ok (.anewarray 15, 3) := by decide +kernel
theorem dX4_init_18 : decode cX4_init 18 = .ok (.putfield 17, 3) := by decide +kernel
theorem dX4_init_21 : decode cX4_init 21 = .ok (.aload_n 0, 1) := by decide +kernel
theorem dX4_init_22 : decode cX4_init 22 = .ok (.iconst 3, 1) := by decide +kernel
theorem dX4_init_23 : decode cX4_init 23 = .ok (.anewarray 21, 3) := by decide +kernel
theorem dX4_init_26 : decode cX4_init 26 = .ok (.putfield 23, 3) := by decide +kernel
theorem dX4_init_29 : decode cX4_init 29 = .ok (.iconst 0, 1) := by decide +kernel
theorem dX4_init_30 : decode cX4_init 30 = .ok (.istore_n 1, 1) := by decide +kernel
theorem dX4_init_31 : decode cX4_init 31 = .ok (.iload_n 1, 1) := by decide +kernel
theorem dX4_init_32 : decode cX4_init 32 = .ok (.aload_n 0, 1) := by decide +kernel
theorem dX4_init_33 : decode cX4_init 33 = .ok (.getfield 23, 3) := by decide +kernel
theorem dX4_init_36 : decode cX4_init 36 = .ok (.arraylength, 1) := by decide +kernel
theorem dX4_init_37 : decode cX4_init 37 = .ok (.if_icmp .ge 22, 3) := by decide +kernel
theorem dX4_init_40 : decode cX4_init 40 = .ok (.aload_n 0, 1) := by decide +kernel
theorem dX4_init_41 : decode cX4_init 41 = .ok (.getfield 23, 3) := by decide +kernel
theorem dX4_init_44 : decode cX4_init 44 = .ok (.iload_n 1, 1) := by decide +kernel
theorem dX4_init_45 : decode cX4_init 45 = .ok (.new 21, 3) := by decide +kernel
theorem dX4_init_48 : decode cX4_init 48 = .ok (.dup, 1) := by decide +kernel
theorem dX4_init_49 : decode cX4_init 49 = .ok (.invokespecial 27, 3) := by decide +kernel
theorem dX4_init_52 : decode cX4_init 52 = .ok (.aastore, 1) := by decide +kernel
theorem dX4_init_53 : decode cX4_init 53 = .ok (.iinc 1 1, 3) := by decide +kernel
theorem dX4_init_56 : decode cX4_init 56 = .ok (.goto (-25), 3) := by decide +kernel
theorem dX4_init_59 : decode cX4_init 59 = .ok (.return_, 1) := by decide +kernel
set_option maxRecDepth 20000 in
theorem ggX4_lot_X4_needRange : GoodIn wsX4_lot wsX4_needRange := goodIn_ca (goodIn_r _ [12, 13, 14] (by decide +kernel) (by decide +kernel)) (goodIn_sub (fun _ h => List.mem_cons_of_mem _ (List.mem_append_right _ h)) (by decide +kernel))
set_option maxRecDepth 20000 in
theorem gX4_lot_X4_needRange : GoodIn wsX4_lot (va_wsS RX4 28 yX4_needRange wsX4_needRange) := goodIn_app (goodIn_of _ (by decide +kernel)) ggX4_lot_X4_needRange
set_option maxRecDepth 20000 in
theorem ggX4_lot_X2_init : GoodIn wsX4_lot wsX2_init := goodIn_r _ [17, 18, 19, 20, 21, 22, 23, 24, 25, 32, 33, 34, 35, 36, 37, 38] (by decide +kernel) (by decide +kernel)
set_option maxRecDepth 20000 in
theorem gX4_lot_X2_init : GoodIn wsX4_lot (wsX2_init) := ggX4_lot_X2_init
theorem dX4_lot_0 : decode cX4_lot 0 = .ok (.iload_n 1, 1) := by decide +kernel
theorem dX4_lot_1 : decode cX4_lot 1 = .ok (.iconst 0, 1) := by decide +kernel
theorem dX4_lot_2 : decode cX4_lot 2 = .ok (.sipush 25500, 3) := by decide +kernel
theorem dX4_lot_5 : decode cX4_lot 5 = .ok (.invokestatic 28, 3) := by decide +kernel
theorem dX4_lot_8 : decode cX4_lot 8 = .ok (.iload_n 2, 1) := by decide +kernel
theorem dX4_lot_9 : decode cX4_lot 9 = .ok (.iconst 1, 1) := by decide +kernel
theorem dX4_lot_10 : decode cX4_lot 10 = .ok (.sipush 500, 3) := by decide +kernel
theorem dX4_lot_13 : decode cX4_lot 13 = .ok (.invokestatic 28, 3) := by decide +kernel
theorem dX4_lot_16 : decode cX4_lot 16 = .ok (.iload_n 3, 1) := by decide +kernel
theorem dX4_lot_17 : decode cX4_lot 17 = .ok (.iconst 0, 1) := by decide +kernel
theorem dX4_lot_18 : decode cX4_lot 18 = .ok (.iconst 1, 1) := by decide +kernel
theorem dX4_lot_19 : decode cX4_lot 19 = .ok (.invokestatic 28, 3) := by decide +kernel
theorem dX4_lot_22 : decode cX4_lot 22 = .ok (.aload_n 0, 1) := by decide +kernel
theorem dX4_lot_23 : decode cX4_lot 23 = .ok (.getfield 32, 3) := by decide +kernel
theorem dX4_lot_26 : decode cX4_lot 26 = .ok (.aload_n 0, 1) := by decide +kernel
theorem dX4_lot_27 : decode cX4_lot 27 = .ok (.getfield 11, 3) := by decide +kernel
theorem dX4_lot_30 : decode cX4_lot 30 = .ok (.arraylength, 1) := by decide +kernel
theorem dX4_lot_31 : decode cX4_lot 31 = .ok (.if_icmp .lt 13, 3) := by decide +kernel
theorem dX4_lot_34 : decode cX4_lot 34 = .ok (.new 36, 3) := by decide +kernel
theorem dX4_lot_37 : decode cX4_lot 37 = .ok (.dup, 1) := by decide +kernel
theorem dX4_lot_38 : decode cX4_lot 38 = .ok (.ldc 38, 2) := by decide +kernel
theorem dX4_lot_40 : decode cX4_lot 40 = .ok (.invokespecial 40, 3) := by decide +kernel
theorem dX4_lot_43 : decode cX4_lot 43 = .ok (.athrow, 1) := by decide +kernel
theorem dX4_lot_44 : decode cX4_lot 44 = .ok (.aload_n 0, 1) := by decide +kernel
theorem dX4_lot_45 : decode cX4_lot 45 = .ok (.getfield 32, 3) := by decide +kernel
theorem dX4_lot_48 : decode cX4_lot 48 = .ok (.istore 5, 2) := by decide +kernel
theorem dX4_lot_50 : decode cX4_lot 50 = .ok (.aload_n 0, 1) := by decide +kernel
theorem dX4_lot_51 : decode cX4_lot 51 = .ok (.getfield 11, 3) := by decide +kernel
theorem dX4_lot_54 : decode cX4_lot 54 = .ok (.iload 5, 2) := by decide +kernel
theorem dX4_lot_56 : decode cX4_lot 56 = .ok (.new 9, 3) := by decide +kernel
theorem dX4_lot_59 : decode cX4_lot 59 = .ok (.dup, 1) := by decide +kernel
theorem dX4_lot_60 : decode cX4_lot 60 = .ok (.iload 5, 2) := by decide +kernel
theorem dX4_lot_62 : decode cX4_lot 62 = .ok (.iload_n 1, 1) := by decide +kernel
theorem dX4_lot_63 : decode cX4_lot 63 = .ok (.i2f, 1) := by decide +kernel
theorem dX4_lot_64 : decode cX4_lot 64 = .ok (.ldc 43, 2) := by decide +kernel
theorem dX4_lot_66 : decode cX4_lot 66 = .ok (.fdiv, 1) := by decide +kernel
theorem dX4_lot_67 : decode cX4_lot 67 = .ok (.iload_n 2, 1) := by decide +kernel
theorem dX4_lot_68 : decode cX4_lot 68 = .ok (.iload_n 3, 1) := by decide +kernel
theorem dX4_lot_69 : decode cX4_lot 69 = .ok (.iload 4, 2) := by decide +kernel
theorem dX4_lot_71 : decode cX4_lot 71 = .ok (.invokespecial 44, 3) := by decide +kernel
theorem dX4_lot_74 : decode cX4_lot 74 = .ok (.aastore, 1) := by decide +kernel
theorem dX4_lot_75 : decode cX4_lot 75 = .ok (.aload_n 0, 1) := by decide +kernel
theorem dX4_lot_76 : decode cX4_lot 76 = .ok (.dup, 1) := by decide +kernel
theorem dX4_lot_77 : decode cX4_lot 77 = .ok (.getfield 32, 3) := by decide +kernel
theorem dX4_lot_80 : decode cX4_lot 80 = .ok (.iconst 1, 1) := by decide +kernel
theorem dX4_lot_81 : decode cX4_lot 81 = .ok (.iadd, 1) := by decide +kernel
theorem dX4_lot_82 : decode cX4_lot 82 = .ok (.putfield 32, 3) := by decide +kernel
theorem dX4_lot_85 : decode cX4_lot 85 = .ok (.iload 5, 2) := by decide +kernel
theorem dX4_lot_87 : decode cX4_lot 87 = .ok (.ireturn, 1) := by decide +kernel
set_option maxRecDepth 20000 in
theorem ggX4_comes_X4_needLot : GoodIn wsX4_comes wsX4_needLot := goodIn_ca (goodIn_r _ [9, 10, 11, 12, 20, 21, 22, 23, 24, 25] (by decide +kernel) (by decide +kernel)) (goodIn_sub (fun _ h => List.mem_cons_of_mem _ (List.mem_append_right _ h)) (by decide +kernel))
set_option maxRecDepth 20000 in
theorem gX4_comes_X4_needLot : GoodIn wsX4_comes (wsV RX4 47 RX4 yX4_needLot wsX4_needLot) := goodIn_app (goodIn_of _ (by decide +kernel)) ggX4_comes_X4_needLot
theorem dX4_comes_0 : decode cX4_comes 0 = .ok (.aload_n 0, 1) := by decide +kernel
theorem dX4_comes_1 : decode cX4_comes 1 = .ok (.iload_n 1, 1) := by decide +kernel
theorem dX4_comes_2 : decode cX4_comes 2 = .ok (.invokevirtual 47, 3) := by decide +kernel
theorem dX4_comes_5 : decode cX4_comes 5 = .ok (.astore_n 2, 1) := by decide +kernel
theorem dX4_comes_6 : decode cX4_comes 6 = .ok (.aload_n 2, 1) := by decide +kernel
theorem dX4_comes_7 : decode cX4_comes 7 = .ok (.getfield 51, 3) := by decide +kernel
theorem dX4_comes_10 : decode cX4_comes 10 = .ok (.ifCond .eq 13, 3) := by decide +kernel
theorem dX4_comes_13 : decode cX4_comes 13 = .ok (.new 36, 3) := by decide +kernel
theorem dX4_comes_16 : decode cX4_comes 16 = .ok (.dup, 1) := by decide +kernel
theorem dX4_comes_17 : decode cX4_comes 17 = .ok (.ldc 55, 2) := by decide +kernel
theorem dX4_comes_19 : decode cX4_comes 19 = .ok (.invokespecial 40, 3) := by decide +kernel
theorem dX4_comes_22 : decode cX4_comes 22 = .ok (.athrow, 1) := by decide +kernel
theorem dX4_comes_23 : decode cX4_comes 23 = .ok (.aload_n 2, 1) := by decide +kernel
theorem dX4_comes_24 : decode cX4_comes 24 = .ok (.iconst 1, 1) := by decide +kernel
theorem dX4_comes_25 : decode cX4_comes 25 = .ok (.putfield 51, 3) := by decide +kernel
theorem dX4_comes_28 : decode cX4_comes 28 = .ok (.aload_n 2, 1) := by decide +kernel
theorem dX4_comes_29 : decode cX4_comes 29 = .ok (.getfield 57, 3) := by decide +kernel
theorem dX4_comes_32 : decode cX4_comes 32 = .ok (.ireturn, 1) := by decide +kernel
set_option maxRecDepth 20000 in
theorem ggX4_picture_X4_needRange : GoodIn wsX4_picture wsX4_needRange := goodIn_ca (goodIn_r _ [11, 12, 13] (by decide +kernel) (by decide +kernel)) (goodIn_sub (fun _ h => List.mem_cons_of_mem _ (List.mem_append_right _ h)) (by decide +kernel))
set_option maxRecDepth 20000 in
theorem gX4_picture_X4_needRange : GoodIn wsX4_picture (va_wsS RX4 28 yX4_needRange wsX4_needRange) := goodIn_app (goodIn_of _ (by decide +kernel)) ggX4_picture_X4_needRange
set_option maxRecDepth 20000 in
theorem ggX4_picture_X3_init : GoodIn wsX4_picture wsX3_init := goodIn_r _ [16, 17, 18, 19, 20, 21, 22, 23, 24, 25, 26, 27, 28, 29, 30, 31, 32, 33, 34, 41, 42, 43, 44, 45, 46, 47, 48, 49, 50, 51, 52, 53, 54] (by decide +kernel) (by decide +kernel)
set_option maxRecDepth 20000 in
theorem gX4_picture_X3_init : GoodIn wsX4_picture (wsX3_init) := ggX4_picture_X3_init
theorem dX4_picture_0 : decode cX4_picture 0 = .ok (.iload_n 1, 1) := by decide +kernel
theorem dX4_picture_1 : decode cX4_picture 1 = .ok (.iconst 1, 1) := by decide +kernel
theorem dX4_picture_2 : decode cX4_picture 2 = .ok (.bipush 8, 2) := by decide +kernel
theorem dX4_picture_4 : decode cX4_picture 4 = .ok (.invokestatic 28, 3) := by decide +kernel
theorem dX4_picture_7 : decode cX4_picture 7 = .ok (.iload_n 2, 1) := by decide +kernel
theorem dX4_picture_8 : decode cX4_picture 8 = .ok (.iconst 1, 1) := by decide +kernel
theorem dX4_picture_9 : decode cX4_picture 9 = .ok (.bipush 8, 2) := by decide +kernel
theorem dX4_picture_11 : decode cX4_picture 11 = .ok (.invokestatic 28, 3) := by decide +kernel
theorem dX4_picture_14 : decode cX4_picture 14 = .ok (.iload_n 3, 1) := by decide +kernel
theorem dX4_picture_15 : decode cX4_picture 15 = .ok (.iconst 0, 1) := by decide +kernel
theorem dX4_picture_16 : decode cX4_picture 16 = .ok (.sipush 255, 3) := by decide +kernel
theorem dX4_picture_19 : decode cX4_picture 19 = .ok (.invokestatic 28, 3) := by decide +kernel
theorem dX4_picture_22 : decode cX4_picture 22 = .ok (.aload_n 0, 1) := by decide +kernel
theorem dX4_picture_23 : decode cX4_picture 23 = .ok (.getfield 60, 3) := by decide +kernel
theorem dX4_picture_26 : decode cX4_picture 26 = .ok (.aload_n 0, 1) := by decide +kernel
theorem dX4_picture_27 : decode cX4_picture 27 = .ok (.getfield 17, 3) := by decide +kernel
theorem dX4_picture_30 : decode cX4_picture 30 = .ok (.arraylength, 1) := by decide +kernel
theorem dX4_picture_31 : decode cX4_picture 31 = .ok (.if_icmp .lt 13, 3) := by decide +kernel
theorem dX4_picture_34 : decode cX4_picture 34 = .ok (.new 36, 3) := by decide +kernel
theorem dX4_picture_37 : decode cX4_picture 37 = .ok (.dup, 1) := by decide +kernel
theorem dX4_picture_38 : decode cX4_picture 38 = .ok (.ldc 63, 2) := by decide +kernel
theorem dX4_picture_40 : decode cX4_picture 40 = .ok (.invokespecial 40, 3) := by decide +kernel
theorem dX4_picture_43 : decode cX4_picture 43 = .ok (.athrow, 1) := by decide +kernel
theorem dX4_picture_44 : decode cX4_picture 44 = .ok (.aload_n 0, 1) := by decide +kernel
theorem dX4_picture_45 : decode cX4_picture 45 = .ok (.getfield 60, 3) := by decide +kernel
theorem dX4_picture_48 : decode cX4_picture 48 = .ok (.istore 4, 2) := by decide +kernel
theorem dX4_picture_50 : decode cX4_picture 50 = .ok (.aload_n 0, 1) := by decide +kernel
theorem dX4_picture_51 : decode cX4_picture 51 = .ok (.getfield 17, 3) := by decide +kernel
theorem dX4_picture_54 : decode cX4_picture 54 = .ok (.iload 4, 2) := by decide +kernel
theorem dX4_picture_56 : decode cX4_picture 56 = .ok (.new 15, 3) := by decide +kernel
theorem dX4_picture_59 : decode cX4_picture 59 = .ok (.dup, 1) := by decide +kernel
theorem dX4_picture_60 : decode cX4_picture 60 = .ok (.iload 4, 2) := by decide +kernel
theorem dX4_picture_62 : decode cX4_picture 62 = .ok (.iload_n 1, 1) := by decide +kernel
theorem dX4_picture_63 : decode cX4_picture 63 = .ok (.iload_n 2, 1) := by decide +kernel
theorem dX4_picture_64 : decode cX4_picture 64 = .ok (.iload_n 3, 1) := by decide +kernel
theorem dX4_picture_65 : decode cX4_picture 65 = .ok (.invokespecial 65, 3) := by decide +kernel
theorem dX4_picture_68 : decode cX4_picture 68 = .ok (.aastore, 1) := by decide +kernel
theorem dX4_picture_69 : decode cX4_picture 69 = .ok (.aload_n 0, 1) := by decide +kernel
theorem dX4_picture_70 : decode cX4_picture 70 = .ok (.dup, 1) := by decide +kernel
theorem dX4_picture_71 : decode cX4_picture 71 = .ok (.getfield 60, 3) := by decide +kernel
theorem dX4_picture_74 : decode cX4_picture 74 = .ok (.iconst 1, 1) := by decide +kernel
theorem dX4_picture_75 : decode cX4_picture 75 = .ok (.iadd, 1) := by decide +kernel
theorem dX4_picture_76 : decode cX4_picture 76 = .ok (.putfield 60, 3) := by decide +kernel
theorem dX4_picture_79 : decode cX4_picture 79 = .ok (.iload 4, 2) := by decide +kernel
theorem dX4_picture_81 : decode cX4_picture 81 = .ok (.ireturn, 1) := by decide +kernel
set_option maxRecDepth 20000 in
theorem ggX4_cell_X4_needCell : GoodIn wsX4_cell wsX4_needCell := goodIn_ca (goodIn_r _ [8, 9, 10, 11, 12, 13, 7, 14, 15, 16, 17, 18, 19, 20, 21, 22, 23, 45, 46, 47, 48, 49, 50, 51, 52, 53, 54] (by decide +kernel) (by decide +kernel)) (goodIn_sub (fun _ h => List.mem_cons_of_mem _ (List.mem_append_left _ (List.mem_append_right _ h))) (by decide +kernel))
set_option maxRecDepth 20000 in
theorem gX4_cell_X4_needCell : GoodIn wsX4_cell (wsV RX4 68 RX4 yX4_needCell wsX4_needCell) := goodIn_app (goodIn_of _ (by decide +kernel)) ggX4_cell_X4_needCell
set_option maxRecDepth 20000 in
theorem ggX4_cell_X4_needRange : GoodIn wsX4_cell wsX4_needRange := goodIn_ca (goodIn_r _ [26, 27, 28] (by decide +kernel) (by decide +kernel)) (goodIn_sub (fun _ h => List.mem_cons_of_mem _ (List.mem_append_right _ h)) (by decide +kernel))
set_option maxRecDepth 20000 in
theorem gX4_cell_X4_needRange : GoodIn wsX4_cell (va_wsS RX4 28 yX4_needRange wsX4_needRange) := goodIn_app (goodIn_of _ (by decide +kernel)) ggX4_cell_X4_needRange
set_option maxRecDepth 20000 in
theorem ggX4_cell_X0_isDone : GoodIn wsX4_cell wsX0_isDone := goodIn_r _ [33, 34, 35, 36, 37, 38, 39, 40, 41, 42, 43, 44] (by decide +kernel) (by decide +kernel)
set_option maxRecDepth 20000 in
theorem gX4_cell_X0_isDone : GoodIn wsX4_cell (wsV RX4 72 RX0 yX0_isDone wsX0_isDone) := goodIn_app (goodIn_of _ (by decide +kernel)) ggX4_cell_X0_isDone
theorem dX4_cell_0 : decode cX4_cell 0 = .ok (.aload_n 0, 1) := by decide +kernel
theorem dX4_cell_1 : decode cX4_cell 1 = .ok (.iload_n 1, 1) := by decide +kernel
theorem dX4_cell_2 : decode cX4_cell 2 = .ok (.iload_n 2, 1) := by decide +kernel
theorem dX4_cell_3 : decode cX4_cell 3 = .ok (.iload_n 3, 1) := by decide +kernel
theorem dX4_cell_4 : decode cX4_cell 4 = .ok (.invokevirtual 68, 3) := by decide +kernel
theorem dX4_cell_7 : decode cX4_cell 7 = .ok (.astore 5, 2) := by decide +kernel
theorem dX4_cell_9 : decode cX4_cell 9 = .ok (.iload 4, 2) := by decide +kernel
theorem dX4_cell_11 : decode cX4_cell 11 = .ok (.iconst 0, 1) := by decide +kernel
theorem dX4_cell_12 : decode cX4_cell 12 = .ok (.sipush 255, 3) := by decide +kernel
theorem dX4_cell_15 : decode cX4_cell 15 = .ok (.invokestatic 28, 3) := by decide +kernel
theorem dX4_cell_18 : decode cX4_cell 18 = .ok (.aload 5, 2) := by decide +kernel
theorem dX4_cell_20 : decode cX4_cell 20 = .ok (.invokevirtual 72, 3) := by decide +kernel
theorem dX4_cell_23 : decode cX4_cell 23 = .ok (.ifCond .eq 13, 3) := by decide +kernel
theorem dX4_cell_26 : decode cX4_cell 26 = .ok (.new 36, 3) := by decide +kernel
theorem dX4_cell_29 : decode cX4_cell 29 = .ok (.dup, 1) := by decide +kernel
theorem dX4_cell_30 : decode cX4_cell 30 = .ok (.ldc 78, 2) := by decide +kernel
theorem dX4_cell_32 : decode cX4_cell 32 = .ok (.invokespecial 40, 3) := by decide +kernel
theorem dX4_cell_35 : decode cX4_cell 35 = .ok (.athrow, 1) := by decide +kernel
theorem dX4_cell_36 : decode cX4_cell 36 = .ok (.aload 5, 2) := by decide +kernel
theorem dX4_cell_38 : decode cX4_cell 38 = .ok (.getfield 80, 3) := by decide +kernel
theorem dX4_cell_41 : decode cX4_cell 41 = .ok (.istore 6, 2) := by decide +kernel
theorem dX4_cell_43 : decode cX4_cell 43 = .ok (.aload 5, 2) := by decide +kernel
theorem dX4_cell_45 : decode cX4_cell 45 = .ok (.iload 4, 2) := by decide +kernel
theorem dX4_cell_47 : decode cX4_cell 47 = .ok (.putfield 80, 3) := by decide +kernel
theorem dX4_cell_50 : decode cX4_cell 50 = .ok (.iload 6, 2) := by decide +kernel
theorem dX4_cell_52 : decode cX4_cell 52 = .ok (.ireturn, 1) := by decide +kernel
set_option maxRecDepth 20000 in
theorem ggX4_old_X4_needCell : GoodIn wsX4_old wsX4_needCell := goodIn_ca (goodIn_r _ [9, 10, 11, 12, 13, 14, 8, 15, 16, 17, 18, 19, 20, 21, 22, 23, 24, 45, 46, 47, 48, 49, 50, 51, 52, 53, 54] (by decide +kernel) (by decide +kernel)) (goodIn_sub (fun _ h => List.mem_cons_of_mem _ (List.mem_append_left _ (List.mem_append_right _ h))) (by decide +kernel))
set_option maxRecDepth 20000 in
theorem gX4_old_X4_needCell : GoodIn wsX4_old (wsV RX4 68 RX4 yX4_needCell wsX4_needCell) := goodIn_app (goodIn_of _ (by decide +kernel)) ggX4_old_X4_needCell
set_option maxRecDepth 20000 in
theorem ggX4_old_X4_needRange : GoodIn wsX4_old wsX4_needRange := goodIn_ca (goodIn_r _ [27, 28, 29] (by decide +kernel) (by decide +kernel)) (goodIn_sub (fun _ h => List.mem_cons_of_mem _ (List.mem_append_right _ h)) (by decide +kernel))
set_option maxRecDepth 20000 in
theorem gX4_old_X4_needRange : GoodIn wsX4_old (va_wsS RX4 28 yX4_needRange wsX4_needRange) := goodIn_app (goodIn_of _ (by decide +kernel)) ggX4_old_X4_needRange
set_option maxRecDepth 20000 in
theorem ggX4_old_X4_needPicture : GoodIn wsX4_old wsX4_needPicture := goodIn_ca (goodIn_r _ [15, 10, 11, 16, 45, 46, 47, 48, 49, 50] (by decide +kernel) (by decide +kernel)) (goodIn_sub (fun _ h => List.mem_cons_of_mem _ (List.mem_append_left _ (List.mem_append_right _ h))) (by decide +kernel))
set_option maxRecDepth 20000 in
theorem gX4_old_X4_needPicture : GoodIn wsX4_old (wsV RX4 88 RX4 yX4_needPicture wsX4_needPicture) := goodIn_app (goodIn_of _ (by decide +kernel)) ggX4_old_X4_needPicture
set_option maxRecDepth 20000 in
theorem ggX4_old_X3_count : GoodIn wsX4_old wsX3_count := goodIn_r _ [33, 24, 34, 51, 52, 53, 54, 35, 36, 37, 38, 39, 40, 41, 42, 43, 44] (by decide +kernel) (by decide +kernel)
set_option maxRecDepth 20000 in
theorem gX4_old_X3_count : GoodIn wsX4_old (wsV RX4 92 RX3 yX3_count wsX3_count) := goodIn_app (goodIn_of _ (by decide +kernel)) ggX4_old_X3_count
theorem dX4_old_0 : decode cX4_old 0 = .ok (.aload_n 0, 1) := by decide +kernel
theorem dX4_old_1 : decode cX4_old 1 = .ok (.iload_n 1, 1) := by decide +kernel
theorem dX4_old_2 : decode cX4_old 2 = .ok (.iload_n 2, 1) := by decide +kernel
theorem dX4_old_3 : decode cX4_old 3 = .ok (.iload_n 3, 1) := by decide +kernel
theorem dX4_old_4 : decode cX4_old 4 = .ok (.invokevirtual 68, 3) := by decide +kernel
theorem dX4_old_7 : decode cX4_old 7 = .ok (.astore 5, 2) := by decide +kernel
theorem dX4_old_9 : decode cX4_old 9 = .ok (.iload 4, 2) := by decide +kernel
theorem dX4_old_11 : decode cX4_old 11 = .ok (.iconst 0, 1) := by decide +kernel
theorem dX4_old_12 : decode cX4_old 12 = .ok (.sipush 255, 3) := by decide +kernel
theorem dX4_old_15 : decode cX4_old 15 = .ok (.invokestatic 28, 3) := by decide +kernel
theorem dX4_old_18 : decode cX4_old 18 = .ok (.aload 5, 2) := by decide +kernel
theorem dX4_old_20 : decode cX4_old 20 = .ok (.getfield 83, 3) := by decide +kernel
theorem dX4_old_23 : decode cX4_old 23 = .ok (.ifCond .eq 13, 3) := by decide +kernel
theorem dX4_old_26 : decode cX4_old 26 = .ok (.new 36, 3) := by decide +kernel
theorem dX4_old_29 : decode cX4_old 29 = .ok (.dup, 1) := by decide +kernel
theorem dX4_old_30 : decode cX4_old 30 = .ok (.ldc 86, 2) := by decide +kernel
theorem dX4_old_32 : decode cX4_old 32 = .ok (.invokespecial 40, 3) := by decide +kernel
theorem dX4_old_35 : decode cX4_old 35 = .ok (.athrow, 1) := by decide +kernel
theorem dX4_old_36 : decode cX4_old 36 = .ok (.aload 5, 2) := by decide +kernel
theorem dX4_old_38 : decode cX4_old 38 = .ok (.iconst 3, 1) := by decide +kernel
theorem dX4_old_39 : decode cX4_old 39 = .ok (.putfield 83, 3) := by decide +kernel
theorem dX4_old_42 : decode cX4_old 42 = .ok (.aload 5, 2) := by decide +kernel
theorem dX4_old_44 : decode cX4_old 44 = .ok (.iload 4, 2) := by decide +kernel
theorem dX4_old_46 : decode cX4_old 46 = .ok (.putfield 80, 3) := by decide +kernel
theorem dX4_old_49 : decode cX4_old 49 = .ok (.aload_n 0, 1) := by decide +kernel
theorem dX4_old_50 : decode cX4_old 50 = .ok (.iload_n 1, 1) := by decide +kernel
theorem dX4_old_51 : decode cX4_old 51 = .ok (.invokevirtual 88, 3) := by decide +kernel
theorem dX4_old_54 : decode cX4_old 54 = .ok (.iconst 3, 1) := by decide +kernel
theorem dX4_old_55 : decode cX4_old 55 = .ok (.invokevirtual 92, 3) := by decide +kernel
theorem dX4_old_58 : decode cX4_old 58 = .ok (.ireturn, 1) := by decide +kernel
set_option maxRecDepth 20000 in
theorem ggX4_fill_X4_needPicture : GoodIn wsX4_fill wsX4_needPicture := goodIn_ca (goodIn_r _ [5, 6, 7, 8, 39, 40, 41, 42, 43, 44] (by decide +kernel) (by decide +kernel)) (goodIn_sub (fun _ h => List.mem_cons_of_mem _ (List.mem_append_right _ h)) (by decide +kernel))
set_option maxRecDepth 20000 in
theorem gX4_fill_X4_needPicture : GoodIn wsX4_fill (wsV RX4 88 RX4 yX4_needPicture wsX4_needPicture) := goodIn_app (goodIn_of _ (by decide +kernel)) ggX4_fill_X4_needPicture
set_option maxRecDepth 20000 in
theorem ggX4_fill_X3_fillGaps : GoodIn wsX4_fill wsX3_fillGaps := goodIn_r _ [13, 14, 15, 16, 17, 18, 19, 20, 21, 22, 23, 24, 12, 25, 26, 27, 28, 29, 30, 31, 32, 33, 34, 35, 36, 37, 38, 45, 46, 47, 48, 49, 50, 51, 52, 53, 54, 55, 56, 57, 58] (by decide +kernel) (by decide +kernel)
set_option maxRecDepth 20000 in
theorem gX4_fill_X3_fillGaps : GoodIn wsX4_fill (wsV RX4 96 RX3 yX3_fillGaps wsX3_fillGaps) := goodIn_app (goodIn_of _ (by decide +kernel)) ggX4_fill_X3_fillGaps
theorem dX4_fill_0 : decode cX4_fill 0 = .ok (.aload_n 0, 1) := by decide +kernel
theorem dX4_fill_1 : decode cX4_fill 1 = .ok (.iload_n 1, 1) := by decide +kernel
theorem dX4_fill_2 : decode cX4_fill 2 = .ok (.invokevirtual 88, 3) := by decide +kernel
theorem dX4_fill_5 : decode cX4_fill 5 = .ok (.invokevirtual 96, 3) := by decide +kernel
theorem dX4_fill_8 : decode cX4_fill 8 = .ok (.ireturn, 1) := by decide +kernel
set_option maxRecDepth 20000 in
theorem ggX4_design_X4_needPicture : GoodIn wsX4_design wsX4_needPicture := goodIn_ca (goodIn_r _ [6, 7, 8, 9, 85, 86, 87, 88, 89, 90] (by decide +kernel) (by decide +kernel)) (goodIn_sub (fun _ h => List.mem_cons_of_mem _ (List.mem_append_right _ h)) (by decide +kernel))
set_option maxRecDepth 20000 in
theorem gX4_design_X4_needPicture : GoodIn wsX4_design (wsV RX4 88 RX4 yX4_needPicture wsX4_needPicture) := goodIn_app (goodIn_of _ (by decide +kernel)) ggX4_design_X4_needPicture
set_option maxRecDepth 20000 in
theorem ggX4_design_X3_designFrom : GoodIn wsX4_design wsX3_designFrom := goodIn_r _ [14, 15, 16, 17, 18, 19, 20, 21, 22, 23, 24, 25, 26, 27, 28, 29, 30, 31, 13, 32, 33, 34, 35, 36, 37, 38, 39, 40, 41, 42, 43, 44, 45, 46, 47, 48, 49, 50, 51, 52, 53, 54, 55, 56, 57, 58, 59, 60, 61, 62, 63, 64, 65, 66, 67, 68, 69, 70, 71, 72, 73, 74, 75, 76, 77, 78, 79, 80, 91, 92, 93, 94, 95, 96, 97, 98, 99, 100, 101, 102, 103, 104, 105, 106, 107, 108, 109, 110, 111] (by decide +kernel) (by decide +kernel)
set_option maxRecDepth 20000 in
theorem gX4_design_X3_designFrom : GoodIn wsX4_design (wsV RX4 100 RX3 yX3_designFrom wsX3_designFrom) := goodIn_app (goodIn_of _ (by decide +kernel)) ggX4_design_X3_designFrom
set_option maxRecDepth 20000 in
theorem ggX4_design_X3_count : GoodIn wsX4_design wsX3_count := goodIn_r _ [84, 15, 19, 91, 92, 93, 94, 95, 96, 97, 98, 99, 100, 101, 102, 103, 104] (by decide +kernel) (by decide +kernel)
set_option maxRecDepth 20000 in
theorem gX4_design_X3_count : GoodIn wsX4_design (wsV RX4 92 RX3 yX3_count wsX3_count) := goodIn_app (goodIn_of _ (by decide +kernel)) ggX4_design_X3_count
theorem dX4_design_0 : decode cX4_design 0 = .ok (.aload_n 0, 1) := by decide +kernel
theorem dX4_design_1 : decode cX4_design 1 = .ok (.iload_n 1, 1) := by decide +kernel
theorem dX4_design_2 : decode cX4_design 2 = .ok (.invokevirtual 88, 3) := by decide +kernel
theorem dX4_design_5 : decode cX4_design 5 = .ok (.astore_n 2, 1) := by decide +kernel
theorem dX4_design_6 : decode cX4_design 6 = .ok (.aload_n 2, 1) := by decide +kernel
theorem dX4_design_7 : decode cX4_design 7 = .ok (.aload_n 0, 1) := by decide +kernel
theorem dX4_design_8 : decode cX4_design 8 = .ok (.getfield 11, 3) := by decide +kernel
theorem dX4_design_11 : decode cX4_design 11 = .ok (.invokevirtual 100, 3) := by decide +kernel
theorem dX4_design_14 : decode cX4_design 14 = .ok (.aload_n 2, 1) := by decide +kernel
theorem dX4_design_15 : decode cX4_design 15 = .ok (.iconst 1, 1) := by decide +kernel
theorem dX4_design_16 : decode cX4_design 16 = .ok (.invokevirtual 92, 3) := by decide +kernel
theorem dX4_design_19 : decode cX4_design 19 = .ok (.ireturn, 1) := by decide +kernel
set_option maxRecDepth 20000 in
theorem ggX4_share_X4_needPicture : GoodIn wsX4_share wsX4_needPicture := goodIn_ca (goodIn_r _ [7, 8, 9, 10, 48, 49, 50, 51, 52, 53] (by decide +kernel) (by decide +kernel)) (goodIn_sub (fun _ h => List.mem_cons_of_mem _ (List.mem_append_right _ h)) (by decide +kernel))
set_option maxRecDepth 20000 in
theorem gX4_share_X4_needPicture : GoodIn wsX4_share (wsV RX4 88 RX4 yX4_needPicture wsX4_needPicture) := goodIn_app (goodIn_of _ (by decide +kernel)) ggX4_share_X4_needPicture
set_option maxRecDepth 20000 in
theorem ggX4_share_X4_needLot : GoodIn wsX4_share wsX4_needLot := goodIn_ca (goodIn_r _ [14, 8, 9, 15, 48, 49, 50, 51, 52, 53] (by decide +kernel) (by decide +kernel)) (goodIn_sub (fun _ h => List.mem_cons_of_mem _ (List.mem_append_right _ h)) (by decide +kernel))
set_option maxRecDepth 20000 in
theorem gX4_share_X4_needLot : GoodIn wsX4_share (wsV RX4 47 RX4 yX4_needLot wsX4_needLot) := goodIn_app (goodIn_of _ (by decide +kernel)) ggX4_share_X4_needLot
set_option maxRecDepth 20000 in
theorem ggX4_share_X3_giveOddCells : GoodIn wsX4_share wsX3_giveOddCells := goodIn_r _ [20, 21, 22, 23, 24, 25, 26, 27, 28, 29, 30, 31, 32, 33, 34, 35, 36, 37, 38, 39, 40, 41, 42, 43, 44, 45, 46, 47, 54, 55, 56, 57, 58, 59, 60, 61, 62, 63, 64, 65, 66, 67, 68, 69, 70, 71, 72, 73, 74] (by decide +kernel) (by decide +kernel)
set_option maxRecDepth 20000 in
theorem gX4_share_X3_giveOddCells : GoodIn wsX4_share (wsV RX4 109 RX3 yX3_giveOddCells wsX3_giveOddCells) := goodIn_app (goodIn_of _ (by decide +kernel)) ggX4_share_X3_giveOddCells
theorem dX4_share_0 : decode cX4_share 0 = .ok (.aload_n 0, 1) := by decide +kernel
theorem dX4_share_1 : decode cX4_share 1 = .ok (.iload_n 1, 1) := by decide +kernel
theorem dX4_share_2 : decode cX4_share 2 = .ok (.invokevirtual 88, 3) := by decide +kernel
theorem dX4_share_5 : decode cX4_share 5 = .ok (.astore 4, 2) := by decide +kernel
theorem dX4_share_7 : decode cX4_share 7 = .ok (.aload_n 0, 1) := by decide +kernel
theorem dX4_share_8 : decode cX4_share 8 = .ok (.iload_n 2, 1) := by decide +kernel
theorem dX4_share_9 : decode cX4_share 9 = .ok (.invokevirtual 47, 3) := by decide +kernel
theorem dX4_share_12 : decode cX4_share 12 = .ok (.astore 5, 2) := by decide +kernel
theorem dX4_share_14 : decode cX4_share 14 = .ok (.aload_n 0, 1) := by decide +kernel
theorem dX4_share_15 : decode cX4_share 15 = .ok (.iload_n 3, 1) := by decide +kernel
theorem dX4_share_16 : decode cX4_share 16 = .ok (.invokevirtual 47, 3) := by decide +kernel
theorem dX4_share_19 : decode cX4_share 19 = .ok (.astore 6, 2) := by decide +kernel
theorem dX4_share_21 : decode cX4_share 21 = .ok (.iload_n 2, 1) := by decide +kernel
theorem dX4_share_22 : decode cX4_share 22 = .ok (.iload_n 3, 1) := by decide +kernel
theorem dX4_share_23 : decode cX4_share 23 = .ok (.if_icmp .ne 13, 3) := by decide +kernel
theorem dX4_share_26 : decode cX4_share 26 = .ok (.new 104, 3) := by decide +kernel
theorem dX4_share_29 : decode cX4_share 29 = .ok (.dup, 1) := by decide +kernel
theorem dX4_share_30 : decode cX4_share 30 = .ok (.ldc 106, 2) := by decide +kernel
theorem dX4_share_32 : decode cX4_share 32 = .ok (.invokespecial 108, 3) := by decide +kernel
theorem dX4_share_35 : decode cX4_share 35 = .ok (.athrow, 1) := by decide +kernel
theorem dX4_share_36 : decode cX4_share 36 = .ok (.aload 4, 2) := by decide +kernel
theorem dX4_share_38 : decode cX4_share 38 = .ok (.aload 5, 2) := by decide +kernel
theorem dX4_share_40 : decode cX4_share 40 = .ok (.aload 6, 2) := by decide +kernel
theorem dX4_share_42 : decode cX4_share 42 = .ok (.invokevirtual 109, 3) := by decide +kernel
theorem dX4_share_45 : decode cX4_share 45 = .ok (.ireturn, 1) := by decide +kernel
set_option maxRecDepth 20000 in
theorem ggX4_send_X4_needCrew : GoodIn wsX4_send wsX4_needCrew := goodIn_ca (goodIn_r _ [6, 7, 8, 9, 29, 30, 31, 32, 33, 34] (by decide +kernel) (by decide +kernel)) (goodIn_sub (fun _ h => List.mem_cons_of_mem _ (List.mem_append_right _ h)) (by decide +kernel))
set_option maxRecDepth 20000 in
theorem gX4_send_X4_needCrew : GoodIn wsX4_send (wsV RX4 113 RX4 yX4_needCrew wsX4_needCrew) := goodIn_app (goodIn_of _ (by decide +kernel)) ggX4_send_X4_needCrew
set_option maxRecDepth 20000 in
theorem ggX4_send_X4_needPicture : GoodIn wsX4_send wsX4_needPicture := goodIn_ca (goodIn_r _ [13, 7, 8, 14, 29, 30, 31, 32, 33, 34] (by decide +kernel) (by decide +kernel)) (goodIn_sub (fun _ h => List.mem_cons_of_mem _ (List.mem_append_right _ h)) (by decide +kernel))
set_option maxRecDepth 20000 in
theorem gX4_send_X4_needPicture : GoodIn wsX4_send (wsV RX4 88 RX4 yX4_needPicture wsX4_needPicture) := goodIn_app (goodIn_of _ (by decide +kernel)) ggX4_send_X4_needPicture
set_option maxRecDepth 20000 in
theorem ggX4_send_X1_pictureNumber : GoodIn wsX4_send wsX1_pictureNumber := goodIn_r _ [19, 20, 21, 22, 23, 24, 25, 26, 27, 28, 35, 36, 37, 38] (by decide +kernel) (by decide +kernel)
set_option maxRecDepth 20000 in
theorem gX4_send_X1_pictureNumber : GoodIn wsX4_send (wsV RX4 117 RX1 yX1_pictureNumber wsX1_pictureNumber) := goodIn_app (goodIn_of _ (by decide +kernel)) ggX4_send_X1_pictureNumber
theorem dX4_send_0 : decode cX4_send 0 = .ok (.aload_n 0, 1) := by decide +kernel
theorem dX4_send_1 : decode cX4_send 1 = .ok (.iload_n 1, 1) := by decide +kernel
theorem dX4_send_2 : decode cX4_send 2 = .ok (.invokevirtual 113, 3) := by decide +kernel
theorem dX4_send_5 : decode cX4_send 5 = .ok (.astore_n 3, 1) := by decide +kernel
theorem dX4_send_6 : decode cX4_send 6 = .ok (.iload_n 2, 1) := by decide +kernel
theorem dX4_send_7 : decode cX4_send 7 = .ok (.iconst (-1), 1) := by decide +kernel
theorem dX4_send_8 : decode cX4_send 8 = .ok (.if_icmp .ne 7, 3) := by decide +kernel
theorem dX4_send_11 : decode cX4_send 11 = .ok (.aconst_null, 1) := by decide +kernel
theorem dX4_send_12 : decode cX4_send 12 = .ok (.goto 8, 3) := by decide +kernel
theorem dX4_send_15 : decode cX4_send 15 = .ok (.aload_n 0, 1) := by decide +kernel
theorem dX4_send_16 : decode cX4_send 16 = .ok (.iload_n 2, 1) := by decide +kernel
theorem dX4_send_17 : decode cX4_send 17 = .ok (.invokevirtual 88, 3) := by decide +kernel
theorem dX4_send_20 : decode cX4_send 20 = .ok (.astore 4, 2) := by decide +kernel
theorem dX4_send_22 : decode cX4_send 22 = .ok (.aload_n 3, 1) := by decide +kernel
theorem dX4_send_23 : decode cX4_send 23 = .ok (.invokevirtual 117, 3) := by decide +kernel
theorem dX4_send_26 : decode cX4_send 26 = .ok (.istore 5, 2) := by decide +kernel
theorem dX4_send_28 : decode cX4_send 28 = .ok (.aload_n 3, 1) := by decide +kernel
theorem dX4_send_29 : decode cX4_send 29 = .ok (.aload 4, 2) := by decide +kernel
theorem dX4_send_31 : decode cX4_send 31 = .ok (.putfield 120, 3) := by decide +kernel
theorem dX4_send_34 : decode cX4_send 34 = .ok (.iload 5, 2) := by decide +kernel
theorem dX4_send_36 : decode cX4_send 36 = .ok (.ireturn, 1) := by decide +kernel
set_option maxRecDepth 20000 in
theorem ggX4_crew_X4_needCrew : GoodIn wsX4_crew wsX4_needCrew := goodIn_ca (goodIn_r _ [7, 8, 9, 10, 23, 24, 25, 26, 27, 28] (by decide +kernel) (by decide +kernel)) (goodIn_sub (fun _ h => List.mem_cons_of_mem _ (List.mem_append_left _ (List.mem_append_right _ h))) (by decide +kernel))
set_option maxRecDepth 20000 in
theorem gX4_crew_X4_needCrew : GoodIn wsX4_crew (wsV RX4 113 RX4 yX4_needCrew wsX4_needCrew) := goodIn_app (goodIn_of _ (by decide +kernel)) ggX4_crew_X4_needCrew
set_option maxRecDepth 20000 in
theorem ggX4_crew_X4_needRange : GoodIn wsX4_crew wsX4_needRange := goodIn_ca (goodIn_r _ [13, 14, 15] (by decide +kernel) (by decide +kernel)) (goodIn_sub (fun _ h => List.mem_cons_of_mem _ (List.mem_append_right _ h)) (by decide +kernel))
set_option maxRecDepth 20000 in
theorem gX4_crew_X4_needRange : GoodIn wsX4_crew (va_wsS RX4 28 yX4_needRange wsX4_needRange) := goodIn_app (goodIn_of _ (by decide +kernel)) ggX4_crew_X4_needRange
theorem dX4_crew_0 : decode cX4_crew 0 = .ok (.aload_n 0, 1) := by decide +kernel
theorem dX4_crew_1 : decode cX4_crew 1 = .ok (.iload_n 1, 1) := by decide +kernel
theorem dX4_crew_2 : decode cX4_crew 2 = .ok (.invokevirtual 113, 3) := by decide +kernel
theorem dX4_crew_5 : decode cX4_crew 5 = .ok (.astore 4, 2) := by decide +kernel
theorem dX4_crew_7 : decode cX4_crew 7 = .ok (.iload_n 2, 1) := by decide +kernel
theorem dX4_crew_8 : decode cX4_crew 8 = .ok (.iconst 1, 1) := by decide +kernel
theorem dX4_crew_9 : decode cX4_crew 9 = .ok (.bipush 9, 2) := by decide +kernel
theorem dX4_crew_11 : decode cX4_crew 11 = .ok (.invokestatic 28, 3) := by decide +kernel
theorem dX4_crew_14 : decode cX4_crew 14 = .ok (.iload_n 3, 1) := by decide +kernel
theorem dX4_crew_15 : decode cX4_crew 15 = .ok (.iconst 0, 1) := by decide +kernel
theorem dX4_crew_16 : decode cX4_crew 16 = .ok (.bipush 9, 2) := by decide +kernel
theorem dX4_crew_18 : decode cX4_crew 18 = .ok (.invokestatic 28, 3) := by decide +kernel
theorem dX4_crew_21 : decode cX4_crew 21 = .ok (.aload 4, 2) := by decide +kernel
theorem dX4_crew_23 : decode cX4_crew 23 = .ok (.getfield 124, 3) := by decide +kernel
theorem dX4_crew_26 : decode cX4_crew 26 = .ok (.istore 5, 2) := by decide +kernel
theorem dX4_crew_28 : decode cX4_crew 28 = .ok (.aload 4, 2) := by decide +kernel
theorem dX4_crew_30 : decode cX4_crew 30 = .ok (.iload_n 2, 1) := by decide +kernel
theorem dX4_crew_31 : decode cX4_crew 31 = .ok (.putfield 124, 3) := by decide +kernel
theorem dX4_crew_34 : decode cX4_crew 34 = .ok (.aload 4, 2) := by decide +kernel
theorem dX4_crew_36 : decode cX4_crew 36 = .ok (.iload_n 3, 1) := by decide +kernel
theorem dX4_crew_37 : decode cX4_crew 37 = .ok (.putfield 127, 3) := by decide +kernel
theorem dX4_crew_40 : decode cX4_crew 40 = .ok (.iload 5, 2) := by decide +kernel
theorem dX4_crew_42 : decode cX4_crew 42 = .ok (.ireturn, 1) := by decide +kernel
set_option maxRecDepth 20000 in
theorem ggX4_tray_X4_needCrew : GoodIn wsX4_tray wsX4_needCrew := goodIn_ca (goodIn_r _ [7, 8, 9, 10, 23, 24, 25, 26, 27, 28] (by decide +kernel) (by decide +kernel)) (goodIn_sub (fun _ h => List.mem_cons_of_mem _ (List.mem_append_left _ (List.mem_append_right _ h))) (by decide +kernel))
set_option maxRecDepth 20000 in
theorem gX4_tray_X4_needCrew : GoodIn wsX4_tray (wsV RX4 113 RX4 yX4_needCrew wsX4_needCrew) := goodIn_app (goodIn_of _ (by decide +kernel)) ggX4_tray_X4_needCrew
set_option maxRecDepth 20000 in
theorem ggX4_tray_X4_needRange : GoodIn wsX4_tray wsX4_needRange := goodIn_ca (goodIn_r _ [13, 14, 15] (by decide +kernel) (by decide +kernel)) (goodIn_sub (fun _ h => List.mem_cons_of_mem _ (List.mem_append_right _ h)) (by decide +kernel))
set_option maxRecDepth 20000 in
theorem gX4_tray_X4_needRange : GoodIn wsX4_tray (va_wsS RX4 28 yX4_needRange wsX4_needRange) := goodIn_app (goodIn_of _ (by decide +kernel)) ggX4_tray_X4_needRange
theorem dX4_tray_0 : decode cX4_tray 0 = .ok (.aload_n 0, 1) := by decide +kernel
theorem dX4_tray_1 : decode cX4_tray 1 = .ok (.iload_n 1, 1) := by decide +kernel
theorem dX4_tray_2 : decode cX4_tray 2 = .ok (.invokevirtual 113, 3) := by decide +kernel
theorem dX4_tray_5 : decode cX4_tray 5 = .ok (.astore_n 3, 1) := by decide +kernel
theorem dX4_tray_6 : decode cX4_tray 6 = .ok (.iload_n 2, 1) := by decide +kernel
theorem dX4_tray_7 : decode cX4_tray 7 = .ok (.iconst 0, 1) := by decide +kernel
theorem dX4_tray_8 : decode cX4_tray 8 = .ok (.iconst 1, 1) := by decide +kernel
theorem dX4_tray_9 : decode cX4_tray 9 = .ok (.invokestatic 28, 3) := by decide +kernel
theorem dX4_tray_12 : decode cX4_tray 12 = .ok (.aload_n 3, 1) := by decide +kernel
theorem dX4_tray_13 : decode cX4_tray 13 = .ok (.getfield 130, 3) := by decide +kernel
theorem dX4_tray_16 : decode cX4_tray 16 = .ok (.istore 4, 2) := by decide +kernel
theorem dX4_tray_18 : decode cX4_tray 18 = .ok (.aload_n 3, 1) := by decide +kernel
theorem dX4_tray_19 : decode cX4_tray 19 = .ok (.iload_n 2, 1) := by decide +kernel
theorem dX4_tray_20 : decode cX4_tray 20 = .ok (.putfield 133, 3) := by decide +kernel
theorem dX4_tray_23 : decode cX4_tray 23 = .ok (.aload_n 3, 1) := by decide +kernel
theorem dX4_tray_24 : decode cX4_tray 24 = .ok (.iconst 0, 1) := by decide +kernel
theorem dX4_tray_25 : decode cX4_tray 25 = .ok (.putfield 130, 3) := by decide +kernel
theorem dX4_tray_28 : decode cX4_tray 28 = .ok (.iload 4, 2) := by decide +kernel
theorem dX4_tray_30 : decode cX4_tray 30 = .ok (.ireturn, 1) := by decide +kernel
set_option maxRecDepth 20000 in
theorem ggX4_load_X4_needCrew : GoodIn wsX4_load wsX4_needCrew := goodIn_ca (goodIn_r _ [5, 6, 7, 8, 27, 28, 29, 30, 31, 32] (by decide +kernel) (by decide +kernel)) (goodIn_sub (fun _ h => List.mem_cons_of_mem _ (List.mem_append_right _ h)) (by decide +kernel))
set_option maxRecDepth 20000 in
theorem gX4_load_X4_needCrew : GoodIn wsX4_load (wsV RX4 113 RX4 yX4_needCrew wsX4_needCrew) := goodIn_app (goodIn_of _ (by decide +kernel)) ggX4_load_X4_needCrew
set_option maxRecDepth 20000 in
theorem ggX4_load_X4_needLot : GoodIn wsX4_load wsX4_needLot := goodIn_ca (goodIn_r _ [12, 6, 7, 13, 27, 28, 29, 30, 31, 32] (by decide +kernel) (by decide +kernel)) (goodIn_sub (fun _ h => List.mem_cons_of_mem _ (List.mem_append_right _ h)) (by decide +kernel))
set_option maxRecDepth 20000 in
theorem gX4_load_X4_needLot : GoodIn wsX4_load (wsV RX4 47 RX4 yX4_needLot wsX4_needLot) := goodIn_app (goodIn_of _ (by decide +kernel)) ggX4_load_X4_needLot
set_option maxRecDepth 20000 in
theorem ggX4_load_X1_takeOnTray : GoodIn wsX4_load wsX1_takeOnTray := goodIn_r _ [18, 19, 20, 21, 22, 23, 24, 25, 17, 26, 33, 34, 35, 36, 37, 38, 39, 40, 41, 42, 43, 44, 45, 46] (by decide +kernel) (by decide +kernel)
set_option maxRecDepth 20000 in
theorem gX4_load_X1_takeOnTray : GoodIn wsX4_load (wsV RX4 136 RX1 yX1_takeOnTray wsX1_takeOnTray) := goodIn_app (goodIn_of _ (by decide +kernel)) ggX4_load_X1_takeOnTray
theorem dX4_load_0 : decode cX4_load 0 = .ok (.aload_n 0, 1) := by decide +kernel
theorem dX4_load_1 : decode cX4_load 1 = .ok (.iload_n 1, 1) := by decide +kernel
theorem dX4_load_2 : decode cX4_load 2 = .ok (.invokevirtual 113, 3) := by decide +kernel
theorem dX4_load_5 : decode cX4_load 5 = .ok (.astore_n 3, 1) := by decide +kernel
theorem dX4_load_6 : decode cX4_load 6 = .ok (.aload_n 3, 1) := by decide +kernel
theorem dX4_load_7 : decode cX4_load 7 = .ok (.aload_n 0, 1) := by decide +kernel
theorem dX4_load_8 : decode cX4_load 8 = .ok (.iload_n 2, 1) := by decide +kernel
theorem dX4_load_9 : decode cX4_load 9 = .ok (.invokevirtual 47, 3) := by decide +kernel
theorem dX4_load_12 : decode cX4_load 12 = .ok (.invokevirtual 136, 3) := by decide +kernel
theorem dX4_load_15 : decode cX4_load 15 = .ok (.ireturn, 1) := by decide +kernel
set_option maxRecDepth 20000 in
theorem ggX4_pass_X4_needRange : GoodIn wsX4_pass wsX4_needRange := goodIn_ca (goodIn_r _ [5, 6, 7] (by decide +kernel) (by decide +kernel)) (goodIn_sub (fun _ h => List.mem_cons_of_mem _ (List.mem_append_left _ (List.mem_append_right _ h))) (by decide +kernel))
set_option maxRecDepth 20000 in
theorem gX4_pass_X4_needRange : GoodIn wsX4_pass (va_wsS RX4 28 yX4_needRange wsX4_needRange) := goodIn_app (goodIn_of _ (by decide +kernel)) ggX4_pass_X4_needRange
set_option maxRecDepth 20000 in
theorem ggX4_pass_X4_needCrew : GoodIn wsX4_pass wsX4_needCrew := goodIn_ca (goodIn_r _ [11, 12, 13, 14, 71, 72, 73, 74, 75, 76] (by decide +kernel) (by decide +kernel)) (goodIn_sub (fun _ h => List.mem_cons_of_mem _ (List.mem_append_right _ h)) (by decide +kernel))
set_option maxRecDepth 20000 in
theorem gX4_pass_X4_needCrew : GoodIn wsX4_pass (wsV RX4 113 RX4 yX4_needCrew wsX4_needCrew) := goodIn_app (goodIn_of _ (by decide +kernel)) ggX4_pass_X4_needCrew
set_option maxRecDepth 20000 in
theorem ggX4_pass_X1_layFor : GoodIn wsX4_pass wsX1_layFor := goodIn_r _ [19, 20, 21, 22, 23, 24, 18, 25, 26, 27, 28, 29, 30, 31, 32, 33, 34, 35, 36, 37, 38, 39, 40, 41, 42, 43, 44, 45, 46, 47, 48, 49, 50, 51, 52, 53, 54, 55, 56, 57, 58, 59, 60, 61, 62, 63, 64, 65, 66, 67, 68, 69, 70, 77, 78, 79, 80, 81, 82, 83, 84, 85, 86, 87, 88, 89, 90, 91, 92, 93, 94, 95, 96, 97, 98, 99, 100, 101, 102, 103, 104] (by decide +kernel) (by decide +kernel)
set_option maxRecDepth 20000 in
theorem gX4_pass_X1_layFor : GoodIn wsX4_pass (wsV RX4 143 RX1 yX1_layFor wsX1_layFor) := goodIn_app (goodIn_of _ (by decide +kernel)) ggX4_pass_X1_layFor
theorem dX4_pass_0 : decode cX4_pass 0 = .ok (.iload_n 1, 1) := by decide +kernel
theorem dX4_pass_1 : decode cX4_pass 1 = .ok (.iconst 1, 1) := by decide +kernel
theorem dX4_pass_2 : decode cX4_pass 2 = .ok (.bipush 100, 2) := by decide +kernel
theorem dX4_pass_4 : decode cX4_pass 4 = .ok (.invokestatic 28, 3) := by decide +kernel
theorem dX4_pass_7 : decode cX4_pass 7 = .ok (.iconst 0, 1) := by decide +kernel
theorem dX4_pass_8 : decode cX4_pass 8 = .ok (.istore_n 2, 1) := by decide +kernel
theorem dX4_pass_9 : decode cX4_pass 9 = .ok (.iconst 0, 1) := by decide +kernel
theorem dX4_pass_10 : decode cX4_pass 10 = .ok (.istore_n 3, 1) := by decide +kernel
theorem dX4_pass_11 : decode cX4_pass 11 = .ok (.iload_n 3, 1) := by decide +kernel
theorem dX4_pass_12 : decode cX4_pass 12 = .ok (.iload_n 1, 1) := by decide +kernel
theorem dX4_pass_13 : decode cX4_pass 13 = .ok (.if_icmp .ge 50, 3) := by decide +kernel
theorem dX4_pass_16 : decode cX4_pass 16 = .ok (.aload_n 0, 1) := by decide +kernel
theorem dX4_pass_17 : decode cX4_pass 17 = .ok (.dup, 1) := by decide +kernel
theorem dX4_pass_18 : decode cX4_pass 18 = .ok (.getfield 140, 3) := by decide +kernel
theorem dX4_pass_21 : decode cX4_pass 21 = .ok (.iconst 1, 1) := by decide +kernel
theorem dX4_pass_22 : decode cX4_pass 22 = .ok (.iadd, 1) := by decide +kernel
theorem dX4_pass_23 : decode cX4_pass 23 = .ok (.putfield 140, 3) := by decide +kernel
theorem dX4_pass_26 : decode cX4_pass 26 = .ok (.iconst 0, 1) := by decide +kernel
theorem dX4_pass_27 : decode cX4_pass 27 = .ok (.istore 4, 2) := by decide +kernel
theorem dX4_pass_29 : decode cX4_pass 29 = .ok (.iload 4, 2) := by decide +kernel
theorem dX4_pass_31 : decode cX4_pass 31 = .ok (.iconst 3, 1) := by decide +kernel
theorem dX4_pass_32 : decode cX4_pass 32 = .ok (.if_icmp .ge 25, 3) := by decide +kernel
theorem dX4_pass_35 : decode cX4_pass 35 = .ok (.iload_n 2, 1) := by decide +kernel
theorem dX4_pass_36 : decode cX4_pass 36 = .ok (.aload_n 0, 1) := by decide +kernel
theorem dX4_pass_37 : decode cX4_pass 37 = .ok (.iload 4, 2) := by decide +kernel
theorem dX4_pass_39 : decode cX4_pass 39 = .ok (.invokevirtual 113, 3) := by decide +kernel
theorem dX4_pass_42 : decode cX4_pass 42 = .ok (.aload_n 0, 1) := by decide +kernel
theorem dX4_pass_43 : decode cX4_pass 43 = .ok (.getfield 140, 3) := by decide +kernel
theorem dX4_pass_46 : decode cX4_pass 46 = .ok (.invokevirtual 143, 3) := by decide +kernel
theorem dX4_pass_49 : decode cX4_pass 49 = .ok (.iadd, 1) := by decide +kernel
theorem dX4_pass_50 : decode cX4_pass 50 = .ok (.istore_n 2, 1) := by decide +kernel
theorem dX4_pass_51 : decode cX4_pass 51 = .ok (.iinc 4 1, 3) := by decide +kernel
theorem dX4_pass_54 : decode cX4_pass 54 = .ok (.goto (-25), 3) := by decide +kernel
theorem dX4_pass_57 : decode cX4_pass 57 = .ok (.iinc 3 1, 3) := by decide +kernel
theorem dX4_pass_60 : decode cX4_pass 60 = .ok (.goto (-49), 3) := by decide +kernel
theorem dX4_pass_63 : decode cX4_pass 63 = .ok (.iload_n 2, 1) := by decide +kernel
theorem dX4_pass_64 : decode cX4_pass 64 = .ok (.ireturn, 1) := by decide +kernel
theorem dX4_hour_0 : decode cX4_hour 0 = .ok (.aload_n 0, 1) := by decide +kernel
theorem dX4_hour_1 : decode cX4_hour 1 = .ok (.getfield 140, 3) := by decide +kernel
theorem dX4_hour_4 : decode cX4_hour 4 = .ok (.ireturn, 1) := by decide +kernel
set_option maxRecDepth 20000 in
theorem ggX4_ofCell_X4_needCell : GoodIn wsX4_ofCell wsX4_needCell := goodIn_ca (goodIn_r _ [11, 12, 13, 14, 15, 16, 10, 17, 18, 19, 20, 21, 22, 23, 24, 25, 26, 55, 56, 57, 58, 59, 60, 61, 62, 63, 64] (by decide +kernel) (by decide +kernel)) (goodIn_sub (fun _ h => List.mem_cons_of_mem _ (List.mem_append_left _ (List.mem_append_right _ h))) (by decide +kernel))
set_option maxRecDepth 20000 in
theorem gX4_ofCell_X4_needCell : GoodIn wsX4_ofCell (wsV RX4 68 RX4 yX4_needCell wsX4_needCell) := goodIn_app (goodIn_of _ (by decide +kernel)) ggX4_ofCell_X4_needCell
set_option maxRecDepth 20000 in
theorem ggX4_ofCell_X4_needRange : GoodIn wsX4_ofCell wsX4_needRange := goodIn_ca (goodIn_r _ [29, 30, 31] (by decide +kernel) (by decide +kernel)) (goodIn_sub (fun _ h => List.mem_cons_of_mem _ (List.mem_append_right _ h)) (by decide +kernel))
set_option maxRecDepth 20000 in
theorem gX4_ofCell_X4_needRange : GoodIn wsX4_ofCell (va_wsS RX4 28 yX4_needRange wsX4_needRange) := goodIn_app (goodIn_of _ (by decide +kernel)) ggX4_ofCell_X4_needRange
set_option maxRecDepth 20000 in
theorem ggX4_ofCell_X4_bitsOf : GoodIn wsX4_ofCell wsX4_bitsOf := goodIn_r _ [34, 35, 36, 37] (by decide +kernel) (by decide +kernel)
set_option maxRecDepth 20000 in
theorem gX4_ofCell_X4_bitsOf : GoodIn wsX4_ofCell (va_wsS RX4 157 yX4_bitsOf wsX4_bitsOf) := goodIn_app (goodIn_of _ (by decide +kernel)) ggX4_ofCell_X4_bitsOf
theorem dX4_ofCell_0 : decode cX4_ofCell 0 = .ok (.aload_n 0, 1) := by decide +kernel
theorem dX4_ofCell_1 : decode cX4_ofCell 1 = .ok (.iload_n 1, 1) := by decide +kernel
theorem dX4_ofCell_2 : decode cX4_ofCell 2 = .ok (.iload_n 2, 1) := by decide +kernel
theorem dX4_ofCell_3 : decode cX4_ofCell 3 = .ok (.iload_n 3, 1) := by decide +kernel
theorem dX4_ofCell_4 : decode cX4_ofCell 4 = .ok (.invokevirtual 68, 3) := by decide +kernel
theorem dX4_ofCell_7 : decode cX4_ofCell 7 = .ok (.astore 5, 2) := by decide +kernel
theorem dX4_ofCell_9 : decode cX4_ofCell 9 = .ok (.iload 4, 2) := by decide +kernel
theorem dX4_ofCell_11 : decode cX4_ofCell 11 = .ok (.iconst 0, 1) := by decide +kernel
theorem dX4_ofCell_12 : decode cX4_ofCell 12 = .ok (.iconst 4, 1) := by decide +kernel
theorem dX4_ofCell_13 : decode cX4_ofCell 13 = .ok (.invokestatic 28, 3) := by decide +kernel
theorem dX4_ofCell_16 : decode cX4_ofCell 16 = .ok (.iload 4, 2) := by decide +kernel
theorem dX4_ofCell_18 : decode cX4_ofCell 18 = .ok (.tableswitch 72 0 3 #[30, 36, 57, 63], 30) := by decide +kernel
theorem dX4_ofCell_48 : decode cX4_ofCell 48 = .ok (.aload 5, 2) := by decide +kernel
theorem dX4_ofCell_50 : decode cX4_ofCell 50 = .ok (.getfield 83, 3) := by decide +kernel
theorem dX4_ofCell_53 : decode cX4_ofCell 53 = .ok (.ireturn, 1) := by decide +kernel
theorem dX4_ofCell_54 : decode cX4_ofCell 54 = .ok (.aload 5, 2) := by decide +kernel
theorem dX4_ofCell_56 : decode cX4_ofCell 56 = .ok (.getfield 146, 3) := by decide +kernel
theorem dX4_ofCell_59 : decode cX4_ofCell 59 = .ok (.ifnonnull 7, 3) := by decide +kernel
theorem dX4_ofCell_62 : decode cX4_ofCell 62 = .ok (.iconst (-1), 1) := by decide +kernel
theorem dX4_ofCell_63 : decode cX4_ofCell 63 = .ok (.goto 11, 3) := by decide +kernel
theorem dX4_ofCell_66 : decode cX4_ofCell 66 = .ok (.aload 5, 2) := by decide +kernel
theorem dX4_ofCell_68 : decode cX4_ofCell 68 = .ok (.getfield 146, 3) := by decide +kernel
theorem dX4_ofCell_71 : decode cX4_ofCell 71 = .ok (.getfield 150, 3) := by decide +kernel
theorem dX4_ofCell_74 : decode cX4_ofCell 74 = .ok (.ireturn, 1) := by decide +kernel
theorem dX4_ofCell_75 : decode cX4_ofCell 75 = .ok (.aload 5, 2) := by decide +kernel
theorem dX4_ofCell_77 : decode cX4_ofCell 77 = .ok (.getfield 80, 3) := by decide +kernel
theorem dX4_ofCell_80 : decode cX4_ofCell 80 = .ok (.ireturn, 1) := by decide +kernel
theorem dX4_ofCell_81 : decode cX4_ofCell 81 = .ok (.aload 5, 2) := by decide +kernel
theorem dX4_ofCell_83 : decode cX4_ofCell 83 = .ok (.getfield 153, 3) := by decide +kernel
theorem dX4_ofCell_86 : decode cX4_ofCell 86 = .ok (.invokestatic 157, 3) := by decide +kernel
theorem dX4_ofCell_89 : decode cX4_ofCell 89 = .ok (.ireturn, 1) := by decide +kernel
theorem dX4_ofCell_90 : decode cX4_ofCell 90 = .ok (.aload 5, 2) := by decide +kernel
theorem dX4_ofCell_92 : decode cX4_ofCell 92 = .ok (.getfield 83, 3) := by decide +kernel
theorem dX4_ofCell_95 : decode cX4_ofCell 95 = .ok (.iconst 2, 1) := by decide +kernel
theorem dX4_ofCell_96 : decode cX4_ofCell 96 = .ok (.if_icmp .ne 11, 3) := by decide +kernel
theorem dX4_ofCell_99 : decode cX4_ofCell 99 = .ok (.aload 5, 2) := by decide +kernel
theorem dX4_ofCell_101 : decode cX4_ofCell 101 = .ok (.getfield 161, 3) := by decide +kernel
theorem dX4_ofCell_104 : decode cX4_ofCell 104 = .ok (.goto 4, 3) := by decide +kernel
theorem dX4_ofCell_107 : decode cX4_ofCell 107 = .ok (.iconst (-1), 1) := by decide +kernel
theorem dX4_ofCell_108 : decode cX4_ofCell 108 = .ok (.ireturn, 1) := by decide +kernel
set_option maxRecDepth 20000 in
theorem ggX4_aimAnew_X4_needCell : GoodIn wsX4_aimAnew wsX4_needCell := goodIn_ca (goodIn_r _ [5, 6, 7, 8, 9, 10, 4, 11, 12, 13, 14, 15, 16, 17, 18, 19, 20, 64, 65, 66, 67, 68, 69, 70, 71, 72, 73] (by decide +kernel) (by decide +kernel)) (goodIn_sub (fun _ h => List.mem_cons_of_mem _ (List.mem_append_right _ h)) (by decide +kernel))
set_option maxRecDepth 20000 in
theorem gX4_aimAnew_X4_needCell : GoodIn wsX4_aimAnew (wsV RX4 68 RX4 yX4_needCell wsX4_needCell) := goodIn_app (goodIn_of _ (by decide +kernel)) ggX4_aimAnew_X4_needCell
set_option maxRecDepth 20000 in
theorem ggX4_aimAnew_X4_needPicture : GoodIn wsX4_aimAnew wsX4_needPicture := goodIn_ca (goodIn_r _ [11, 6, 7, 12, 64, 65, 66, 67, 68, 69] (by decide +kernel) (by decide +kernel)) (goodIn_sub (fun _ h => List.mem_cons_of_mem _ (List.mem_append_right _ h)) (by decide +kernel))
set_option maxRecDepth 20000 in
theorem gX4_aimAnew_X4_needPicture : GoodIn wsX4_aimAnew (wsV RX4 88 RX4 yX4_needPicture wsX4_needPicture) := goodIn_app (goodIn_of _ (by decide +kernel)) ggX4_aimAnew_X4_needPicture
set_option maxRecDepth 20000 in
theorem ggX4_aimAnew_X3_aimByNow : GoodIn wsX4_aimAnew wsX3_aimByNow := goodIn_r _ [24, 20, 25, 26, 27, 28, 29, 16, 30, 31, 32, 33, 34, 35, 36, 37, 38, 39, 40, 41, 42, 43, 44, 45, 46, 47, 48, 49, 50, 51, 52, 14, 15, 17, 18, 19, 53, 54, 55, 56, 57, 70, 71, 72, 73, 74, 75, 76, 77, 78, 79, 80, 81, 82, 83, 84, 85, 86, 87, 88, 89, 90] (by decide +kernel) (by decide +kernel)
set_option maxRecDepth 20000 in
theorem gX4_aimAnew_X3_aimByNow : GoodIn wsX4_aimAnew (wsV RX4 164 RX3 yX3_aimByNow wsX3_aimByNow) := goodIn_app (goodIn_of _ (by decide +kernel)) ggX4_aimAnew_X3_aimByNow
set_option maxRecDepth 20000 in
theorem ggX4_aimAnew_X4_bitsOf : GoodIn wsX4_aimAnew wsX4_bitsOf := goodIn_r _ [60, 61, 62, 63] (by decide +kernel) (by decide +kernel)
set_option maxRecDepth 20000 in
theorem gX4_aimAnew_X4_bitsOf : GoodIn wsX4_aimAnew (va_wsS RX4 157 yX4_bitsOf wsX4_bitsOf) := goodIn_app (goodIn_of _ (by decide +kernel)) ggX4_aimAnew_X4_bitsOf
theorem dX4_aimAnew_0 : decode cX4_aimAnew 0 = .ok (.aload_n 0, 1) := by decide +kernel
theorem dX4_aimAnew_1 : decode cX4_aimAnew 1 = .ok (.iload_n 1, 1) := by decide +kernel
theorem dX4_aimAnew_2 : decode cX4_aimAnew 2 = .ok (.iload_n 2, 1) := by decide +kernel
theorem dX4_aimAnew_3 : decode cX4_aimAnew 3 = .ok (.iload_n 3, 1) := by decide +kernel
theorem dX4_aimAnew_4 : decode cX4_aimAnew 4 = .ok (.invokevirtual 68, 3) := by decide +kernel
theorem dX4_aimAnew_7 : decode cX4_aimAnew 7 = .ok (.astore 4, 2) := by decide +kernel
theorem dX4_aimAnew_9 : decode cX4_aimAnew 9 = .ok (.aload_n 0, 1) := by decide +kernel
theorem dX4_aimAnew_10 : decode cX4_aimAnew 10 = .ok (.iload_n 1, 1) := by decide +kernel
theorem dX4_aimAnew_11 : decode cX4_aimAnew 11 = .ok (.invokevirtual 88, 3) := by decide +kernel
theorem dX4_aimAnew_14 : decode cX4_aimAnew 14 = .ok (.aload 4, 2) := by decide +kernel
theorem dX4_aimAnew_16 : decode cX4_aimAnew 16 = .ok (.invokevirtual 164, 3) := by decide +kernel
theorem dX4_aimAnew_19 : decode cX4_aimAnew 19 = .ok (.invokestatic 157, 3) := by decide +kernel
theorem dX4_aimAnew_22 : decode cX4_aimAnew 22 = .ok (.ireturn, 1) := by decide +kernel
set_option maxRecDepth 20000 in
theorem ggX4_edge_X4_needPicture : GoodIn wsX4_edge wsX4_needPicture := goodIn_ca (goodIn_r _ [5, 6, 7, 8, 45, 46, 47, 48, 49, 50] (by decide +kernel) (by decide +kernel)) (goodIn_sub (fun _ h => List.mem_cons_of_mem _ (List.mem_append_right _ h)) (by decide +kernel))
set_option maxRecDepth 20000 in
theorem gX4_edge_X4_needPicture : GoodIn wsX4_edge (wsV RX4 88 RX4 yX4_needPicture wsX4_needPicture) := goodIn_app (goodIn_of _ (by decide +kernel)) ggX4_edge_X4_needPicture
set_option maxRecDepth 20000 in
theorem ggX4_edge_X3_greatestEdge : GoodIn wsX4_edge wsX3_greatestEdge := goodIn_r _ [13, 14, 15, 16, 17, 18, 19, 12, 20, 21, 22, 23, 24, 25, 26, 27, 28, 29, 30, 31, 32, 33, 34, 35, 36, 37, 38, 51, 52, 53, 54, 55, 56, 57, 58, 59, 60, 61, 62, 63, 64, 65, 66, 67, 68, 69, 70, 71] (by decide +kernel) (by decide +kernel)
set_option maxRecDepth 20000 in
theorem gX4_edge_X3_greatestEdge : GoodIn wsX4_edge (wsV RX4 168 RX3 yX3_greatestEdge wsX3_greatestEdge) := goodIn_app (goodIn_of _ (by decide +kernel)) ggX4_edge_X3_greatestEdge
set_option maxRecDepth 20000 in
theorem ggX4_edge_X4_bitsOf : GoodIn wsX4_edge wsX4_bitsOf := goodIn_r _ [41, 42, 43, 44] (by decide +kernel) (by decide +kernel)
set_option maxRecDepth 20000 in
theorem gX4_edge_X4_bitsOf : GoodIn wsX4_edge (va_wsS RX4 157 yX4_bitsOf wsX4_bitsOf) := goodIn_app (goodIn_of _ (by decide +kernel)) ggX4_edge_X4_bitsOf
theorem dX4_edge_0 : decode cX4_edge 0 = .ok (.aload_n 0, 1) := by decide +kernel
theorem dX4_edge_1 : decode cX4_edge 1 = .ok (.iload_n 1, 1) := by decide +kernel
theorem dX4_edge_2 : decode cX4_edge 2 = .ok (.invokevirtual 88, 3) := by decide +kernel
theorem dX4_edge_5 : decode cX4_edge 5 = .ok (.invokevirtual 168, 3) := by decide +kernel
theorem dX4_edge_8 : decode cX4_edge 8 = .ok (.invokestatic 157, 3) := by decide +kernel
theorem dX4_edge_11 : decode cX4_edge 11 = .ok (.ireturn, 1) := by decide +kernel
set_option maxRecDepth 20000 in
theorem ggX4_ofLot_X4_needLot : GoodIn wsX4_ofLot wsX4_needLot := goodIn_ca (goodIn_r _ [10, 11, 12, 13, 32, 33, 34, 35, 36, 37] (by decide +kernel) (by decide +kernel)) (goodIn_sub (fun _ h => List.mem_cons_of_mem _ (List.mem_append_left _ (List.mem_append_right _ h))) (by decide +kernel))
set_option maxRecDepth 20000 in
theorem gX4_ofLot_X4_needLot : GoodIn wsX4_ofLot (wsV RX4 47 RX4 yX4_needLot wsX4_needLot) := goodIn_app (goodIn_of _ (by decide +kernel)) ggX4_ofLot_X4_needLot
set_option maxRecDepth 20000 in
theorem ggX4_ofLot_X4_needRange : GoodIn wsX4_ofLot wsX4_needRange := goodIn_ca (goodIn_r _ [16, 17, 18] (by decide +kernel) (by decide +kernel)) (goodIn_sub (fun _ h => List.mem_cons_of_mem _ (List.mem_append_right _ h)) (by decide +kernel))
set_option maxRecDepth 20000 in
theorem gX4_ofLot_X4_needRange : GoodIn wsX4_ofLot (va_wsS RX4 28 yX4_needRange wsX4_needRange) := goodIn_app (goodIn_of _ (by decide +kernel)) ggX4_ofLot_X4_needRange
set_option maxRecDepth 20000 in
theorem ggX4_ofLot_X4_bitsOf : GoodIn wsX4_ofLot wsX4_bitsOf := goodIn_r _ [21, 22, 23, 24] (by decide +kernel) (by decide +kernel)
set_option maxRecDepth 20000 in
theorem gX4_ofLot_X4_bitsOf : GoodIn wsX4_ofLot (va_wsS RX4 157 yX4_bitsOf wsX4_bitsOf) := goodIn_app (goodIn_of _ (by decide +kernel)) ggX4_ofLot_X4_bitsOf
theorem dX4_ofLot_0 : decode cX4_ofLot 0 = .ok (.aload_n 0, 1) := by decide +kernel
theorem dX4_ofLot_1 : decode cX4_ofLot 1 = .ok (.iload_n 1, 1) := by decide +kernel
theorem dX4_ofLot_2 : decode cX4_ofLot 2 = .ok (.invokevirtual 47, 3) := by decide +kernel
theorem dX4_ofLot_5 : decode cX4_ofLot 5 = .ok (.astore_n 3, 1) := by decide +kernel
theorem dX4_ofLot_6 : decode cX4_ofLot 6 = .ok (.iload_n 2, 1) := by decide +kernel
theorem dX4_ofLot_7 : decode cX4_ofLot 7 = .ok (.iconst 0, 1) := by decide +kernel
theorem dX4_ofLot_8 : decode cX4_ofLot 8 = .ok (.iconst 4, 1) := by decide +kernel
theorem dX4_ofLot_9 : decode cX4_ofLot 9 = .ok (.invokestatic 28, 3) := by decide +kernel
theorem dX4_ofLot_12 : decode cX4_ofLot 12 = .ok (.iload_n 2, 1) := by decide +kernel
theorem dX4_ofLot_13 : decode cX4_ofLot 13 = .ok (.tableswitch 59 0 3 #[31, 36, 41, 46], 31) := by decide +kernel
theorem dX4_ofLot_44 : decode cX4_ofLot 44 = .ok (.aload_n 3, 1) := by decide +kernel
theorem dX4_ofLot_45 : decode cX4_ofLot 45 = .ok (.getfield 57, 3) := by decide +kernel
theorem dX4_ofLot_48 : decode cX4_ofLot 48 = .ok (.ireturn, 1) := by decide +kernel
theorem dX4_ofLot_49 : decode cX4_ofLot 49 = .ok (.aload_n 3, 1) := by decide +kernel
theorem dX4_ofLot_50 : decode cX4_ofLot 50 = .ok (.getfield 172, 3) := by decide +kernel
theorem dX4_ofLot_53 : decode cX4_ofLot 53 = .ok (.ireturn, 1) := by decide +kernel
theorem dX4_ofLot_54 : decode cX4_ofLot 54 = .ok (.aload_n 3, 1) := by decide +kernel
theorem dX4_ofLot_55 : decode cX4_ofLot 55 = .ok (.getfield 175, 3) := by decide +kernel
theorem dX4_ofLot_58 : decode cX4_ofLot 58 = .ok (.ireturn, 1) := by decide +kernel
theorem dX4_ofLot_59 : decode cX4_ofLot 59 = .ok (.aload_n 3, 1) := by decide +kernel
theorem dX4_ofLot_60 : decode cX4_ofLot 60 = .ok (.getfield 51, 3) := by decide +kernel
theorem dX4_ofLot_63 : decode cX4_ofLot 63 = .ok (.ifCond .eq 7, 3) := by decide +kernel
theorem dX4_ofLot_66 : decode cX4_ofLot 66 = .ok (.iconst 1, 1) := by decide +kernel
theorem dX4_ofLot_67 : decode cX4_ofLot 67 = .ok (.goto 4, 3) := by decide +kernel
theorem dX4_ofLot_70 : decode cX4_ofLot 70 = .ok (.iconst 0, 1) := by decide +kernel
theorem dX4_ofLot_71 : decode cX4_ofLot 71 = .ok (.ireturn, 1) := by decide +kernel
theorem dX4_ofLot_72 : decode cX4_ofLot 72 = .ok (.aload_n 3, 1) := by decide +kernel
theorem dX4_ofLot_73 : decode cX4_ofLot 73 = .ok (.getfield 178, 3) := by decide +kernel
theorem dX4_ofLot_76 : decode cX4_ofLot 76 = .ok (.invokestatic 157, 3) := by decide +kernel
theorem dX4_ofLot_79 : decode cX4_ofLot 79 = .ok (.ireturn, 1) := by decide +kernel
set_option maxRecDepth 20000 in
theorem ggX4_ofPicture_X4_needPicture : GoodIn wsX4_ofPicture wsX4_needPicture := goodIn_ca (goodIn_r _ [5, 6, 7, 8, 21, 22, 23, 24, 25, 26] (by decide +kernel) (by decide +kernel)) (goodIn_sub (fun _ h => List.mem_cons_of_mem _ (List.mem_append_left _ (List.mem_append_right _ h))) (by decide +kernel))
set_option maxRecDepth 20000 in
theorem gX4_ofPicture_X4_needPicture : GoodIn wsX4_ofPicture (wsV RX4 88 RX4 yX4_needPicture wsX4_needPicture) := goodIn_app (goodIn_of _ (by decide +kernel)) ggX4_ofPicture_X4_needPicture
set_option maxRecDepth 20000 in
theorem ggX4_ofPicture_X4_needRange : GoodIn wsX4_ofPicture wsX4_needRange := goodIn_ca (goodIn_r _ [11, 12, 13] (by decide +kernel) (by decide +kernel)) (goodIn_sub (fun _ h => List.mem_cons_of_mem _ (List.mem_append_right _ h)) (by decide +kernel))
set_option maxRecDepth 20000 in
theorem gX4_ofPicture_X4_needRange : GoodIn wsX4_ofPicture (va_wsS RX4 28 yX4_needRange wsX4_needRange) := goodIn_app (goodIn_of _ (by decide +kernel)) ggX4_ofPicture_X4_needRange
set_option maxRecDepth 20000 in
theorem ggX4_ofPicture_X3_count : GoodIn wsX4_ofPicture wsX3_count := goodIn_r _ [18, 19, 20, 27, 28, 29, 30, 31, 32, 33, 34, 35, 36, 37, 38, 39, 40] (by decide +kernel) (by decide +kernel)
set_option maxRecDepth 20000 in
theorem gX4_ofPicture_X3_count : GoodIn wsX4_ofPicture (wsV RX4 92 RX3 yX3_count wsX3_count) := goodIn_app (goodIn_of _ (by decide +kernel)) ggX4_ofPicture_X3_count
theorem dX4_ofPicture_0 : decode cX4_ofPicture 0 = .ok (.aload_n 0, 1) := by decide +kernel
theorem dX4_ofPicture_1 : decode cX4_ofPicture 1 = .ok (.iload_n 1, 1) := by decide +kernel
theorem dX4_ofPicture_2 : decode cX4_ofPicture 2 = .ok (.invokevirtual 88, 3) := by decide +kernel
theorem dX4_ofPicture_5 : decode cX4_ofPicture 5 = .ok (.astore_n 3, 1) := by decide +kernel
theorem dX4_ofPicture_6 : decode cX4_ofPicture 6 = .ok (.iload_n 2, 1) := by decide +kernel
theorem dX4_ofPicture_7 : decode cX4_ofPicture 7 = .ok (.iconst 0, 1) := by decide +kernel
theorem dX4_ofPicture_8 : decode cX4_ofPicture 8 = .ok (.iconst 3, 1) := by decide +kernel
theorem dX4_ofPicture_9 : decode cX4_ofPicture 9 = .ok (.invokestatic 28, 3) := by decide +kernel
theorem dX4_ofPicture_12 : decode cX4_ofPicture 12 = .ok (.aload_n 3, 1) := by decide +kernel
theorem dX4_ofPicture_13 : decode cX4_ofPicture 13 = .ok (.iload_n 2, 1) := by decide +kernel
theorem dX4_ofPicture_14 : decode cX4_ofPicture 14 = .ok (.invokevirtual 92, 3) := by decide +kernel
theorem dX4_ofPicture_17 : decode cX4_ofPicture 17 = .ok (.ireturn, 1) := by decide +kernel
set_option maxRecDepth 20000 in
theorem ggX4_ofCrew_X4_needCrew : GoodIn wsX4_ofCrew wsX4_needCrew := goodIn_ca (goodIn_r _ [8, 9, 10, 11, 31, 32, 33, 34, 35, 36] (by decide +kernel) (by decide +kernel)) (goodIn_sub (fun _ h => List.mem_cons_of_mem _ (List.mem_append_left _ (List.mem_append_right _ h))) (by decide +kernel))
set_option maxRecDepth 20000 in
theorem gX4_ofCrew_X4_needCrew : GoodIn wsX4_ofCrew (wsV RX4 113 RX4 yX4_needCrew wsX4_needCrew) := goodIn_app (goodIn_of _ (by decide +kernel)) ggX4_ofCrew_X4_needCrew
set_option maxRecDepth 20000 in
theorem ggX4_ofCrew_X4_needRange : GoodIn wsX4_ofCrew wsX4_needRange := goodIn_ca (goodIn_r _ [14, 15, 16] (by decide +kernel) (by decide +kernel)) (goodIn_sub (fun _ h => List.mem_cons_of_mem _ (List.mem_append_right _ h)) (by decide +kernel))
set_option maxRecDepth 20000 in
theorem gX4_ofCrew_X4_needRange : GoodIn wsX4_ofCrew (va_wsS RX4 28 yX4_needRange wsX4_needRange) := goodIn_app (goodIn_of _ (by decide +kernel)) ggX4_ofCrew_X4_needRange
set_option maxRecDepth 20000 in
theorem ggX4_ofCrew_X1_pictureNumber : GoodIn wsX4_ofCrew wsX1_pictureNumber := goodIn_r _ [21, 22, 23, 24, 25, 26, 27, 28, 29, 30, 37, 38, 39, 40] (by decide +kernel) (by decide +kernel)
set_option maxRecDepth 20000 in
theorem gX4_ofCrew_X1_pictureNumber : GoodIn wsX4_ofCrew (wsV RX4 117 RX1 yX1_pictureNumber wsX1_pictureNumber) := goodIn_app (goodIn_of _ (by decide +kernel)) ggX4_ofCrew_X1_pictureNumber
theorem dX4_ofCrew_0 : decode cX4_ofCrew 0 = .ok (.aload_n 0, 1) := by decide +kernel
theorem dX4_ofCrew_1 : decode cX4_ofCrew 1 = .ok (.iload_n 1, 1) := by decide +kernel
theorem dX4_ofCrew_2 : decode cX4_ofCrew 2 = .ok (.invokevirtual 113, 3) := by decide +kernel
theorem dX4_ofCrew_5 : decode cX4_ofCrew 5 = .ok (.astore_n 3, 1) := by decide +kernel
theorem dX4_ofCrew_6 : decode cX4_ofCrew 6 = .ok (.iload_n 2, 1) := by decide +kernel
theorem dX4_ofCrew_7 : decode cX4_ofCrew 7 = .ok (.iconst 0, 1) := by decide +kernel
theorem dX4_ofCrew_8 : decode cX4_ofCrew 8 = .ok (.iconst 3, 1) := by decide +kernel
theorem dX4_ofCrew_9 : decode cX4_ofCrew 9 = .ok (.invokestatic 28, 3) := by decide +kernel
theorem dX4_ofCrew_12 : decode cX4_ofCrew 12 = .ok (.iload_n 2, 1) := by decide +kernel
theorem dX4_ofCrew_13 : decode cX4_ofCrew 13 = .ok (.tableswitch 42 0 2 #[27, 32, 37], 27) := by decide +kernel
theorem dX4_ofCrew_40 : decode cX4_ofCrew 40 = .ok (.aload_n 3, 1) := by decide +kernel
theorem dX4_ofCrew_41 : decode cX4_ofCrew 41 = .ok (.invokevirtual 117, 3) := by decide +kernel
theorem dX4_ofCrew_44 : decode cX4_ofCrew 44 = .ok (.ireturn, 1) := by decide +kernel
theorem dX4_ofCrew_45 : decode cX4_ofCrew 45 = .ok (.aload_n 3, 1) := by decide +kernel
theorem dX4_ofCrew_46 : decode cX4_ofCrew 46 = .ok (.getfield 133, 3) := by decide +kernel
theorem dX4_ofCrew_49 : decode cX4_ofCrew 49 = .ok (.ireturn, 1) := by decide +kernel
theorem dX4_ofCrew_50 : decode cX4_ofCrew 50 = .ok (.aload_n 3, 1) := by decide +kernel
theorem dX4_ofCrew_51 : decode cX4_ofCrew 51 = .ok (.getfield 130, 3) := by decide +kernel
theorem dX4_ofCrew_54 : decode cX4_ofCrew 54 = .ok (.ireturn, 1) := by decide +kernel
theorem dX4_ofCrew_55 : decode cX4_ofCrew 55 = .ok (.aload_n 3, 1) := by decide +kernel
theorem dX4_ofCrew_56 : decode cX4_ofCrew 56 = .ok (.getfield 181, 3) := by decide +kernel
theorem dX4_ofCrew_59 : decode cX4_ofCrew 59 = .ok (.ireturn, 1) := by decide +kernel
theorem dX4_needRange_0 : decode cX4_needRange 0 = .ok (.iload_n 0, 1) := by decide +kernel
theorem dX4_needRange_1 : decode cX4_needRange 1 = .ok (.iload_n 1, 1) := by decide +kernel
theorem dX4_needRange_2 : decode cX4_needRange 2 = .ok (.if_icmp .lt 8, 3) := by decide +kernel
theorem dX4_needRange_5 : decode cX4_needRange 5 = .ok (.iload_n 0, 1) := by decide +kernel
theorem dX4_needRange_6 : decode cX4_needRange 6 = .ok (.iload_n 2, 1) := by decide +kernel
theorem dX4_needRange_7 : decode cX4_needRange 7 = .ok (.if_icmp .le 13, 3) := by decide +kernel
theorem dX4_needRange_10 : decode cX4_needRange 10 = .ok (.new 104, 3) := by decide +kernel
theorem dX4_needRange_13 : decode cX4_needRange 13 = .ok (.dup, 1) := by decide +kernel
theorem dX4_needRange_14 : decode cX4_needRange 14 = .ok (.ldc 182, 2) := by decide +kernel
theorem dX4_needRange_16 : decode cX4_needRange 16 = .ok (.invokespecial 108, 3) := by decide +kernel
theorem dX4_needRange_19 : decode cX4_needRange 19 = .ok (.athrow, 1) := by decide +kernel
theorem dX4_needRange_20 : decode cX4_needRange 20 = .ok (.return_, 1) := by decide +kernel
theorem dX4_needLot_0 : decode cX4_needLot 0 = .ok (.iload_n 1, 1) := by decide +kernel
theorem dX4_needLot_1 : decode cX4_needLot 1 = .ok (.ifCond .lt 21, 3) := by decide +kernel
theorem dX4_needLot_4 : decode cX4_needLot 4 = .ok (.iload_n 1, 1) := by decide +kernel
theorem dX4_needLot_5 : decode cX4_needLot 5 = .ok (.aload_n 0, 1) := by decide +kernel
theorem dX4_needLot_6 : decode cX4_needLot 6 = .ok (.getfield 11, 3) := by decide +kernel
theorem dX4_needLot_9 : decode cX4_needLot 9 = .ok (.arraylength, 1) := by decide +kernel
theorem dX4_needLot_10 : decode cX4_needLot 10 = .ok (.if_icmp .ge 12, 3) := by decide +kernel
theorem dX4_needLot_13 : decode cX4_needLot 13 = .ok (.aload_n 0, 1) := by decide +kernel
theorem dX4_needLot_14 : decode cX4_needLot 14 = .ok (.getfield 11, 3) := by decide +kernel
theorem dX4_needLot_17 : decode cX4_needLot 17 = .ok (.iload_n 1, 1) := by decide +kernel
theorem dX4_needLot_18 : decode cX4_needLot 18 = .ok (.aaload, 1) := by decide +kernel
theorem dX4_needLot_19 : decode cX4_needLot 19 = .ok (.goto 4, 3) := by decide +kernel
theorem dX4_needLot_22 : decode cX4_needLot 22 = .ok (.aconst_null, 1) := by decide +kernel
theorem dX4_needLot_23 : decode cX4_needLot 23 = .ok (.astore_n 2, 1) := by decide +kernel
theorem dX4_needLot_24 : decode cX4_needLot 24 = .ok (.aload_n 2, 1) := by decide +kernel
theorem dX4_needLot_25 : decode cX4_needLot 25 = .ok (.ifnonnull 13, 3) := by decide +kernel
theorem dX4_needLot_28 : decode cX4_needLot 28 = .ok (.new 184, 3) := by decide +kernel
theorem dX4_needLot_31 : decode cX4_needLot 31 = .ok (.dup, 1) := by decide +kernel
theorem dX4_needLot_32 : decode cX4_needLot 32 = .ok (.ldc 186, 2) := by decide +kernel
theorem dX4_needLot_34 : decode cX4_needLot 34 = .ok (.invokespecial 188, 3) := by decide +kernel
theorem dX4_needLot_37 : decode cX4_needLot 37 = .ok (.athrow, 1) := by decide +kernel
theorem dX4_needLot_38 : decode cX4_needLot 38 = .ok (.aload_n 2, 1) := by decide +kernel
theorem dX4_needLot_39 : decode cX4_needLot 39 = .ok (.areturn, 1) := by decide +kernel
theorem dX4_needPicture_0 : decode cX4_needPicture 0 = .ok (.iload_n 1, 1) := by decide +kernel
theorem dX4_needPicture_1 : decode cX4_needPicture 1 = .ok (.ifCond .lt 21, 3) := by decide +kernel
theorem dX4_needPicture_4 : decode cX4_needPicture 4 = .ok (.iload_n 1, 1) := by decide +kernel
theorem dX4_needPicture_5 : decode cX4_needPicture 5 = .ok (.aload_n 0, 1) := by decide +kernel
theorem dX4_needPicture_6 : decode cX4_needPicture 6 = .ok (.getfield 17, 3) := by decide +kernel
theorem dX4_needPicture_9 : decode cX4_needPicture 9 = .ok (.arraylength, 1) := by decide +kernel
theorem dX4_needPicture_10 : decode cX4_needPicture 10 = .ok (.if_icmp .ge 12, 3) := by decide +kernel
theorem dX4_needPicture_13 : decode cX4_needPicture 13 = .ok (.aload_n 0, 1) := by decide +kernel
theorem dX4_needPicture_14 : decode cX4_needPicture 14 = .ok (.getfield 17, 3) := by decide +kernel
theorem dX4_needPicture_17 : decode cX4_needPicture 17 = .ok (.iload_n 1, 1) := by decide +kernel
theorem dX4_needPicture_18 : decode cX4_needPicture 18 = .ok (.aaload, 1) := by decide +kernel
theorem dX4_needPicture_19 : decode cX4_needPicture 19 = .ok (.goto 4, 3) := by decide +kernel
theorem dX4_needPicture_22 : decode cX4_needPicture 22 = .ok (.aconst_null, 1) := by decide +kernel
theorem dX4_needPicture_23 : decode cX4_needPicture 23 = .ok (.astore_n 2, 1) := by decide +kernel
theorem dX4_needPicture_24 : decode cX4_needPicture 24 = .ok (.aload_n 2, 1) := by decide +kernel
theorem dX4_needPicture_25 : decode cX4_needPicture 25 = .ok (.ifnonnull 13, 3) := by decide +kernel
theorem dX4_needPicture_28 : decode cX4_needPicture 28 = .ok (.new 184, 3) := by decide +kernel
theorem dX4_needPicture_31 : decode cX4_needPicture 31 = .ok (.dup, 1) := by decide +kernel
theorem dX4_needPicture_32 : decode cX4_needPicture 32 = .ok (.ldc 189, 2) := by decide +kernel
theorem dX4_needPicture_34 : decode cX4_needPicture 34 = .ok (.invokespecial 188, 3) := by decide +kernel
theorem dX4_needPicture_37 : decode cX4_needPicture 37 = .ok (.athrow, 1) := by decide +kernel
theorem dX4_needPicture_38 : decode cX4_needPicture 38 = .ok (.aload_n 2, 1) := by decide +kernel
theorem dX4_needPicture_39 : decode cX4_needPicture 39 = .ok (.areturn, 1) := by decide +kernel
set_option maxRecDepth 20000 in
theorem ggX4_needCell_X4_needPicture : GoodIn wsX4_needCell wsX4_needPicture := goodIn_ca (goodIn_r _ [7, 1, 2, 8, 17, 18, 19, 20, 21, 22] (by decide +kernel) (by decide +kernel)) (goodIn_sub (fun _ h => List.mem_cons_of_mem _ (List.mem_append_right _ h)) (by decide +kernel))
set_option maxRecDepth 20000 in
theorem gX4_needCell_X4_needPicture : GoodIn wsX4_needCell (wsV RX4 88 RX4 yX4_needPicture wsX4_needPicture) := goodIn_app (goodIn_of _ (by decide +kernel)) ggX4_needCell_X4_needPicture
set_option maxRecDepth 20000 in
theorem ggX4_needCell_X3_cellAt : GoodIn wsX4_needCell wsX3_cellAt := goodIn_r _ [13, 14, 15, 16, 23, 24, 25, 26] (by decide +kernel) (by decide +kernel)
set_option maxRecDepth 20000 in
theorem gX4_needCell_X3_cellAt : GoodIn wsX4_needCell (wsV RX4 191 RX3 yX3_cellAt wsX3_cellAt) := goodIn_app (goodIn_of _ (by decide +kernel)) ggX4_needCell_X3_cellAt
theorem dX4_needCell_0 : decode cX4_needCell 0 = .ok (.aload_n 0, 1) := by decide +kernel
theorem dX4_needCell_1 : decode cX4_needCell 1 = .ok (.iload_n 1, 1) := by decide +kernel
theorem dX4_needCell_2 : decode cX4_needCell 2 = .ok (.invokevirtual 88, 3) := by decide +kernel
theorem dX4_needCell_5 : decode cX4_needCell 5 = .ok (.iload_n 2, 1) := by decide +kernel
theorem dX4_needCell_6 : decode cX4_needCell 6 = .ok (.iload_n 3, 1) := by decide +kernel
theorem dX4_needCell_7 : decode cX4_needCell 7 = .ok (.invokevirtual 191, 3) := by decide +kernel
theorem dX4_needCell_10 : decode cX4_needCell 10 = .ok (.astore 4, 2) := by decide +kernel
theorem dX4_needCell_12 : decode cX4_needCell 12 = .ok (.aload 4, 2) := by decide +kernel
theorem dX4_needCell_14 : decode cX4_needCell 14 = .ok (.ifnonnull 13, 3) := by decide +kernel
theorem dX4_needCell_17 : decode cX4_needCell 17 = .ok (.new 184, 3) := by decide +kernel
theorem dX4_needCell_20 : decode cX4_needCell 20 = .ok (.dup, 1) := by decide +kernel
theorem dX4_needCell_21 : decode cX4_needCell 21 = .ok (.ldc 195, 2) := by decide +kernel
theorem dX4_needCell_23 : decode cX4_needCell 23 = .ok (.invokespecial 188, 3) := by decide +kernel
theorem dX4_needCell_26 : decode cX4_needCell 26 = .ok (.athrow, 1) := by decide +kernel
theorem dX4_needCell_27 : decode cX4_needCell 27 = .ok (.aload 4, 2) := by decide +kernel
theorem dX4_needCell_29 : decode cX4_needCell 29 = .ok (.areturn, 1) := by decide +kernel
theorem dX4_needCrew_0 : decode cX4_needCrew 0 = .ok (.iload_n 1, 1) := by decide +kernel
theorem dX4_needCrew_1 : decode cX4_needCrew 1 = .ok (.ifCond .lt 21, 3) := by decide +kernel
theorem dX4_needCrew_4 : decode cX4_needCrew 4 = .ok (.iload_n 1, 1) := by decide +kernel
theorem dX4_needCrew_5 : decode cX4_needCrew 5 = .ok (.aload_n 0, 1) := by decide +kernel
theorem dX4_needCrew_6 : decode cX4_needCrew 6 = .ok (.getfield 23, 3) := by decide +kernel
theorem dX4_needCrew_9 : decode cX4_needCrew 9 = .ok (.arraylength, 1) := by decide +kernel
theorem dX4_needCrew_10 : decode cX4_needCrew 10 = .ok (.if_icmp .ge 12, 3) := by decide +kernel
theorem dX4_needCrew_13 : decode cX4_needCrew 13 = .ok (.aload_n 0, 1) := by decide +kernel
theorem dX4_needCrew_14 : decode cX4_needCrew 14 = .ok (.getfield 23, 3) := by decide +kernel
theorem dX4_needCrew_17 : decode cX4_needCrew 17 = .ok (.iload_n 1, 1) := by decide +kernel
theorem dX4_needCrew_18 : decode cX4_needCrew 18 = .ok (.aaload, 1) := by decide +kernel
theorem dX4_needCrew_19 : decode cX4_needCrew 19 = .ok (.goto 4, 3) := by decide +kernel
theorem dX4_needCrew_22 : decode cX4_needCrew 22 = .ok (.aconst_null, 1) := by decide +kernel
theorem dX4_needCrew_23 : decode cX4_needCrew 23 = .ok (.astore_n 2, 1) := by decide +kernel
theorem dX4_needCrew_24 : decode cX4_needCrew 24 = .ok (.aload_n 2, 1) := by decide +kernel
theorem dX4_needCrew_25 : decode cX4_needCrew 25 = .ok (.ifnonnull 13, 3) := by decide +kernel
theorem dX4_needCrew_28 : decode cX4_needCrew 28 = .ok (.new 184, 3) := by decide +kernel
theorem dX4_needCrew_31 : decode cX4_needCrew 31 = .ok (.dup, 1) := by decide +kernel
theorem dX4_needCrew_32 : decode cX4_needCrew 32 = .ok (.ldc 197, 2) := by decide +kernel
theorem dX4_needCrew_34 : decode cX4_needCrew 34 = .ok (.invokespecial 188, 3) := by decide +kernel
theorem dX4_needCrew_37 : decode cX4_needCrew 37 = .ok (.athrow, 1) := by decide +kernel
theorem dX4_needCrew_38 : decode cX4_needCrew 38 = .ok (.aload_n 2, 1) := by decide +kernel
theorem dX4_needCrew_39 : decode cX4_needCrew 39 = .ok (.areturn, 1) := by decide +kernel
theorem dX4_bitsOf_0 : decode cX4_bitsOf 0 = .ok (.fload_n 0, 1) := by decide +kernel
theorem dX4_bitsOf_1 : decode cX4_bitsOf 1 = .ok (.fconst 0, 1) := by decide +kernel
theorem dX4_bitsOf_2 : decode cX4_bitsOf 2 = .ok (.fcmp .l, 1) := by decide +kernel
theorem dX4_bitsOf_3 : decode cX4_bitsOf 3 = .ok (.ifCond .ne 5, 3) := by decide +kernel
theorem dX4_bitsOf_6 : decode cX4_bitsOf 6 = .ok (.iconst 0, 1) := by decide +kernel
theorem dX4_bitsOf_7 : decode cX4_bitsOf 7 = .ok (.ireturn, 1) := by decide +kernel
theorem dX4_bitsOf_8 : decode cX4_bitsOf 8 = .ok (.fload_n 0, 1) := by decide +kernel
theorem dX4_bitsOf_9 : decode cX4_bitsOf 9 = .ok (.fconst 0, 1) := by decide +kernel
theorem dX4_bitsOf_10 : decode cX4_bitsOf 10 = .ok (.fcmp .g, 1) := by decide +kernel
theorem dX4_bitsOf_11 : decode cX4_bitsOf 11 = .ok (.ifCond .ge 8, 3) := by decide +kernel
theorem dX4_bitsOf_14 : decode cX4_bitsOf 14 = .ok (.fload_n 0, 1) := by decide +kernel
theorem dX4_bitsOf_15 : decode cX4_bitsOf 15 = .ok (.fneg, 1) := by decide +kernel
theorem dX4_bitsOf_16 : decode cX4_bitsOf 16 = .ok (.goto 4, 3) := by decide +kernel
theorem dX4_bitsOf_19 : decode cX4_bitsOf 19 = .ok (.fload_n 0, 1) := by decide +kernel
theorem dX4_bitsOf_20 : decode cX4_bitsOf 20 = .ok (.fstore_n 1, 1) := by decide +kernel
theorem dX4_bitsOf_21 : decode cX4_bitsOf 21 = .ok (.bipush 127, 2) := by decide +kernel
theorem dX4_bitsOf_23 : decode cX4_bitsOf 23 = .ok (.istore_n 2, 1) := by decide +kernel
theorem dX4_bitsOf_24 : decode cX4_bitsOf 24 = .ok (.iload_n 2, 1) := by decide +kernel
theorem dX4_bitsOf_25 : decode cX4_bitsOf 25 = .ok (.sipush 254, 3) := by decide +kernel
theorem dX4_bitsOf_28 : decode cX4_bitsOf 28 = .ok (.if_icmp .ge 20, 3) := by decide +kernel
theorem dX4_bitsOf_31 : decode cX4_bitsOf 31 = .ok (.fload_n 1, 1) := by decide +kernel
theorem dX4_bitsOf_32 : decode cX4_bitsOf 32 = .ok (.fconst 2, 1) := by decide +kernel
theorem dX4_bitsOf_33 : decode cX4_bitsOf 33 = .ok (.fcmp .l, 1) := by decide +kernel
theorem dX4_bitsOf_34 : decode cX4_bitsOf 34 = .ok (.ifCond .lt 14, 3) := by decide +kernel
theorem dX4_bitsOf_37 : decode cX4_bitsOf 37 = .ok (.fload_n 1, 1) := by decide +kernel
theorem dX4_bitsOf_38 : decode cX4_bitsOf 38 = .ok (.ldc 199, 2) := by decide +kernel
theorem dX4_bitsOf_40 : decode cX4_bitsOf 40 = .ok (.fmul, 1) := by decide +kernel
theorem dX4_bitsOf_41 : decode cX4_bitsOf 41 = .ok (.fstore_n 1, 1) := by decide +kernel
theorem dX4_bitsOf_42 : decode cX4_bitsOf 42 = .ok (.iinc 2 1, 3) := by decide +kernel
theorem dX4_bitsOf_45 : decode cX4_bitsOf 45 = .ok (.goto (-21), 3) := by decide +kernel
theorem dX4_bitsOf_48 : decode cX4_bitsOf 48 = .ok (.iload_n 2, 1) := by decide +kernel
theorem dX4_bitsOf_49 : decode cX4_bitsOf 49 = .ok (.iconst 1, 1) := by decide +kernel
theorem dX4_bitsOf_50 : decode cX4_bitsOf 50 = .ok (.if_icmp .le 19, 3) := by decide +kernel
theorem dX4_bitsOf_53 : decode cX4_bitsOf 53 = .ok (.fload_n 1, 1) := by decide +kernel
theorem dX4_bitsOf_54 : decode cX4_bitsOf 54 = .ok (.fconst 1, 1) := by decide +kernel
theorem dX4_bitsOf_55 : decode cX4_bitsOf 55 = .ok (.fcmp .g, 1) := by decide +kernel
theorem dX4_bitsOf_56 : decode cX4_bitsOf 56 = .ok (.ifCond .ge 13, 3) := by decide +kernel
theorem dX4_bitsOf_59 : decode cX4_bitsOf 59 = .ok (.fload_n 1, 1) := by decide +kernel
theorem dX4_bitsOf_60 : decode cX4_bitsOf 60 = .ok (.fconst 2, 1) := by decide +kernel
theorem dX4_bitsOf_61 : decode cX4_bitsOf 61 = .ok (.fmul, 1) := by decide +kernel
theorem dX4_bitsOf_62 : decode cX4_bitsOf 62 = .ok (.fstore_n 1, 1) := by decide +kernel
theorem dX4_bitsOf_63 : decode cX4_bitsOf 63 = .ok (.iinc 2 (-1), 3) := by decide +kernel
theorem dX4_bitsOf_66 : decode cX4_bitsOf 66 = .ok (.goto (-18), 3) := by decide +kernel
theorem dX4_bitsOf_69 : decode cX4_bitsOf 69 = .ok (.iload_n 2, 1) := by decide +kernel
theorem dX4_bitsOf_70 : decode cX4_bitsOf 70 = .ok (.iconst 1, 1) := by decide +kernel
theorem dX4_bitsOf_71 : decode cX4_bitsOf 71 = .ok (.isub, 1) := by decide +kernel
theorem dX4_bitsOf_72 : decode cX4_bitsOf 72 = .ok (.bipush 23, 2) := by decide +kernel
theorem dX4_bitsOf_74 : decode cX4_bitsOf 74 = .ok (.ishl, 1) := by decide +kernel
theorem dX4_bitsOf_75 : decode cX4_bitsOf 75 = .ok (.fload_n 1, 1) := by decide +kernel
theorem dX4_bitsOf_76 : decode cX4_bitsOf 76 = .ok (.ldc 200, 2) := by decide +kernel
theorem dX4_bitsOf_78 : decode cX4_bitsOf 78 = .ok (.fmul, 1) := by decide +kernel
theorem dX4_bitsOf_79 : decode cX4_bitsOf 79 = .ok (.f2i, 1) := by decide +kernel
theorem dX4_bitsOf_80 : decode cX4_bitsOf 80 = .ok (.iadd, 1) := by decide +kernel
theorem dX4_bitsOf_81 : decode cX4_bitsOf 81 = .ok (.istore_n 3, 1) := by decide +kernel
theorem dX4_bitsOf_82 : decode cX4_bitsOf 82 = .ok (.fload_n 0, 1) := by decide +kernel
theorem dX4_bitsOf_83 : decode cX4_bitsOf 83 = .ok (.fconst 0, 1) := by decide +kernel
theorem dX4_bitsOf_84 : decode cX4_bitsOf 84 = .ok (.fcmp .g, 1) := by decide +kernel
theorem dX4_bitsOf_85 : decode cX4_bitsOf 85 = .ok (.ifCond .ge 10, 3) := by decide +kernel
theorem dX4_bitsOf_88 : decode cX4_bitsOf 88 = .ok (.iload_n 3, 1) := by decide +kernel
theorem dX4_bitsOf_89 : decode cX4_bitsOf 89 = .ok (.ldc 201, 2) := by decide +kernel
theorem dX4_bitsOf_91 : decode cX4_bitsOf 91 = .ok (.ior, 1) := by decide +kernel
theorem dX4_bitsOf_92 : decode cX4_bitsOf 92 = .ok (.goto 4, 3) := by decide +kernel
theorem dX4_bitsOf_95 : decode cX4_bitsOf 95 = .ok (.iload_n 3, 1) := by decide +kernel
theorem dX4_bitsOf_96 : decode cX4_bitsOf 96 = .ok (.ireturn, 1) := by decide +kernel
theorem dX5_init_0 : decode cX5_init 0 = .ok (.aload_n 0, 1) := by decide +kernel
theorem dX5_init_1 : decode cX5_init 1 = .ok (.invokespecial 1, 3) := by decide +kernel
theorem dX5_init_4 : decode cX5_init 4 = .ok (.aload_n 0, 1) := by decide +kernel
theorem dX5_init_5 : decode cX5_init 5 = .ok (.bipush 12, 2) := by decide +kernel
theorem dX5_init_7 : decode cX5_init 7 = .ok (.newarray .float, 2) := by decide +kernel
theorem dX5_init_9 : decode cX5_init 9 = .ok (.putfield 7, 3) := by decide +kernel
theorem dX5_init_12 : decode cX5_init 12 = .ok (.aload_n 0, 1) := by decide +kernel
theorem dX5_init_13 : decode cX5_init 13 = .ok (.bipush 12, 2) := by decide +kernel
theorem dX5_init_15 : decode cX5_init 15 = .ok (.newarray .int, 2) := by decide +kernel
theorem dX5_init_17 : decode cX5_init 17 = .ok (.putfield 13, 3) := by decide +kernel
theorem dX5_init_20 : decode cX5_init 20 = .ok (.aload_n 0, 1) := by decide +kernel
theorem dX5_init_21 : decode cX5_init 21 = .ok (.bipush 12, 2) := by decide +kernel
theorem dX5_init_23 : decode cX5_init 23 = .ok (.newarray .int, 2) := by decide +kernel
theorem dX5_init_25 : decode cX5_init 25 = .ok (.putfield 17, 3) := by decide +kernel
theorem dX5_init_28 : decode cX5_init 28 = .ok (.aload_n 0, 1) := by decide +kernel
theorem dX5_init_29 : decode cX5_init 29 = .ok (.bipush 12, 2) := by decide +kernel
theorem dX5_init_31 : decode cX5_init 31 = .ok (.newarray .boolean, 2) := by decide +kernel
theorem dX5_init_33 : decode cX5_init 33 = .ok (.putfield 20, 3) := by decide +kernel
theorem dX5_init_36 : decode cX5_init 36 = .ok (.aload_n 0, 1) := by decide +kernel
theorem dX5_init_37 : decode cX5_init 37 = .ok (.bipush 12, 2) := by decide +kernel
theorem dX5_init_39 : decode cX5_init 39 = .ok (.newarray .int, 2) := by decide +kernel
theorem dX5_init_41 : decode cX5_init 41 = .ok (.putfield 24, 3) := by decide +kernel
theorem dX5_init_44 : decode cX5_init 44 = .ok (.aload_n 0, 1) := by decide +kernel
theorem dX5_init_45 : decode cX5_init 45 = .ok (.bipush 12, 2) := by decide +kernel
theorem dX5_init_47 : decode cX5_init 47 = .ok (.newarray .int, 2) := by decide +kernel
theorem dX5_init_49 : decode cX5_init 49 = .ok (.putfield 27, 3) := by decide +kernel
theorem dX5_init_52 : decode cX5_init 52 = .ok (.aload_n 0, 1) := by decide +kernel
theorem dX5_init_53 : decode cX5_init 53 = .ok (.iconst 5, 1) := by decide +kernel
theorem dX5_init_54 : decode cX5_init 54 = .ok (.newarray .int, 2) := by decide +kernel
theorem dX5_init_56 : decode cX5_init 56 = .ok (.putfield 30, 3) := by decide +kernel
theorem dX5_init_59 : decode cX5_init 59 = .ok (.aload_n 0, 1) := by decide +kernel
theorem dX5_init_60 : decode cX5_init 60 = .ok (.iconst 5, 1) := by decide +kernel
theorem dX5_init_61 : decode cX5_init 61 = .ok (.newarray .int, 2) := by decide +kernel
theorem dX5_init_63 : decode cX5_init 63 = .ok (.putfield 33, 3) := by decide +kernel
theorem dX5_init_66 : decode cX5_init 66 = .ok (.aload_n 0, 1) := by decide +kernel
theorem dX5_init_67 : decode cX5_init 67 = .ok (.sipush 320, 3) := by decide +kernel
theorem dX5_init_70 : decode cX5_init 70 = .ok (.newarray .int, 2) := by decide +kernel
theorem dX5_init_72 : decode cX5_init 72 = .ok (.putfield 36, 3) := by decide +kernel
theorem dX5_init_75 : decode cX5_init 75 = .ok (.aload_n 0, 1) := by decide +kernel
theorem dX5_init_76 : decode cX5_init 76 = .ok (.sipush 320, 3) := by decide +kernel
theorem dX5_init_79 : decode cX5_init 79 = .ok (.newarray .int, 2) := by decide +kernel
theorem dX5_init_81 : decode cX5_init 81 = .ok (.putfield 39, 3) := by decide +kernel
theorem dX5_init_84 : decode cX5_init 84 = .ok (.aload_n 0, 1) := by decide +kernel
theorem dX5_init_85 : decode cX5_init 85 = .ok (.sipush 320, 3) := by decide +kernel
theorem dX5_init_88 : decode cX5_init 88 = .ok (.newarray .int, 2) := by decide +kernel
theorem dX5_init_90 : decode cX5_init 90 = .ok (.putfield 42, 3) := by decide +kernel
theorem dX5_init_93 : decode cX5_init 93 = .ok (.aload_n 0, 1) := by decide +kernel
theorem dX5_init_94 : decode cX5_init 94 = .ok (.sipush 320, 3) := by decide +kernel
theorem dX5_init_97 : decode cX5_init 97 = .ok (.newarray .float, 2) := by decide +kernel
theorem dX5_init_99 : decode cX5_init 99 = .ok (.putfield 45, 3) := by decide +kernel
theorem dX5_init_102 : decode cX5_init 102 = .ok (.aload_n 0, 1) := by decide +kernel
theorem dX5_init_103 : decode cX5_init 103 = .ok (.sipush 320, 3) := by decide +kernel
theorem dX5_init_106 : decode cX5_init 106 = .ok (.newarray .int, 2) := by decide +kernel
theorem dX5_init_108 : decode cX5_init 108 = .ok (.putfield 48, 3) := by decide +kernel
theorem dX5_init_111 : decode cX5_init 111 = .ok (.aload_n 0, 1) := by decide +kernel
theorem dX5_init_112 : decode cX5_init 112 = .ok (.sipush 320, 3) := by decide +kernel
theorem dX5_init_115 : decode cX5_init 115 = .ok (.newarray .int, 2) := by decide +kernel
theorem dX5_init_117 : decode cX5_init 117 = .ok (.putfield 51, 3) := by decide +kernel
theorem dX5_init_120 : decode cX5_init 120 = .ok (.aload_n 0, 1) := by decide +kernel
theorem dX5_init_121 : decode cX5_init 121 = .ok (.bipush 64, 2) := by decide +kernel
theorem dX5_init_123 : decode cX5_init 123 = .ok (.newarray .float, 2) := by decide +kernel
theorem dX5_init_125 : decode cX5_init 125 = .ok (.putfield 54, 3) := by decide +kernel
theorem dX5_init_128 : decode cX5_init 128 = .ok (.aload_n 0, 1) := by decide +kernel
theorem dX5_init_129 : decode cX5_init 129 = .ok (.bipush 64, 2) := by decide +kernel
theorem dX5_init_131 : decode cX5_init 131 = .ok (.newarray .int, 2) := by decide +kernel
theorem dX5_init_133 : decode cX5_init 133 = .ok (.putfield 57, 3) := by decide +kernel
theorem dX5_init_136 : decode cX5_init 136 = .ok (.aload_n 0, 1) := by decide +kernel
theorem dX5_init_137 : decode cX5_init 137 = .ok (.iconst 3, 1) := by decide +kernel
theorem dX5_init_138 : decode cX5_init 138 = .ok (.newarray .int, 2) := by decide +kernel
theorem dX5_init_140 : decode cX5_init 140 = .ok (.putfield 60, 3) := by decide +kernel
theorem dX5_init_143 : decode cX5_init 143 = .ok (.aload_n 0, 1) := by decide +kernel
theorem dX5_init_144 : decode cX5_init 144 = .ok (.iconst 3, 1) := by decide +kernel
theorem dX5_init_145 : decode cX5_init 145 = .ok (.newarray .int, 2) := by decide +kernel
theorem dX5_init_147 : decode cX5_init 147 = .ok (.putfield 63, 3) := by decide +kernel
theorem dX5_init_150 : decode cX5_init 150 = .ok (.aload_n 0, 1) := by decide +kernel
theorem dX5_init_151 : decode cX5_init 151 = .ok (.iconst 3, 1) := by decide +kernel
theorem dX5_init_152 : decode cX5_init 152 = .ok (.newarray .int, 2) := by decide +kernel
theorem dX5_init_154 : decode cX5_init 154 = .ok (.putfield 66, 3) := by decide +kernel
theorem dX5_init_157 : decode cX5_init 157 = .ok (.aload_n 0, 1) := by decide +kernel
theorem dX5_init_158 : decode cX5_init 158 = .ok (.iconst 3, 1) := by decide +kernel
theorem dX5_init_159 : decode cX5_init 159 = .ok (.newarray .int, 2) := by decide +kernel
theorem dX5_init_161 : decode cX5_init 161 = .ok (.putfield 69, 3) := by decide +kernel
theorem dX5_init_164 : decode cX5_init 164 = .ok (.aload_n 0, 1) := by decide +kernel
theorem dX5_init_165 : decode cX5_init 165 = .ok (.bipush 36, 2) := by decide +kernel
theorem dX5_init_167 : decode cX5_init 167 = .ok (.newarray .boolean, 2) := by decide +kernel
theorem dX5_init_169 : decode cX5_init 169 = .ok (.putfield 72, 3) := by decide +kernel
theorem dX5_init_172 : decode cX5_init 172 = .ok (.aload_n 0, 1) := by decide +kernel
theorem dX5_init_173 : decode cX5_init 173 = .ok (.iconst 3, 1) := by decide +kernel
theorem dX5_init_174 : decode cX5_init 174 = .ok (.newarray .int, 2) := by decide +kernel
theorem dX5_init_176 : decode cX5_init 176 = .ok (.putfield 75, 3) := by decide +kernel
theorem dX5_init_179 : decode cX5_init 179 = .ok (.iconst 0, 1) := by decide +kernel
theorem dX5_init_180 : decode cX5_init 180 = .ok (.istore_n 1, 1) := by decide +kernel
theorem dX5_init_181 : decode cX5_init 181 = .ok (.iload_n 1, 1) := by decide +kernel
theorem dX5_init_182 : decode cX5_init 182 = .ok (.iconst 3, 1) := by decide +kernel
theorem dX5_init_183 : decode cX5_init 183 = .ok (.if_icmp .ge 30, 3) := by decide +kernel
theorem dX5_init_186 : decode cX5_init 186 = .ok (.aload_n 0, 1) := by decide +kernel
theorem dX5_init_187 : decode cX5_init 187 = .ok (.getfield 60, 3) := by decide +kernel
theorem dX5_init_190 : decode cX5_init 190 = .ok (.iload_n 1, 1) := by decide +kernel
theorem dX5_init_191 : decode cX5_init 191 = .ok (.iconst (-1), 1) := by decide +kernel
theorem dX5_init_192 : decode cX5_init 192 = .ok (.iastore, 1) := by decide +kernel
theorem dX5_init_193 : decode cX5_init 193 = .ok (.aload_n 0, 1) := by decide +kernel
theorem dX5_init_194 : decode cX5_init 194 = .ok (.getfield 63, 3) := by decide +kernel
theorem dX5_init_197 : decode cX5_init 197 = .ok (.iload_n 1, 1) := by decide +kernel
theorem dX5_init_198 : decode cX5_init 198 = .ok (.iconst 1, 1) := by decide +kernel
theorem dX5_init_199 : decode cX5_init 199 = .ok (.iastore, 1) := by decide +kernel
theorem dX5_init_200 : decode cX5_init 200 = .ok (.aload_n 0, 1) := by decide +kernel
theorem dX5_init_201 : decode cX5_init 201 = .ok (.getfield 66, 3) := by decide +kernel
theorem dX5_init_204 : decode cX5_init 204 = .ok (.iload_n 1, 1) := by decide +kernel
theorem dX5_init_205 : decode cX5_init 205 = .ok (.iconst 1, 1) := by decide +kernel
theorem dX5_init_206 : decode cX5_init 206 = .ok (.iastore, 1) := by decide +kernel
theorem dX5_init_207 : decode cX5_init 207 = .ok (.iinc 1 1, 3) := by decide +kernel
theorem dX5_init_210 : decode cX5_init 210 = .ok (.goto (-29), 3) := by decide +kernel
theorem dX5_init_213 : decode cX5_init 213 = .ok (.return_, 1) := by decide +kernel
theorem dX5_thrown_0 : decode cX5_thrown 0 = .ok (.aload_n 0, 1) := by decide +kernel
theorem dX5_thrown_1 : decode cX5_thrown 1 = .ok (.getfield 78, 3) := by decide +kernel
theorem dX5_thrown_4 : decode cX5_thrown 4 = .ok (.ireturn, 1) := by decide +kernel
theorem dX5_asked_0 : decode cX5_asked 0 = .ok (.aload_n 0, 1) := by decide +kernel
theorem dX5_asked_1 : decode cX5_asked 1 = .ok (.iload_n 1, 1) := by decide +kernel
theorem dX5_asked_2 : decode cX5_asked 2 = .ok (.ifCond .eq 7, 3) := by decide +kernel
theorem dX5_asked_5 : decode cX5_asked 5 = .ok (.iconst 0, 1) := by decide +kernel
theorem dX5_asked_6 : decode cX5_asked 6 = .ok (.goto 4, 3) := by decide +kernel
theorem dX5_asked_9 : decode cX5_asked 9 = .ok (.iconst 1, 1) := by decide +kernel
theorem dX5_asked_10 : decode cX5_asked 10 = .ok (.putfield 78, 3) := by decide +kernel
theorem dX5_asked_13 : decode cX5_asked 13 = .ok (.iload_n 1, 1) := by decide +kernel
theorem dX5_asked_14 : decode cX5_asked 14 = .ok (.ireturn, 1) := by decide +kernel
theorem dX5_asked__0 : decode cX5_asked_ 0 = .ok (.aload_n 0, 1) := by decide +kernel
theorem dX5_asked__1 : decode cX5_asked_ 1 = .ok (.iload_n 1, 1) := by decide +kernel
theorem dX5_asked__2 : decode cX5_asked_ 2 = .ok (.ifCond .ne 7, 3) := by decide +kernel
theorem dX5_asked__5 : decode cX5_asked_ 5 = .ok (.iconst 1, 1) := by decide +kernel
theorem dX5_asked__6 : decode cX5_asked_ 6 = .ok (.goto 12, 3) := by decide +kernel
theorem dX5_asked__9 : decode cX5_asked_ 9 = .ok (.iload_n 2, 1) := by decide +kernel
theorem dX5_asked__10 : decode cX5_asked_ 10 = .ok (.ifCond .eq 7, 3) := by decide +kernel
theorem dX5_asked__13 : decode cX5_asked_ 13 = .ok (.iconst 0, 1) := by decide +kernel
theorem dX5_asked__14 : decode cX5_asked_ 14 = .ok (.goto 4, 3) := by decide +kernel
theorem dX5_asked__17 : decode cX5_asked_ 17 = .ok (.iconst 2, 1) := by decide +kernel
theorem dX5_asked__18 : decode cX5_asked_ 18 = .ok (.putfield 78, 3) := by decide +kernel
theorem dX5_asked__21 : decode cX5_asked_ 21 = .ok (.aload_n 0, 1) := by decide +kernel
theorem dX5_asked__22 : decode cX5_asked_ 22 = .ok (.getfield 78, 3) := by decide +kernel
theorem dX5_asked__25 : decode cX5_asked_ 25 = .ok (.ifCond .ne 7, 3) := by decide +kernel
theorem dX5_asked__28 : decode cX5_asked_ 28 = .ok (.iconst 1, 1) := by decide +kernel
theorem dX5_asked__29 : decode cX5_asked_ 29 = .ok (.goto 4, 3) := by decide +kernel
theorem dX5_asked__32 : decode cX5_asked_ 32 = .ok (.iconst 0, 1) := by decide +kernel
theorem dX5_asked__33 : decode cX5_asked_ 33 = .ok (.ireturn, 1) := by decide +kernel
theorem dX5_asked___0 : decode cX5_asked__ 0 = .ok (.aload_n 0, 1) := by decide +kernel
theorem dX5_asked___1 : decode cX5_asked__ 1 = .ok (.iload_n 1, 1) := by decide +kernel
theorem dX5_asked___2 : decode cX5_asked__ 2 = .ok (.ifCond .ne 7, 3) := by decide +kernel
theorem dX5_asked___5 : decode cX5_asked__ 5 = .ok (.iconst 1, 1) := by decide +kernel
theorem dX5_asked___6 : decode cX5_asked__ 6 = .ok (.goto 20, 3) := by decide +kernel
theorem dX5_asked___9 : decode cX5_asked__ 9 = .ok (.iload_n 2, 1) := by decide +kernel
theorem dX5_asked___10 : decode cX5_asked__ 10 = .ok (.ifCond .ne 7, 3) := by decide +kernel
theorem dX5_asked___13 : decode cX5_asked__ 13 = .ok (.iconst 2, 1) := by decide +kernel
theorem dX5_asked___14 : decode cX5_asked__ 14 = .ok (.goto 12, 3) := by decide +kernel
theorem dX5_asked___17 : decode cX5_asked__ 17 = .ok (.iload_n 3, 1) := by decide +kernel
theorem dX5_asked___18 : decode cX5_asked__ 18 = .ok (.ifCond .eq 7, 3) := by decide +kernel
theorem dX5_asked___21 : decode cX5_asked__ 21 = .ok (.iconst 0, 1) := by decide +kernel
theorem dX5_asked___22 : decode cX5_asked__ 22 = .ok (.goto 4, 3) := by decide +kernel
theorem dX5_asked___25 : decode cX5_asked__ 25 = .ok (.iconst 3, 1) := by decide +kernel
theorem dX5_asked___26 : decode cX5_asked__ 26 = .ok (.putfield 78, 3) := by decide +kernel
theorem dX5_asked___29 : decode cX5_asked__ 29 = .ok (.aload_n 0, 1) := by decide +kernel
theorem dX5_asked___30 : decode cX5_asked__ 30 = .ok (.getfield 78, 3) := by decide +kernel
theorem dX5_asked___33 : decode cX5_asked__ 33 = .ok (.ifCond .ne 7, 3) := by decide +kernel
theorem dX5_asked___36 : decode cX5_asked__ 36 = .ok (.iconst 1, 1) := by decide +kernel
theorem dX5_asked___37 : decode cX5_asked__ 37 = .ok (.goto 4, 3) := by decide +kernel
theorem dX5_asked___40 : decode cX5_asked__ 40 = .ok (.iconst 0, 1) := by decide +kernel
theorem dX5_asked___41 : decode cX5_asked__ 41 = .ok (.ireturn, 1) := by decide +kernel
theorem dX5_in_0 : decode cX5_in 0 = .ok (.iload_n 0, 1) := by decide +kernel
theorem dX5_in_1 : decode cX5_in 1 = .ok (.iload_n 1, 1) := by decide +kernel
theorem dX5_in_2 : decode cX5_in 2 = .ok (.if_icmp .lt 12, 3) := by decide +kernel
theorem dX5_in_5 : decode cX5_in 5 = .ok (.iload_n 0, 1) := by decide +kernel
theorem dX5_in_6 : decode cX5_in 6 = .ok (.iload_n 2, 1) := by decide +kernel
theorem dX5_in_7 : decode cX5_in 7 = .ok (.if_icmp .gt 7, 3) := by decide +kernel
theorem dX5_in_10 : decode cX5_in 10 = .ok (.iconst 1, 1) := by decide +kernel
theorem dX5_in_11 : decode cX5_in 11 = .ok (.goto 4, 3) := by decide +kernel
theorem dX5_in_14 : decode cX5_in 14 = .ok (.iconst 0, 1) := by decide +kernel
theorem dX5_in_15 : decode cX5_in 15 = .ok (.ireturn, 1) := by decide +kernel
set_option maxRecDepth 20000 in
theorem ggX5_isLot_X5_in : GoodIn wsX5_isLot wsX5_in := goodIn_r _ [5] (by decide +kernel) (by decide +kernel)
set_option maxRecDepth 20000 in
theorem gX5_isLot_X5_in : GoodIn wsX5_isLot (va_wsS RX5 85 yX5_in wsX5_in) := goodIn_app (goodIn_of _ (by decide +kernel)) ggX5_isLot_X5_in
theorem dX5_isLot_0 : decode cX5_isLot 0 = .ok (.iload_n 1, 1) := by decide +kernel
theorem dX5_isLot_1 : decode cX5_isLot 1 = .ok (.iconst 0, 1) := by decide +kernel
theorem dX5_isLot_2 : decode cX5_isLot 2 = .ok (.aload_n 0, 1) := by decide +kernel
theorem dX5_isLot_3 : decode cX5_isLot 3 = .ok (.getfield 82, 3) := by decide +kernel
theorem dX5_isLot_6 : decode cX5_isLot 6 = .ok (.iconst 1, 1) := by decide +kernel
theorem dX5_isLot_7 : decode cX5_isLot 7 = .ok (.isub, 1) := by decide +kernel
theorem dX5_isLot_8 : decode cX5_isLot 8 = .ok (.invokestatic 85, 3) := by decide +kernel
theorem dX5_isLot_11 : decode cX5_isLot 11 = .ok (.ireturn, 1) := by decide +kernel
set_option maxRecDepth 20000 in
theorem ggX5_isPicture_X5_in : GoodIn wsX5_isPicture wsX5_in := goodIn_r _ [5] (by decide +kernel) (by decide +kernel)
set_option maxRecDepth 20000 in
theorem gX5_isPicture_X5_in : GoodIn wsX5_isPicture (va_wsS RX5 85 yX5_in wsX5_in) := goodIn_app (goodIn_of _ (by decide +kernel)) ggX5_isPicture_X5_in
theorem dX5_isPicture_0 : decode cX5_isPicture 0 = .ok (.iload_n 1, 1) := by decide +kernel
theorem dX5_isPicture_1 : decode cX5_isPicture 1 = .ok (.iconst 0, 1) := by decide +kernel
theorem dX5_isPicture_2 : decode cX5_isPicture 2 = .ok (.aload_n 0, 1) := by decide +kernel
theorem dX5_isPicture_3 : decode cX5_isPicture 3 = .ok (.getfield 89, 3) := by decide +kernel
theorem dX5_isPicture_6 : decode cX5_isPicture 6 = .ok (.iconst 1, 1) := by decide +kernel
theorem dX5_isPicture_7 : decode cX5_isPicture 7 = .ok (.isub, 1) := by decide +kernel
theorem dX5_isPicture_8 : decode cX5_isPicture 8 = .ok (.invokestatic 85, 3) := by decide +kernel
theorem dX5_isPicture_11 : decode cX5_isPicture 11 = .ok (.ireturn, 1) := by decide +kernel
set_option maxRecDepth 20000 in
theorem ggX5_isCell_X5_isPicture : GoodIn wsX5_isCell wsX5_isPicture := goodIn_r _ [7, 8, 9, 10, 6, 11, 12, 13, 14, 15, 16, 17, 18, 19, 20, 21, 22, 23, 24, 25, 26, 27, 28, 29, 30, 31, 32, 33, 34, 35, 36, 37] (by decide +kernel) (by decide +kernel)
set_option maxRecDepth 20000 in
theorem gX5_isCell_X5_isPicture : GoodIn wsX5_isCell (wsV RX5 92 RX5 yX5_isPicture wsX5_isPicture) := goodIn_app (goodIn_of _ (by decide +kernel)) ggX5_isCell_X5_isPicture
set_option maxRecDepth 20000 in
theorem ggX5_isCell_X5_in : GoodIn wsX5_isCell wsX5_in := goodIn_r _ [11] (by decide +kernel) (by decide +kernel)
set_option maxRecDepth 20000 in
theorem gX5_isCell_X5_in : GoodIn wsX5_isCell (va_wsS RX5 85 yX5_in wsX5_in) := goodIn_app (goodIn_of _ (by decide +kernel)) ggX5_isCell_X5_in
theorem dX5_isCell_0 : decode cX5_isCell 0 = .ok (.aload_n 0, 1) := by decide +kernel
theorem dX5_isCell_1 : decode cX5_isCell 1 = .ok (.iload_n 1, 1) := by decide +kernel
theorem dX5_isCell_2 : decode cX5_isCell 2 = .ok (.invokevirtual 92, 3) := by decide +kernel
theorem dX5_isCell_5 : decode cX5_isCell 5 = .ok (.ifCond .eq 39, 3) := by decide +kernel
theorem dX5_isCell_8 : decode cX5_isCell 8 = .ok (.iload_n 2, 1) := by decide +kernel
theorem dX5_isCell_9 : decode cX5_isCell 9 = .ok (.iconst 0, 1) := by decide +kernel
theorem dX5_isCell_10 : decode cX5_isCell 10 = .ok (.aload_n 0, 1) := by decide +kernel
theorem dX5_isCell_11 : decode cX5_isCell 11 = .ok (.getfield 30, 3) := by decide +kernel
theorem dX5_isCell_14 : decode cX5_isCell 14 = .ok (.iload_n 1, 1) := by decide +kernel
theorem dX5_isCell_15 : decode cX5_isCell 15 = .ok (.iaload, 1) := by decide +kernel
theorem dX5_isCell_16 : decode cX5_isCell 16 = .ok (.iconst 1, 1) := by decide +kernel
theorem dX5_isCell_17 : decode cX5_isCell 17 = .ok (.isub, 1) := by decide +kernel
theorem dX5_isCell_18 : decode cX5_isCell 18 = .ok (.invokestatic 85, 3) := by decide +kernel
theorem dX5_isCell_21 : decode cX5_isCell 21 = .ok (.ifCond .eq 23, 3) := by decide +kernel
theorem dX5_isCell_24 : decode cX5_isCell 24 = .ok (.iload_n 3, 1) := by decide +kernel
theorem dX5_isCell_25 : decode cX5_isCell 25 = .ok (.iconst 0, 1) := by decide +kernel
theorem dX5_isCell_26 : decode cX5_isCell 26 = .ok (.aload_n 0, 1) := by decide +kernel
theorem dX5_isCell_27 : decode cX5_isCell 27 = .ok (.getfield 33, 3) := by decide +kernel
theorem dX5_isCell_30 : decode cX5_isCell 30 = .ok (.iload_n 1, 1) := by decide +kernel
theorem dX5_isCell_31 : decode cX5_isCell 31 = .ok (.iaload, 1) := by decide +kernel
theorem dX5_isCell_32 : decode cX5_isCell 32 = .ok (.iconst 1, 1) := by decide +kernel
theorem dX5_isCell_33 : decode cX5_isCell 33 = .ok (.isub, 1) := by decide +kernel
theorem dX5_isCell_34 : decode cX5_isCell 34 = .ok (.invokestatic 85, 3) := by decide +kernel
theorem dX5_isCell_37 : decode cX5_isCell 37 = .ok (.ifCond .eq 7, 3) := by decide +kernel
theorem dX5_isCell_40 : decode cX5_isCell 40 = .ok (.iconst 1, 1) := by decide +kernel
theorem dX5_isCell_41 : decode cX5_isCell 41 = .ok (.goto 4, 3) := by decide +kernel
theorem dX5_isCell_44 : decode cX5_isCell 44 = .ok (.iconst 0, 1) := by decide +kernel
theorem dX5_isCell_45 : decode cX5_isCell 45 = .ok (.ireturn, 1) := by decide +kernel
set_option maxRecDepth 20000 in
theorem ggX5_isCrew_X5_in : GoodIn wsX5_isCrew wsX5_in := goodIn_r _ [4] (by decide +kernel) (by decide +kernel)
set_option maxRecDepth 20000 in
theorem gX5_isCrew_X5_in : GoodIn wsX5_isCrew (va_wsS RX5 85 yX5_in wsX5_in) := goodIn_app (goodIn_of _ (by decide +kernel)) ggX5_isCrew_X5_in
theorem dX5_isCrew_0 : decode cX5_isCrew 0 = .ok (.iload_n 0, 1) := by decide +kernel
theorem dX5_isCrew_1 : decode cX5_isCrew 1 = .ok (.iconst 0, 1) := by decide +kernel
theorem dX5_isCrew_2 : decode cX5_isCrew 2 = .ok (.iconst 2, 1) := by decide +kernel
theorem dX5_isCrew_3 : decode cX5_isCrew 3 = .ok (.invokestatic 85, 3) := by decide +kernel
theorem dX5_isCrew_6 : decode cX5_isCrew 6 = .ok (.ireturn, 1) := by decide +kernel
theorem dX5_left_0 : decode cX5_left 0 = .ok (.aload_n 0, 1) := by decide +kernel
theorem dX5_left_1 : decode cX5_left 1 = .ok (.getfield 13, 3) := by decide +kernel
theorem dX5_left_4 : decode cX5_left 4 = .ok (.iload_n 1, 1) := by decide +kernel
theorem dX5_left_5 : decode cX5_left 5 = .ok (.iaload, 1) := by decide +kernel
theorem dX5_left_6 : decode cX5_left 6 = .ok (.aload_n 0, 1) := by decide +kernel
theorem dX5_left_7 : decode cX5_left 7 = .ok (.getfield 24, 3) := by decide +kernel
theorem dX5_left_10 : decode cX5_left 10 = .ok (.iload_n 1, 1) := by decide +kernel
theorem dX5_left_11 : decode cX5_left 11 = .ok (.iaload, 1) := by decide +kernel
theorem dX5_left_12 : decode cX5_left 12 = .ok (.isub, 1) := by decide +kernel
theorem dX5_left_13 : decode cX5_left 13 = .ok (.aload_n 0, 1) := by decide +kernel
theorem dX5_left_14 : decode cX5_left 14 = .ok (.getfield 27, 3) := by decide +kernel
theorem dX5_left_17 : decode cX5_left 17 = .ok (.iload_n 1, 1) := by decide +kernel
theorem dX5_left_18 : decode cX5_left 18 = .ok (.iaload, 1) := by decide +kernel
theorem dX5_left_19 : decode cX5_left 19 = .ok (.isub, 1) := by decide +kernel
theorem dX5_left_20 : decode cX5_left 20 = .ok (.ireturn, 1) := by decide +kernel
set_option maxRecDepth 20000 in
theorem ggX5_lot_X5_in : GoodIn wsX5_lot wsX5_in := goodIn_r _ [10] (by decide +kernel) (by decide +kernel)
set_option maxRecDepth 20000 in
theorem gX5_lot_X5_in : GoodIn wsX5_lot (va_wsS RX5 85 yX5_in wsX5_in) := goodIn_app (goodIn_of _ (by decide +kernel)) ggX5_lot_X5_in
set_option maxRecDepth 20000 in
theorem ggX5_lot_X5_asked_ : GoodIn wsX5_lot wsX5_asked_ := goodIn_r _ [14, 15, 16, 17, 18, 19, 20, 21, 22, 23, 24, 25, 26, 27, 28, 29, 30, 31, 32, 33, 34, 35, 36, 37, 38, 39, 40, 41] (by decide +kernel) (by decide +kernel)
set_option maxRecDepth 20000 in
theorem gX5_lot_X5_asked_ : GoodIn wsX5_lot (wsV RX5 96 RX5 yX5_asked_ wsX5_asked_) := goodIn_app (goodIn_of _ (by decide +kernel)) ggX5_lot_X5_asked_
theorem dX5_lot_0 : decode cX5_lot 0 = .ok (.aload_n 0, 1) := by decide +kernel
theorem dX5_lot_1 : decode cX5_lot 1 = .ok (.iload_n 1, 1) := by decide +kernel
theorem dX5_lot_2 : decode cX5_lot 2 = .ok (.iconst 0, 1) := by decide +kernel
theorem dX5_lot_3 : decode cX5_lot 3 = .ok (.sipush 25500, 3) := by decide +kernel
theorem dX5_lot_6 : decode cX5_lot 6 = .ok (.invokestatic 85, 3) := by decide +kernel
theorem dX5_lot_9 : decode cX5_lot 9 = .ok (.ifCond .eq 27, 3) := by decide +kernel
theorem dX5_lot_12 : decode cX5_lot 12 = .ok (.iload_n 2, 1) := by decide +kernel
theorem dX5_lot_13 : decode cX5_lot 13 = .ok (.iconst 1, 1) := by decide +kernel
theorem dX5_lot_14 : decode cX5_lot 14 = .ok (.sipush 500, 3) := by decide +kernel
theorem dX5_lot_17 : decode cX5_lot 17 = .ok (.invokestatic 85, 3) := by decide +kernel
theorem dX5_lot_20 : decode cX5_lot 20 = .ok (.ifCond .eq 16, 3) := by decide +kernel
theorem dX5_lot_23 : decode cX5_lot 23 = .ok (.iload_n 3, 1) := by decide +kernel
theorem dX5_lot_24 : decode cX5_lot 24 = .ok (.iconst 0, 1) := by decide +kernel
theorem dX5_lot_25 : decode cX5_lot 25 = .ok (.iconst 1, 1) := by decide +kernel
theorem dX5_lot_26 : decode cX5_lot 26 = .ok (.invokestatic 85, 3) := by decide +kernel
theorem dX5_lot_29 : decode cX5_lot 29 = .ok (.ifCond .eq 7, 3) := by decide +kernel
theorem dX5_lot_32 : decode cX5_lot 32 = .ok (.iconst 1, 1) := by decide +kernel
theorem dX5_lot_33 : decode cX5_lot 33 = .ok (.goto 4, 3) := by decide +kernel
theorem dX5_lot_36 : decode cX5_lot 36 = .ok (.iconst 0, 1) := by decide +kernel
theorem dX5_lot_37 : decode cX5_lot 37 = .ok (.aload_n 0, 1) := by decide +kernel
theorem dX5_lot_38 : decode cX5_lot 38 = .ok (.getfield 82, 3) := by decide +kernel
theorem dX5_lot_41 : decode cX5_lot 41 = .ok (.bipush 12, 2) := by decide +kernel
theorem dX5_lot_43 : decode cX5_lot 43 = .ok (.if_icmp .ge 7, 3) := by decide +kernel
theorem dX5_lot_46 : decode cX5_lot 46 = .ok (.iconst 1, 1) := by decide +kernel
theorem dX5_lot_47 : decode cX5_lot 47 = .ok (.goto 4, 3) := by decide +kernel
theorem dX5_lot_50 : decode cX5_lot 50 = .ok (.iconst 0, 1) := by decide +kernel
theorem dX5_lot_51 : decode cX5_lot 51 = .ok (.invokevirtual 96, 3) := by decide +kernel
theorem dX5_lot_54 : decode cX5_lot 54 = .ok (.ifCond .ne 5, 3) := by decide +kernel
theorem dX5_lot_57 : decode cX5_lot 57 = .ok (.iconst 0, 1) := by decide +kernel
theorem dX5_lot_58 : decode cX5_lot 58 = .ok (.ireturn, 1) := by decide +kernel
theorem dX5_lot_59 : decode cX5_lot 59 = .ok (.aload_n 0, 1) := by decide +kernel
theorem dX5_lot_60 : decode cX5_lot 60 = .ok (.getfield 7, 3) := by decide +kernel
theorem dX5_lot_63 : decode cX5_lot 63 = .ok (.aload_n 0, 1) := by decide +kernel
theorem dX5_lot_64 : decode cX5_lot 64 = .ok (.getfield 82, 3) := by decide +kernel
theorem dX5_lot_67 : decode cX5_lot 67 = .ok (.iload_n 1, 1) := by decide +kernel
theorem dX5_lot_68 : decode cX5_lot 68 = .ok (.i2f, 1) := by decide +kernel
theorem dX5_lot_69 : decode cX5_lot 69 = .ok (.ldc 100, 2) := by decide +kernel
theorem dX5_lot_71 : decode cX5_lot 71 = .ok (.fdiv, 1) := by decide +kernel
theorem dX5_lot_72 : decode cX5_lot 72 = .ok (.fastore, 1) := by decide +kernel
theorem dX5_lot_73 : decode cX5_lot 73 = .ok (.aload_n 0, 1) := by decide +kernel
theorem dX5_lot_74 : decode cX5_lot 74 = .ok (.getfield 13, 3) := by decide +kernel
theorem dX5_lot_77 : decode cX5_lot 77 = .ok (.aload_n 0, 1) := by decide +kernel
theorem dX5_lot_78 : decode cX5_lot 78 = .ok (.getfield 82, 3) := by decide +kernel
theorem dX5_lot_81 : decode cX5_lot 81 = .ok (.iload_n 2, 1) := by decide +kernel
theorem dX5_lot_82 : decode cX5_lot 82 = .ok (.iastore, 1) := by decide +kernel
theorem dX5_lot_83 : decode cX5_lot 83 = .ok (.aload_n 0, 1) := by decide +kernel
theorem dX5_lot_84 : decode cX5_lot 84 = .ok (.getfield 17, 3) := by decide +kernel
theorem dX5_lot_87 : decode cX5_lot 87 = .ok (.aload_n 0, 1) := by decide +kernel
theorem dX5_lot_88 : decode cX5_lot 88 = .ok (.getfield 82, 3) := by decide +kernel
theorem dX5_lot_91 : decode cX5_lot 91 = .ok (.iload_n 3, 1) := by decide +kernel
theorem dX5_lot_92 : decode cX5_lot 92 = .ok (.iastore, 1) := by decide +kernel
theorem dX5_lot_93 : decode cX5_lot 93 = .ok (.aload_n 0, 1) := by decide +kernel
theorem dX5_lot_94 : decode cX5_lot 94 = .ok (.getfield 20, 3) := by decide +kernel
theorem dX5_lot_97 : decode cX5_lot 97 = .ok (.aload_n 0, 1) := by decide +kernel
theorem dX5_lot_98 : decode cX5_lot 98 = .ok (.getfield 82, 3) := by decide +kernel
theorem dX5_lot_101 : decode cX5_lot 101 = .ok (.iload 4, 2) := by decide +kernel
theorem dX5_lot_103 : decode cX5_lot 103 = .ok (.bastore, 1) := by decide +kernel
theorem dX5_lot_104 : decode cX5_lot 104 = .ok (.aload_n 0, 1) := by decide +kernel
theorem dX5_lot_105 : decode cX5_lot 105 = .ok (.dup, 1) := by decide +kernel
theorem dX5_lot_106 : decode cX5_lot 106 = .ok (.getfield 82, 3) := by decide +kernel
theorem dX5_lot_109 : decode cX5_lot 109 = .ok (.iconst 1, 1) := by decide +kernel
theorem dX5_lot_110 : decode cX5_lot 110 = .ok (.iadd, 1) := by decide +kernel
theorem dX5_lot_111 : decode cX5_lot 111 = .ok (.putfield 82, 3) := by decide +kernel
theorem dX5_lot_114 : decode cX5_lot 114 = .ok (.aload_n 0, 1) := by decide +kernel
theorem dX5_lot_115 : decode cX5_lot 115 = .ok (.getfield 82, 3) := by decide +kernel
theorem dX5_lot_118 : decode cX5_lot 118 = .ok (.iconst 1, 1) := by decide +kernel
theorem dX5_lot_119 : decode cX5_lot 119 = .ok (.isub, 1) := by decide +kernel
theorem dX5_lot_120 : decode cX5_lot 120 = .ok (.ireturn, 1) := by decide +kernel
set_option maxRecDepth 20000 in
theorem ggX5_comes_X5_isLot : GoodIn wsX5_comes wsX5_isLot := goodIn_r _ [6, 7, 8, 9, 5, 10, 23, 24, 25, 26, 27, 28, 29, 30, 31, 32, 33, 34, 35, 36, 37, 38, 39, 40, 41, 42, 43, 44, 45, 46, 47, 48] (by decide +kernel) (by decide +kernel)
set_option maxRecDepth 20000 in
theorem gX5_comes_X5_isLot : GoodIn wsX5_comes (wsV RX5 101 RX5 yX5_isLot wsX5_isLot) := goodIn_app (goodIn_of _ (by decide +kernel)) ggX5_comes_X5_isLot
set_option maxRecDepth 20000 in
theorem ggX5_comes_X5_asked_ : GoodIn wsX5_comes wsX5_asked_ := goodIn_r _ [14, 15, 23, 24, 25, 26, 27, 28, 29, 30, 31, 32, 33, 34, 35, 36, 37, 38, 39, 40, 41, 42, 43, 44, 45, 46, 47, 48] (by decide +kernel) (by decide +kernel)
set_option maxRecDepth 20000 in
theorem gX5_comes_X5_asked_ : GoodIn wsX5_comes (wsV RX5 96 RX5 yX5_asked_ wsX5_asked_) := goodIn_app (goodIn_of _ (by decide +kernel)) ggX5_comes_X5_asked_
set_option maxRecDepth 20000 in
theorem ggX5_comes_X5_left : GoodIn wsX5_comes wsX5_left := goodIn_r _ [19, 20, 21, 22, 23, 24, 25, 26, 27, 28, 29, 30, 31, 32, 33, 34, 35, 36, 37, 38, 39, 40, 41, 42, 43, 44, 45, 46, 47, 48] (by decide +kernel) (by decide +kernel)
set_option maxRecDepth 20000 in
theorem gX5_comes_X5_left : GoodIn wsX5_comes (wsV RX5 104 RX5 yX5_left wsX5_left) := goodIn_app (goodIn_of _ (by decide +kernel)) ggX5_comes_X5_left
theorem dX5_comes_0 : decode cX5_comes 0 = .ok (.aload_n 0, 1) := by decide +kernel
theorem dX5_comes_1 : decode cX5_comes 1 = .ok (.iload_n 1, 1) := by decide +kernel
theorem dX5_comes_2 : decode cX5_comes 2 = .ok (.invokevirtual 101, 3) := by decide +kernel
theorem dX5_comes_5 : decode cX5_comes 5 = .ok (.istore_n 2, 1) := by decide +kernel
theorem dX5_comes_6 : decode cX5_comes 6 = .ok (.aload_n 0, 1) := by decide +kernel
theorem dX5_comes_7 : decode cX5_comes 7 = .ok (.iload_n 2, 1) := by decide +kernel
theorem dX5_comes_8 : decode cX5_comes 8 = .ok (.iload_n 2, 1) := by decide +kernel
theorem dX5_comes_9 : decode cX5_comes 9 = .ok (.ifCond .eq 16, 3) := by decide +kernel
theorem dX5_comes_12 : decode cX5_comes 12 = .ok (.aload_n 0, 1) := by decide +kernel
theorem dX5_comes_13 : decode cX5_comes 13 = .ok (.getfield 20, 3) := by decide +kernel
theorem dX5_comes_16 : decode cX5_comes 16 = .ok (.iload_n 1, 1) := by decide +kernel
theorem dX5_comes_17 : decode cX5_comes 17 = .ok (.baload, 1) := by decide +kernel
theorem dX5_comes_18 : decode cX5_comes 18 = .ok (.ifCond .ne 7, 3) := by decide +kernel
theorem dX5_comes_21 : decode cX5_comes 21 = .ok (.iconst 1, 1) := by decide +kernel
theorem dX5_comes_22 : decode cX5_comes 22 = .ok (.goto 4, 3) := by decide +kernel
theorem dX5_comes_25 : decode cX5_comes 25 = .ok (.iconst 0, 1) := by decide +kernel
theorem dX5_comes_26 : decode cX5_comes 26 = .ok (.invokevirtual 96, 3) := by decide +kernel
theorem dX5_comes_29 : decode cX5_comes 29 = .ok (.ifCond .ne 5, 3) := by decide +kernel
theorem dX5_comes_32 : decode cX5_comes 32 = .ok (.iconst 0, 1) := by decide +kernel
theorem dX5_comes_33 : decode cX5_comes 33 = .ok (.ireturn, 1) := by decide +kernel
theorem dX5_comes_34 : decode cX5_comes 34 = .ok (.aload_n 0, 1) := by decide +kernel
theorem dX5_comes_35 : decode cX5_comes 35 = .ok (.getfield 20, 3) := by decide +kernel
theorem dX5_comes_38 : decode cX5_comes 38 = .ok (.iload_n 1, 1) := by decide +kernel
theorem dX5_comes_39 : decode cX5_comes 39 = .ok (.iconst 1, 1) := by decide +kernel
theorem dX5_comes_40 : decode cX5_comes 40 = .ok (.bastore, 1) := by decide +kernel
theorem dX5_comes_41 : decode cX5_comes 41 = .ok (.aload_n 0, 1) := by decide +kernel
theorem dX5_comes_42 : decode cX5_comes 42 = .ok (.iload_n 1, 1) := by decide +kernel
theorem dX5_comes_43 : decode cX5_comes 43 = .ok (.invokevirtual 104, 3) := by decide +kernel
theorem dX5_comes_46 : decode cX5_comes 46 = .ok (.ireturn, 1) := by decide +kernel
set_option maxRecDepth 20000 in
theorem ggX5_picture_X5_in : GoodIn wsX5_picture wsX5_in := goodIn_r _ [10] (by decide +kernel) (by decide +kernel)
set_option maxRecDepth 20000 in
theorem gX5_picture_X5_in : GoodIn wsX5_picture (va_wsS RX5 85 yX5_in wsX5_in) := goodIn_app (goodIn_of _ (by decide +kernel)) ggX5_picture_X5_in
set_option maxRecDepth 20000 in
theorem ggX5_picture_X5_asked_ : GoodIn wsX5_picture wsX5_asked_ := goodIn_r _ [14, 15, 16, 17, 18, 19, 20, 21, 22, 23, 24, 25, 26, 27, 28, 29, 30, 31, 32, 33, 34, 35, 36, 37, 38, 39, 40, 41] (by decide +kernel) (by decide +kernel)
set_option maxRecDepth 20000 in
theorem gX5_picture_X5_asked_ : GoodIn wsX5_picture (wsV RX5 96 RX5 yX5_asked_ wsX5_asked_) := goodIn_app (goodIn_of _ (by decide +kernel)) ggX5_picture_X5_asked_
theorem dX5_picture_0 : decode cX5_picture 0 = .ok (.aload_n 0, 1) := by decide +kernel
theorem dX5_picture_1 : decode cX5_picture 1 = .ok (.iload_n 1, 1) := by decide +kernel
theorem dX5_picture_2 : decode cX5_picture 2 = .ok (.iconst 1, 1) := by decide +kernel
theorem dX5_picture_3 : decode cX5_picture 3 = .ok (.bipush 8, 2) := by decide +kernel
theorem dX5_picture_5 : decode cX5_picture 5 = .ok (.invokestatic 85, 3) := by decide +kernel
theorem dX5_picture_8 : decode cX5_picture 8 = .ok (.ifCond .eq 28, 3) := by decide +kernel
theorem dX5_picture_11 : decode cX5_picture 11 = .ok (.iload_n 2, 1) := by decide +kernel
theorem dX5_picture_12 : decode cX5_picture 12 = .ok (.iconst 1, 1) := by decide +kernel
theorem dX5_picture_13 : decode cX5_picture 13 = .ok (.bipush 8, 2) := by decide +kernel
theorem dX5_picture_15 : decode cX5_picture 15 = .ok (.invokestatic 85, 3) := by decide +kernel
theorem dX5_picture_18 : decode cX5_picture 18 = .ok (.ifCond .eq 18, 3) := by decide +kernel
theorem dX5_picture_21 : decode cX5_picture 21 = .ok (.iload_n 3, 1) := by decide +kernel
theorem dX5_picture_22 : decode cX5_picture 22 = .ok (.iconst 0, 1) := by decide +kernel
theorem dX5_picture_23 : decode cX5_picture 23 = .ok (.sipush 255, 3) := by decide +kernel
theorem dX5_picture_26 : decode cX5_picture 26 = .ok (.invokestatic 85, 3) := by decide +kernel
theorem dX5_picture_29 : decode cX5_picture 29 = .ok (.ifCond .eq 7, 3) := by decide +kernel
theorem dX5_picture_32 : decode cX5_picture 32 = .ok (.iconst 1, 1) := by decide +kernel
theorem dX5_picture_33 : decode cX5_picture 33 = .ok (.goto 4, 3) := by decide +kernel
theorem dX5_picture_36 : decode cX5_picture 36 = .ok (.iconst 0, 1) := by decide +kernel
theorem dX5_picture_37 : decode cX5_picture 37 = .ok (.aload_n 0, 1) := by decide +kernel
theorem dX5_picture_38 : decode cX5_picture 38 = .ok (.getfield 89, 3) := by decide +kernel
theorem dX5_picture_41 : decode cX5_picture 41 = .ok (.iconst 5, 1) := by decide +kernel
theorem dX5_picture_42 : decode cX5_picture 42 = .ok (.if_icmp .ge 7, 3) := by decide +kernel
theorem dX5_picture_45 : decode cX5_picture 45 = .ok (.iconst 1, 1) := by decide +kernel
theorem dX5_picture_46 : decode cX5_picture 46 = .ok (.goto 4, 3) := by decide +kernel
theorem dX5_picture_49 : decode cX5_picture 49 = .ok (.iconst 0, 1) := by decide +kernel
theorem dX5_picture_50 : decode cX5_picture 50 = .ok (.invokevirtual 96, 3) := by decide +kernel
theorem dX5_picture_53 : decode cX5_picture 53 = .ok (.ifCond .ne 5, 3) := by decide +kernel
theorem dX5_picture_56 : decode cX5_picture 56 = .ok (.iconst 0, 1) := by decide +kernel
theorem dX5_picture_57 : decode cX5_picture 57 = .ok (.ireturn, 1) := by decide +kernel
theorem dX5_picture_58 : decode cX5_picture 58 = .ok (.aload_n 0, 1) := by decide +kernel
theorem dX5_picture_59 : decode cX5_picture 59 = .ok (.getfield 30, 3) := by decide +kernel
theorem dX5_picture_62 : decode cX5_picture 62 = .ok (.aload_n 0, 1) := by decide +kernel
theorem dX5_picture_63 : decode cX5_picture 63 = .ok (.getfield 89, 3) := by decide +kernel
theorem dX5_picture_66 : decode cX5_picture 66 = .ok (.iload_n 1, 1) := by decide +kernel
theorem dX5_picture_67 : decode cX5_picture 67 = .ok (.iastore, 1) := by decide +kernel
theorem dX5_picture_68 : decode cX5_picture 68 = .ok (.aload_n 0, 1) := by decide +kernel
theorem dX5_picture_69 : decode cX5_picture 69 = .ok (.getfield 33, 3) := by decide +kernel
theorem dX5_picture_72 : decode cX5_picture 72 = .ok (.aload_n 0, 1) := by decide +kernel
theorem dX5_picture_73 : decode cX5_picture 73 = .ok (.getfield 89, 3) := by decide +kernel
theorem dX5_picture_76 : decode cX5_picture 76 = .ok (.iload_n 2, 1) := by decide +kernel
theorem dX5_picture_77 : decode cX5_picture 77 = .ok (.iastore, 1) := by decide +kernel
theorem dX5_picture_78 : decode cX5_picture 78 = .ok (.bipush 64, 2) := by decide +kernel
theorem dX5_picture_80 : decode cX5_picture 80 = .ok (.aload_n 0, 1) := by decide +kernel
theorem dX5_picture_81 : decode cX5_picture 81 = .ok (.getfield 89, 3) := by decide +kernel
theorem dX5_picture_84 : decode cX5_picture 84 = .ok (.imul, 1) := by decide +kernel
theorem dX5_picture_85 : decode cX5_picture 85 = .ok (.istore 4, 2) := by decide +kernel
theorem dX5_picture_87 : decode cX5_picture 87 = .ok (.iload 4, 2) := by decide +kernel
theorem dX5_picture_89 : decode cX5_picture 89 = .ok (.bipush 64, 2) := by decide +kernel
theorem dX5_picture_91 : decode cX5_picture 91 = .ok (.aload_n 0, 1) := by decide +kernel
theorem dX5_picture_92 : decode cX5_picture 92 = .ok (.getfield 89, 3) := by decide +kernel
theorem dX5_picture_95 : decode cX5_picture 95 = .ok (.iconst 1, 1) := by decide +kernel
theorem dX5_picture_96 : decode cX5_picture 96 = .ok (.iadd, 1) := by decide +kernel
theorem dX5_picture_97 : decode cX5_picture 97 = .ok (.imul, 1) := by decide +kernel
theorem dX5_picture_98 : decode cX5_picture 98 = .ok (.if_icmp .ge 33, 3) := by decide +kernel
theorem dX5_picture_101 : decode cX5_picture 101 = .ok (.aload_n 0, 1) := by decide +kernel
theorem dX5_picture_102 : decode cX5_picture 102 = .ok (.getfield 36, 3) := by decide +kernel
theorem dX5_picture_105 : decode cX5_picture 105 = .ok (.iload 4, 2) := by decide +kernel
theorem dX5_picture_107 : decode cX5_picture 107 = .ok (.iload_n 3, 1) := by decide +kernel
theorem dX5_picture_108 : decode cX5_picture 108 = .ok (.iastore, 1) := by decide +kernel
theorem dX5_picture_109 : decode cX5_picture 109 = .ok (.aload_n 0, 1) := by decide +kernel
theorem dX5_picture_110 : decode cX5_picture 110 = .ok (.getfield 42, 3) := by decide +kernel
theorem dX5_picture_113 : decode cX5_picture 113 = .ok (.iload 4, 2) := by decide +kernel
theorem dX5_picture_115 : decode cX5_picture 115 = .ok (.iconst (-1), 1) := by decide +kernel
theorem dX5_picture_116 : decode cX5_picture 116 = .ok (.iastore, 1) := by decide +kernel
theorem dX5_picture_117 : decode cX5_picture 117 = .ok (.aload_n 0, 1) := by decide +kernel
theorem dX5_picture_118 : decode cX5_picture 118 = .ok (.getfield 48, 3) := by decide +kernel
theorem dX5_picture_121 : decode cX5_picture 121 = .ok (.iload 4, 2) := by decide +kernel
theorem dX5_picture_123 : decode cX5_picture 123 = .ok (.iconst (-1), 1) := by decide +kernel
theorem dX5_picture_124 : decode cX5_picture 124 = .ok (.iastore, 1) := by decide +kernel
theorem dX5_picture_125 : decode cX5_picture 125 = .ok (.iinc 4 1, 3) := by decide +kernel
theorem dX5_picture_128 : decode cX5_picture 128 = .ok (.goto (-41), 3) := by decide +kernel
theorem dX5_picture_131 : decode cX5_picture 131 = .ok (.aload_n 0, 1) := by decide +kernel
theorem dX5_picture_132 : decode cX5_picture 132 = .ok (.dup, 1) := by decide +kernel
theorem dX5_picture_133 : decode cX5_picture 133 = .ok (.getfield 89, 3) := by decide +kernel
theorem dX5_picture_136 : decode cX5_picture 136 = .ok (.iconst 1, 1) := by decide +kernel
theorem dX5_picture_137 : decode cX5_picture 137 = .ok (.iadd, 1) := by decide +kernel
theorem dX5_picture_138 : decode cX5_picture 138 = .ok (.putfield 89, 3) := by decide +kernel
theorem dX5_picture_141 : decode cX5_picture 141 = .ok (.aload_n 0, 1) := by decide +kernel
theorem dX5_picture_142 : decode cX5_picture 142 = .ok (.getfield 89, 3) := by decide +kernel
theorem dX5_picture_145 : decode cX5_picture 145 = .ok (.iconst 1, 1) := by decide +kernel
theorem dX5_picture_146 : decode cX5_picture 146 = .ok (.isub, 1) := by decide +kernel
theorem dX5_picture_147 : decode cX5_picture 147 = .ok (.ireturn, 1) := by decide +kernel
theorem dX5_cellOf_0 : decode cX5_cellOf 0 = .ok (.bipush 64, 2) := by decide +kernel
theorem dX5_cellOf_2 : decode cX5_cellOf 2 = .ok (.iload_n 0, 1) := by decide +kernel
theorem dX5_cellOf_3 : decode cX5_cellOf 3 = .ok (.imul, 1) := by decide +kernel
theorem dX5_cellOf_4 : decode cX5_cellOf 4 = .ok (.bipush 8, 2) := by decide +kernel
theorem dX5_cellOf_6 : decode cX5_cellOf 6 = .ok (.iload_n 2, 1) := by decide +kernel
theorem dX5_cellOf_7 : decode cX5_cellOf 7 = .ok (.imul, 1) := by decide +kernel
theorem dX5_cellOf_8 : decode cX5_cellOf 8 = .ok (.iadd, 1) := by decide +kernel
theorem dX5_cellOf_9 : decode cX5_cellOf 9 = .ok (.iload_n 1, 1) := by decide +kernel
theorem dX5_cellOf_10 : decode cX5_cellOf 10 = .ok (.iadd, 1) := by decide +kernel
theorem dX5_cellOf_11 : decode cX5_cellOf 11 = .ok (.ireturn, 1) := by decide +kernel
set_option maxRecDepth 20000 in
theorem ggX5_cell_X5_isCell : GoodIn wsX5_cell wsX5_isCell := goodIn_r _ [7, 8, 9, 10, 11, 12, 6, 13, 14, 15, 16, 17, 26, 27, 28, 29, 30, 31, 32, 33, 34, 35, 36, 37, 38, 39, 40, 41, 42, 43, 44, 45, 46, 47, 48, 49, 50, 51] (by decide +kernel) (by decide +kernel)
set_option maxRecDepth 20000 in
theorem gX5_cell_X5_isCell : GoodIn wsX5_cell (wsV RX5 108 RX5 yX5_isCell wsX5_isCell) := goodIn_app (goodIn_of _ (by decide +kernel)) ggX5_cell_X5_isCell
set_option maxRecDepth 20000 in
theorem ggX5_cell_X5_cellOf : GoodIn wsX5_cell wsX5_cellOf := goodIn_r _ [20] (by decide +kernel) (by decide +kernel)
set_option maxRecDepth 20000 in
theorem gX5_cell_X5_cellOf : GoodIn wsX5_cell (va_wsS RX5 111 yX5_cellOf wsX5_cellOf) := goodIn_app (goodIn_of _ (by decide +kernel)) ggX5_cell_X5_cellOf
set_option maxRecDepth 20000 in
theorem ggX5_cell_X5_in : GoodIn wsX5_cell wsX5_in := goodIn_r _ [17] (by decide +kernel) (by decide +kernel)
set_option maxRecDepth 20000 in
theorem gX5_cell_X5_in : GoodIn wsX5_cell (va_wsS RX5 85 yX5_in wsX5_in) := goodIn_app (goodIn_of _ (by decide +kernel)) ggX5_cell_X5_in
set_option maxRecDepth 20000 in
theorem ggX5_cell_X5_asked__ : GoodIn wsX5_cell wsX5_asked__ := goodIn_r _ [24, 25, 26, 27, 28, 29, 30, 31, 32, 33, 34, 35, 36, 37, 38, 39, 40, 41, 42, 43, 44, 45, 46, 47, 48, 49, 50, 51] (by decide +kernel) (by decide +kernel)
set_option maxRecDepth 20000 in
theorem gX5_cell_X5_asked__ : GoodIn wsX5_cell (wsV RX5 115 RX5 yX5_asked__ wsX5_asked__) := goodIn_app (goodIn_of _ (by decide +kernel)) ggX5_cell_X5_asked__
theorem dX5_cell_0 : decode cX5_cell 0 = .ok (.aload_n 0, 1) := by decide +kernel
theorem dX5_cell_1 : decode cX5_cell 1 = .ok (.iload_n 1, 1) := by decide +kernel
theorem dX5_cell_2 : decode cX5_cell 2 = .ok (.iload_n 2, 1) := by decide +kernel
theorem dX5_cell_3 : decode cX5_cell 3 = .ok (.iload_n 3, 1) := by decide +kernel
theorem dX5_cell_4 : decode cX5_cell 4 = .ok (.invokevirtual 108, 3) := by decide +kernel
theorem dX5_cell_7 : decode cX5_cell 7 = .ok (.istore 5, 2) := by decide +kernel
theorem dX5_cell_9 : decode cX5_cell 9 = .ok (.iload 5, 2) := by decide +kernel
theorem dX5_cell_11 : decode cX5_cell 11 = .ok (.ifCond .eq 12, 3) := by decide +kernel
theorem dX5_cell_14 : decode cX5_cell 14 = .ok (.iload_n 1, 1) := by decide +kernel
theorem dX5_cell_15 : decode cX5_cell 15 = .ok (.iload_n 2, 1) := by decide +kernel
theorem dX5_cell_16 : decode cX5_cell 16 = .ok (.iload_n 3, 1) := by decide +kernel
theorem dX5_cell_17 : decode cX5_cell 17 = .ok (.invokestatic 111, 3) := by decide +kernel
theorem dX5_cell_20 : decode cX5_cell 20 = .ok (.goto 4, 3) := by decide +kernel
theorem dX5_cell_23 : decode cX5_cell 23 = .ok (.iconst 0, 1) := by decide +kernel
theorem dX5_cell_24 : decode cX5_cell 24 = .ok (.istore 6, 2) := by decide +kernel
theorem dX5_cell_26 : decode cX5_cell 26 = .ok (.aload_n 0, 1) := by decide +kernel
theorem dX5_cell_27 : decode cX5_cell 27 = .ok (.iload 5, 2) := by decide +kernel
theorem dX5_cell_29 : decode cX5_cell 29 = .ok (.iload 4, 2) := by decide +kernel
theorem dX5_cell_31 : decode cX5_cell 31 = .ok (.iconst 0, 1) := by decide +kernel
theorem dX5_cell_32 : decode cX5_cell 32 = .ok (.sipush 255, 3) := by decide +kernel
theorem dX5_cell_35 : decode cX5_cell 35 = .ok (.invokestatic 85, 3) := by decide +kernel
theorem dX5_cell_38 : decode cX5_cell 38 = .ok (.iload 5, 2) := by decide +kernel
theorem dX5_cell_40 : decode cX5_cell 40 = .ok (.ifCond .eq 28, 3) := by decide +kernel
theorem dX5_cell_43 : decode cX5_cell 43 = .ok (.aload_n 0, 1) := by decide +kernel
theorem dX5_cell_44 : decode cX5_cell 44 = .ok (.getfield 39, 3) := by decide +kernel
theorem dX5_cell_47 : decode cX5_cell 47 = .ok (.iload 6, 2) := by decide +kernel
theorem dX5_cell_49 : decode cX5_cell 49 = .ok (.iaload, 1) := by decide +kernel
theorem dX5_cell_50 : decode cX5_cell 50 = .ok (.ifCond .eq 14, 3) := by decide +kernel
theorem dX5_cell_53 : decode cX5_cell 53 = .ok (.aload_n 0, 1) := by decide +kernel
theorem dX5_cell_54 : decode cX5_cell 54 = .ok (.getfield 39, 3) := by decide +kernel
theorem dX5_cell_57 : decode cX5_cell 57 = .ok (.iload 6, 2) := by decide +kernel
theorem dX5_cell_59 : decode cX5_cell 59 = .ok (.iaload, 1) := by decide +kernel
theorem dX5_cell_60 : decode cX5_cell 60 = .ok (.iconst 1, 1) := by decide +kernel
theorem dX5_cell_61 : decode cX5_cell 61 = .ok (.if_icmp .ne 7, 3) := by decide +kernel
theorem dX5_cell_64 : decode cX5_cell 64 = .ok (.iconst 1, 1) := by decide +kernel
theorem dX5_cell_65 : decode cX5_cell 65 = .ok (.goto 4, 3) := by decide +kernel
theorem dX5_cell_68 : decode cX5_cell 68 = .ok (.iconst 0, 1) := by decide +kernel
theorem dX5_cell_69 : decode cX5_cell 69 = .ok (.invokevirtual 115, 3) := by decide +kernel
theorem dX5_cell_72 : decode cX5_cell 72 = .ok (.ifCond .ne 5, 3) := by decide +kernel
theorem dX5_cell_75 : decode cX5_cell 75 = .ok (.iconst 0, 1) := by decide +kernel
theorem dX5_cell_76 : decode cX5_cell 76 = .ok (.ireturn, 1) := by decide +kernel
theorem dX5_cell_77 : decode cX5_cell 77 = .ok (.aload_n 0, 1) := by decide +kernel
theorem dX5_cell_78 : decode cX5_cell 78 = .ok (.getfield 36, 3) := by decide +kernel
theorem dX5_cell_81 : decode cX5_cell 81 = .ok (.iload 6, 2) := by decide +kernel
theorem dX5_cell_83 : decode cX5_cell 83 = .ok (.iaload, 1) := by decide +kernel
theorem dX5_cell_84 : decode cX5_cell 84 = .ok (.istore 7, 2) := by decide +kernel
theorem dX5_cell_86 : decode cX5_cell 86 = .ok (.aload_n 0, 1) := by decide +kernel
theorem dX5_cell_87 : decode cX5_cell 87 = .ok (.getfield 36, 3) := by decide +kernel
theorem dX5_cell_90 : decode cX5_cell 90 = .ok (.iload 6, 2) := by decide +kernel
theorem dX5_cell_92 : decode cX5_cell 92 = .ok (.iload 4, 2) := by decide +kernel
theorem dX5_cell_94 : decode cX5_cell 94 = .ok (.iastore, 1) := by decide +kernel
theorem dX5_cell_95 : decode cX5_cell 95 = .ok (.iload 7, 2) := by decide +kernel
theorem dX5_cell_97 : decode cX5_cell 97 = .ok (.ireturn, 1) := by decide +kernel
set_option maxRecDepth 20000 in
theorem ggX5_count_X5_cellOf : GoodIn wsX5_count wsX5_cellOf := goodIn_r _ [7] (by decide +kernel) (by decide +kernel)
set_option maxRecDepth 20000 in
theorem gX5_count_X5_cellOf : GoodIn wsX5_count (va_wsS RX5 111 yX5_cellOf wsX5_cellOf) := goodIn_app (goodIn_of _ (by decide +kernel)) ggX5_count_X5_cellOf
theorem dX5_count_0 : decode cX5_count 0 = .ok (.iconst 0, 1) := by decide +kernel
theorem dX5_count_1 : decode cX5_count 1 = .ok (.istore_n 3, 1) := by decide +kernel
theorem dX5_count_2 : decode cX5_count 2 = .ok (.iconst 0, 1) := by decide +kernel
theorem dX5_count_3 : decode cX5_count 3 = .ok (.istore 4, 2) := by decide +kernel
theorem dX5_count_5 : decode cX5_count 5 = .ok (.iload 4, 2) := by decide +kernel
theorem dX5_count_7 : decode cX5_count 7 = .ok (.aload_n 0, 1) := by decide +kernel
theorem dX5_count_8 : decode cX5_count 8 = .ok (.getfield 33, 3) := by decide +kernel
theorem dX5_count_11 : decode cX5_count 11 = .ok (.iload_n 1, 1) := by decide +kernel
theorem dX5_count_12 : decode cX5_count 12 = .ok (.iaload, 1) := by decide +kernel
theorem dX5_count_13 : decode cX5_count 13 = .ok (.if_icmp .ge 54, 3) := by decide +kernel
theorem dX5_count_16 : decode cX5_count 16 = .ok (.iconst 0, 1) := by decide +kernel
theorem dX5_count_17 : decode cX5_count 17 = .ok (.istore 5, 2) := by decide +kernel
theorem dX5_count_19 : decode cX5_count 19 = .ok (.iload 5, 2) := by decide +kernel
theorem dX5_count_21 : decode cX5_count 21 = .ok (.aload_n 0, 1) := by decide +kernel
theorem dX5_count_22 : decode cX5_count 22 = .ok (.getfield 30, 3) := by decide +kernel
theorem dX5_count_25 : decode cX5_count 25 = .ok (.iload_n 1, 1) := by decide +kernel
theorem dX5_count_26 : decode cX5_count 26 = .ok (.iaload, 1) := by decide +kernel
theorem dX5_count_27 : decode cX5_count 27 = .ok (.if_icmp .ge 34, 3) := by decide +kernel
theorem dX5_count_30 : decode cX5_count 30 = .ok (.iload_n 3, 1) := by decide +kernel
theorem dX5_count_31 : decode cX5_count 31 = .ok (.aload_n 0, 1) := by decide +kernel
theorem dX5_count_32 : decode cX5_count 32 = .ok (.getfield 39, 3) := by decide +kernel
theorem dX5_count_35 : decode cX5_count 35 = .ok (.iload_n 1, 1) := by decide +kernel
theorem dX5_count_36 : decode cX5_count 36 = .ok (.iload 5, 2) := by decide +kernel
theorem dX5_count_38 : decode cX5_count 38 = .ok (.iload 4, 2) := by decide +kernel
theorem dX5_count_40 : decode cX5_count 40 = .ok (.invokestatic 111, 3) := by decide +kernel
theorem dX5_count_43 : decode cX5_count 43 = .ok (.iaload, 1) := by decide +kernel
theorem dX5_count_44 : decode cX5_count 44 = .ok (.iload_n 2, 1) := by decide +kernel
theorem dX5_count_45 : decode cX5_count 45 = .ok (.if_icmp .ne 7, 3) := by decide +kernel
theorem dX5_count_48 : decode cX5_count 48 = .ok (.iconst 1, 1) := by decide +kernel
theorem dX5_count_49 : decode cX5_count 49 = .ok (.goto 4, 3) := by decide +kernel
theorem dX5_count_52 : decode cX5_count 52 = .ok (.iconst 0, 1) := by decide +kernel
theorem dX5_count_53 : decode cX5_count 53 = .ok (.iadd, 1) := by decide +kernel
theorem dX5_count_54 : decode cX5_count 54 = .ok (.istore_n 3, 1) := by decide +kernel
theorem dX5_count_55 : decode cX5_count 55 = .ok (.iinc 5 1, 3) := by decide +kernel
theorem dX5_count_58 : decode cX5_count 58 = .ok (.goto (-39), 3) := by decide +kernel
theorem dX5_count_61 : decode cX5_count 61 = .ok (.iinc 4 1, 3) := by decide +kernel
theorem dX5_count_64 : decode cX5_count 64 = .ok (.goto (-59), 3) := by decide +kernel
theorem dX5_count_67 : decode cX5_count 67 = .ok (.iload_n 3, 1) := by decide +kernel
theorem dX5_count_68 : decode cX5_count 68 = .ok (.ireturn, 1) := by decide +kernel
set_option maxRecDepth 20000 in
theorem ggX5_old_X5_isCell : GoodIn wsX5_old wsX5_isCell := goodIn_r _ [7, 8, 9, 10, 11, 12, 6, 13, 14, 15, 16, 17, 30, 31, 32, 33, 34, 35, 36, 37, 38, 39, 40, 41, 42, 43, 44, 45, 46, 47, 48, 49, 50, 51, 52, 53, 54, 55] (by decide +kernel) (by decide +kernel)
set_option maxRecDepth 20000 in
theorem gX5_old_X5_isCell : GoodIn wsX5_old (wsV RX5 108 RX5 yX5_isCell wsX5_isCell) := goodIn_app (goodIn_of _ (by decide +kernel)) ggX5_old_X5_isCell
set_option maxRecDepth 20000 in
theorem ggX5_old_X5_cellOf : GoodIn wsX5_old wsX5_cellOf := goodIn_r _ [20] (by decide +kernel) (by decide +kernel)
set_option maxRecDepth 20000 in
theorem gX5_old_X5_cellOf : GoodIn wsX5_old (va_wsS RX5 111 yX5_cellOf wsX5_cellOf) := goodIn_app (goodIn_of _ (by decide +kernel)) ggX5_old_X5_cellOf
set_option maxRecDepth 20000 in
theorem ggX5_old_X5_in : GoodIn wsX5_old wsX5_in := goodIn_r _ [17] (by decide +kernel) (by decide +kernel)
set_option maxRecDepth 20000 in
theorem gX5_old_X5_in : GoodIn wsX5_old (va_wsS RX5 85 yX5_in wsX5_in) := goodIn_app (goodIn_of _ (by decide +kernel)) ggX5_old_X5_in
set_option maxRecDepth 20000 in
theorem ggX5_old_X5_asked__ : GoodIn wsX5_old wsX5_asked__ := goodIn_r _ [24, 25, 30, 31, 32, 33, 34, 35, 36, 37, 38, 39, 40, 41, 42, 43, 44, 45, 46, 47, 48, 49, 50, 51, 52, 53, 54, 55] (by decide +kernel) (by decide +kernel)
set_option maxRecDepth 20000 in
theorem gX5_old_X5_asked__ : GoodIn wsX5_old (wsV RX5 115 RX5 yX5_asked__ wsX5_asked__) := goodIn_app (goodIn_of _ (by decide +kernel)) ggX5_old_X5_asked__
set_option maxRecDepth 20000 in
theorem ggX5_old_X5_count : GoodIn wsX5_old wsX5_count := goodIn_r _ [29, 9, 8, 1, 18, 19, 6, 20, 30, 31, 32, 33, 34, 35, 36, 37, 38, 39, 40, 41, 42, 43, 44, 45, 46, 47, 48, 49, 50, 51, 52, 53, 54, 55] (by decide +kernel) (by decide +kernel)
set_option maxRecDepth 20000 in
theorem gX5_old_X5_count : GoodIn wsX5_old (wsV RX5 118 RX5 yX5_count wsX5_count) := goodIn_app (goodIn_of _ (by decide +kernel)) ggX5_old_X5_count
theorem dX5_old_0 : decode cX5_old 0 = .ok (.aload_n 0, 1) := by decide +kernel
theorem dX5_old_1 : decode cX5_old 1 = .ok (.iload_n 1, 1) := by decide +kernel
theorem dX5_old_2 : decode cX5_old 2 = .ok (.iload_n 2, 1) := by decide +kernel
theorem dX5_old_3 : decode cX5_old 3 = .ok (.iload_n 3, 1) := by decide +kernel
theorem dX5_old_4 : decode cX5_old 4 = .ok (.invokevirtual 108, 3) := by decide +kernel
theorem dX5_old_7 : decode cX5_old 7 = .ok (.istore 5, 2) := by decide +kernel
theorem dX5_old_9 : decode cX5_old 9 = .ok (.iload 5, 2) := by decide +kernel
theorem dX5_old_11 : decode cX5_old 11 = .ok (.ifCond .eq 12, 3) := by decide +kernel
theorem dX5_old_14 : decode cX5_old 14 = .ok (.iload_n 1, 1) := by decide +kernel
theorem dX5_old_15 : decode cX5_old 15 = .ok (.iload_n 2, 1) := by decide +kernel
theorem dX5_old_16 : decode cX5_old 16 = .ok (.iload_n 3, 1) := by decide +kernel
theorem dX5_old_17 : decode cX5_old 17 = .ok (.invokestatic 111, 3) := by decide +kernel
theorem dX5_old_20 : decode cX5_old 20 = .ok (.goto 4, 3) := by decide +kernel
theorem dX5_old_23 : decode cX5_old 23 = .ok (.iconst 0, 1) := by decide +kernel
theorem dX5_old_24 : decode cX5_old 24 = .ok (.istore 6, 2) := by decide +kernel
theorem dX5_old_26 : decode cX5_old 26 = .ok (.aload_n 0, 1) := by decide +kernel
theorem dX5_old_27 : decode cX5_old 27 = .ok (.iload 5, 2) := by decide +kernel
theorem dX5_old_29 : decode cX5_old 29 = .ok (.iload 4, 2) := by decide +kernel
theorem dX5_old_31 : decode cX5_old 31 = .ok (.iconst 0, 1) := by decide +kernel
theorem dX5_old_32 : decode cX5_old 32 = .ok (.sipush 255, 3) := by decide +kernel
theorem dX5_old_35 : decode cX5_old 35 = .ok (.invokestatic 85, 3) := by decide +kernel
theorem dX5_old_38 : decode cX5_old 38 = .ok (.iload 5, 2) := by decide +kernel
theorem dX5_old_40 : decode cX5_old 40 = .ok (.ifCond .eq 17, 3) := by decide +kernel
theorem dX5_old_43 : decode cX5_old 43 = .ok (.aload_n 0, 1) := by decide +kernel
theorem dX5_old_44 : decode cX5_old 44 = .ok (.getfield 39, 3) := by decide +kernel
theorem dX5_old_47 : decode cX5_old 47 = .ok (.iload 6, 2) := by decide +kernel
theorem dX5_old_49 : decode cX5_old 49 = .ok (.iaload, 1) := by decide +kernel
theorem dX5_old_50 : decode cX5_old 50 = .ok (.ifCond .ne 7, 3) := by decide +kernel
theorem dX5_old_53 : decode cX5_old 53 = .ok (.iconst 1, 1) := by decide +kernel
theorem dX5_old_54 : decode cX5_old 54 = .ok (.goto 4, 3) := by decide +kernel
theorem dX5_old_57 : decode cX5_old 57 = .ok (.iconst 0, 1) := by decide +kernel
theorem dX5_old_58 : decode cX5_old 58 = .ok (.invokevirtual 115, 3) := by decide +kernel
theorem dX5_old_61 : decode cX5_old 61 = .ok (.ifCond .ne 5, 3) := by decide +kernel
theorem dX5_old_64 : decode cX5_old 64 = .ok (.iconst 0, 1) := by decide +kernel
theorem dX5_old_65 : decode cX5_old 65 = .ok (.ireturn, 1) := by decide +kernel
theorem dX5_old_66 : decode cX5_old 66 = .ok (.aload_n 0, 1) := by decide +kernel
theorem dX5_old_67 : decode cX5_old 67 = .ok (.getfield 39, 3) := by decide +kernel
theorem dX5_old_70 : decode cX5_old 70 = .ok (.iload 6, 2) := by decide +kernel
theorem dX5_old_72 : decode cX5_old 72 = .ok (.iconst 3, 1) := by decide +kernel
theorem dX5_old_73 : decode cX5_old 73 = .ok (.iastore, 1) := by decide +kernel
theorem dX5_old_74 : decode cX5_old 74 = .ok (.aload_n 0, 1) := by decide +kernel
theorem dX5_old_75 : decode cX5_old 75 = .ok (.getfield 36, 3) := by decide +kernel
theorem dX5_old_78 : decode cX5_old 78 = .ok (.iload 6, 2) := by decide +kernel
theorem dX5_old_80 : decode cX5_old 80 = .ok (.iload 4, 2) := by decide +kernel
theorem dX5_old_82 : decode cX5_old 82 = .ok (.iastore, 1) := by decide +kernel
theorem dX5_old_83 : decode cX5_old 83 = .ok (.aload_n 0, 1) := by decide +kernel
theorem dX5_old_84 : decode cX5_old 84 = .ok (.iload_n 1, 1) := by decide +kernel
theorem dX5_old_85 : decode cX5_old 85 = .ok (.iconst 3, 1) := by decide +kernel
theorem dX5_old_86 : decode cX5_old 86 = .ok (.invokevirtual 118, 3) := by decide +kernel
theorem dX5_old_89 : decode cX5_old 89 = .ok (.ireturn, 1) := by decide +kernel
set_option maxRecDepth 20000 in
theorem ggX5_fill_X5_isPicture : GoodIn wsX5_fill wsX5_isPicture := goodIn_r _ [10, 11, 12, 13, 9, 14, 27, 28, 29, 30, 31, 32, 33, 34, 35, 36, 37, 38, 39, 40, 41, 42, 43, 44, 45, 46, 47, 48, 49, 50, 51, 52] (by decide +kernel) (by decide +kernel)
set_option maxRecDepth 20000 in
theorem gX5_fill_X5_isPicture : GoodIn wsX5_fill (wsV RX5 92 RX5 yX5_isPicture wsX5_isPicture) := goodIn_app (goodIn_of _ (by decide +kernel)) ggX5_fill_X5_isPicture
set_option maxRecDepth 20000 in
theorem ggX5_fill_X5_asked : GoodIn wsX5_fill wsX5_asked := goodIn_r _ [18, 19, 27, 28, 29, 30, 31, 32, 33, 34, 35, 36, 37, 38, 39, 40, 41, 42, 43, 44, 45, 46, 47, 48, 49, 50, 51, 52] (by decide +kernel) (by decide +kernel)
set_option maxRecDepth 20000 in
theorem gX5_fill_X5_asked : GoodIn wsX5_fill (wsV RX5 122 RX5 yX5_asked wsX5_asked) := goodIn_app (goodIn_of _ (by decide +kernel)) ggX5_fill_X5_asked
set_option maxRecDepth 20000 in
theorem ggX5_fill_X5_isCell : GoodIn wsX5_fill wsX5_isCell := goodIn_r _ [23, 3, 4, 6, 7, 8, 9, 10, 11, 12, 13, 14, 27, 28, 29, 30, 31, 32, 33, 34, 35, 36, 37, 38, 39, 40, 41, 42, 43, 44, 45, 46, 47, 48, 49, 50, 51, 52] (by decide +kernel) (by decide +kernel)
set_option maxRecDepth 20000 in
theorem gX5_fill_X5_isCell : GoodIn wsX5_fill (wsV RX5 108 RX5 yX5_isCell wsX5_isCell) := goodIn_app (goodIn_of _ (by decide +kernel)) ggX5_fill_X5_isCell
set_option maxRecDepth 20000 in
theorem ggX5_fill_X5_cellOf : GoodIn wsX5_fill wsX5_cellOf := goodIn_r _ [26] (by decide +kernel) (by decide +kernel)
set_option maxRecDepth 20000 in
theorem gX5_fill_X5_cellOf : GoodIn wsX5_fill (va_wsS RX5 111 yX5_cellOf wsX5_cellOf) := goodIn_app (goodIn_of _ (by decide +kernel)) ggX5_fill_X5_cellOf
theorem dX5_fill_0 : decode cX5_fill 0 = .ok (.aload_n 0, 1) := by decide +kernel
theorem dX5_fill_1 : decode cX5_fill 1 = .ok (.aload_n 0, 1) := by decide +kernel
theorem dX5_fill_2 : decode cX5_fill 2 = .ok (.iload_n 1, 1) := by decide +kernel
theorem dX5_fill_3 : decode cX5_fill 3 = .ok (.invokevirtual 92, 3) := by decide +kernel
theorem dX5_fill_6 : decode cX5_fill 6 = .ok (.invokevirtual 122, 3) := by decide +kernel
theorem dX5_fill_9 : decode cX5_fill 9 = .ok (.ifCond .ne 5, 3) := by decide +kernel
theorem dX5_fill_12 : decode cX5_fill 12 = .ok (.iconst 0, 1) := by decide +kernel
theorem dX5_fill_13 : decode cX5_fill 13 = .ok (.ireturn, 1) := by decide +kernel
theorem dX5_fill_14 : decode cX5_fill 14 = .ok (.iconst 0, 1) := by decide +kernel
theorem dX5_fill_15 : decode cX5_fill 15 = .ok (.istore_n 2, 1) := by decide +kernel
theorem dX5_fill_16 : decode cX5_fill 16 = .ok (.iload_n 2, 1) := by decide +kernel
theorem dX5_fill_17 : decode cX5_fill 17 = .ok (.bipush 64, 2) := by decide +kernel
theorem dX5_fill_19 : decode cX5_fill 19 = .ok (.if_icmp .ge 42, 3) := by decide +kernel
theorem dX5_fill_22 : decode cX5_fill 22 = .ok (.aload_n 0, 1) := by decide +kernel
theorem dX5_fill_23 : decode cX5_fill 23 = .ok (.getfield 39, 3) := by decide +kernel
theorem dX5_fill_26 : decode cX5_fill 26 = .ok (.bipush 64, 2) := by decide +kernel
theorem dX5_fill_28 : decode cX5_fill 28 = .ok (.iload_n 1, 1) := by decide +kernel
theorem dX5_fill_29 : decode cX5_fill 29 = .ok (.imul, 1) := by decide +kernel
theorem dX5_fill_30 : decode cX5_fill 30 = .ok (.iload_n 2, 1) := by decide +kernel
theorem dX5_fill_31 : decode cX5_fill 31 = .ok (.iadd, 1) := by decide +kernel
theorem dX5_fill_32 : decode cX5_fill 32 = .ok (.iaload, 1) := by decide +kernel
theorem dX5_fill_33 : decode cX5_fill 33 = .ok (.istore_n 3, 1) := by decide +kernel
theorem dX5_fill_34 : decode cX5_fill 34 = .ok (.aload_n 0, 1) := by decide +kernel
theorem dX5_fill_35 : decode cX5_fill 35 = .ok (.getfield 57, 3) := by decide +kernel
theorem dX5_fill_38 : decode cX5_fill 38 = .ok (.iload_n 2, 1) := by decide +kernel
theorem dX5_fill_39 : decode cX5_fill 39 = .ok (.iload_n 3, 1) := by decide +kernel
theorem dX5_fill_40 : decode cX5_fill 40 = .ok (.iconst 3, 1) := by decide +kernel
theorem dX5_fill_41 : decode cX5_fill 41 = .ok (.if_icmp .eq 8, 3) := by decide +kernel
theorem dX5_fill_44 : decode cX5_fill 44 = .ok (.iload_n 3, 1) := by decide +kernel
theorem dX5_fill_45 : decode cX5_fill 45 = .ok (.iconst 2, 1) := by decide +kernel
theorem dX5_fill_46 : decode cX5_fill 46 = .ok (.if_icmp .ne 7, 3) := by decide +kernel
theorem dX5_fill_49 : decode cX5_fill 49 = .ok (.iconst 1, 1) := by decide +kernel
theorem dX5_fill_50 : decode cX5_fill 50 = .ok (.goto 4, 3) := by decide +kernel
theorem dX5_fill_53 : decode cX5_fill 53 = .ok (.iconst 0, 1) := by decide +kernel
theorem dX5_fill_54 : decode cX5_fill 54 = .ok (.iastore, 1) := by decide +kernel
theorem dX5_fill_55 : decode cX5_fill 55 = .ok (.iinc 2 1, 3) := by decide +kernel
theorem dX5_fill_58 : decode cX5_fill 58 = .ok (.goto (-42), 3) := by decide +kernel
theorem dX5_fill_61 : decode cX5_fill 61 = .ok (.iconst 0, 1) := by decide +kernel
theorem dX5_fill_62 : decode cX5_fill 62 = .ok (.istore_n 2, 1) := by decide +kernel
theorem dX5_fill_63 : decode cX5_fill 63 = .ok (.iconst 1, 1) := by decide +kernel
theorem dX5_fill_64 : decode cX5_fill 64 = .ok (.istore_n 3, 1) := by decide +kernel
theorem dX5_fill_65 : decode cX5_fill 65 = .ok (.iconst 1, 1) := by decide +kernel
theorem dX5_fill_66 : decode cX5_fill 66 = .ok (.istore 4, 2) := by decide +kernel
theorem dX5_fill_68 : decode cX5_fill 68 = .ok (.iload 4, 2) := by decide +kernel
theorem dX5_fill_70 : decode cX5_fill 70 = .ok (.ifCond .eq 261, 3) := by decide +kernel
theorem dX5_fill_73 : decode cX5_fill 73 = .ok (.iconst 0, 1) := by decide +kernel
theorem dX5_fill_74 : decode cX5_fill 74 = .ok (.istore 4, 2) := by decide +kernel
theorem dX5_fill_76 : decode cX5_fill 76 = .ok (.iinc 3 1, 3) := by decide +kernel
theorem dX5_fill_79 : decode cX5_fill 79 = .ok (.iconst 0, 1) := by decide +kernel
theorem dX5_fill_80 : decode cX5_fill 80 = .ok (.istore 5, 2) := by decide +kernel
theorem dX5_fill_82 : decode cX5_fill 82 = .ok (.iload 5, 2) := by decide +kernel
theorem dX5_fill_84 : decode cX5_fill 84 = .ok (.aload_n 0, 1) := by decide +kernel
theorem dX5_fill_85 : decode cX5_fill 85 = .ok (.getfield 30, 3) := by decide +kernel
theorem dX5_fill_88 : decode cX5_fill 88 = .ok (.iload_n 1, 1) := by decide +kernel
theorem dX5_fill_89 : decode cX5_fill 89 = .ok (.iaload, 1) := by decide +kernel
theorem dX5_fill_90 : decode cX5_fill 90 = .ok (.aload_n 0, 1) := by decide +kernel
theorem dX5_fill_91 : decode cX5_fill 91 = .ok (.getfield 33, 3) := by decide +kernel
theorem dX5_fill_94 : decode cX5_fill 94 = .ok (.iload_n 1, 1) := by decide +kernel
theorem dX5_fill_95 : decode cX5_fill 95 = .ok (.iaload, 1) := by decide +kernel
theorem dX5_fill_96 : decode cX5_fill 96 = .ok (.imul, 1) := by decide +kernel
theorem dX5_fill_97 : decode cX5_fill 97 = .ok (.if_icmp .ge 231, 3) := by decide +kernel
theorem dX5_fill_100 : decode cX5_fill 100 = .ok (.iload 5, 2) := by decide +kernel
theorem dX5_fill_102 : decode cX5_fill 102 = .ok (.aload_n 0, 1) := by decide +kernel
theorem dX5_fill_103 : decode cX5_fill 103 = .ok (.getfield 30, 3) := by decide +kernel
theorem dX5_fill_106 : decode cX5_fill 106 = .ok (.iload_n 1, 1) := by decide +kernel
theorem dX5_fill_107 : decode cX5_fill 107 = .ok (.iaload, 1) := by decide +kernel
theorem dX5_fill_108 : decode cX5_fill 108 = .ok (.irem, 1) := by decide +kernel
theorem dX5_fill_109 : decode cX5_fill 109 = .ok (.istore 6, 2) := by decide +kernel
theorem dX5_fill_111 : decode cX5_fill 111 = .ok (.iload 5, 2) := by decide +kernel
theorem dX5_fill_113 : decode cX5_fill 113 = .ok (.aload_n 0, 1) := by decide +kernel
theorem dX5_fill_114 : decode cX5_fill 114 = .ok (.getfield 30, 3) := by decide +kernel
theorem dX5_fill_117 : decode cX5_fill 117 = .ok (.iload_n 1, 1) := by decide +kernel
theorem dX5_fill_118 : decode cX5_fill 118 = .ok (.iaload, 1) := by decide +kernel
theorem dX5_fill_119 : decode cX5_fill 119 = .ok (.idiv, 1) := by decide +kernel
theorem dX5_fill_120 : decode cX5_fill 120 = .ok (.istore 7, 2) := by decide +kernel
theorem dX5_fill_122 : decode cX5_fill 122 = .ok (.fconst 0, 1) := by decide +kernel
theorem dX5_fill_123 : decode cX5_fill 123 = .ok (.fstore 8, 2) := by decide +kernel
theorem dX5_fill_125 : decode cX5_fill 125 = .ok (.iconst 0, 1) := by decide +kernel
theorem dX5_fill_126 : decode cX5_fill 126 = .ok (.istore 9, 2) := by decide +kernel
theorem dX5_fill_128 : decode cX5_fill 128 = .ok (.iconst 0, 1) := by decide +kernel
theorem dX5_fill_129 : decode cX5_fill 129 = .ok (.istore 10, 2) := by decide +kernel
theorem dX5_fill_131 : decode cX5_fill 131 = .ok (.iload 10, 2) := by decide +kernel
theorem dX5_fill_133 : decode cX5_fill 133 = .ok (.bipush 9, 2) := by decide +kernel
theorem dX5_fill_135 : decode cX5_fill 135 = .ok (.if_icmp .ge 126, 3) := by decide +kernel
theorem dX5_fill_138 : decode cX5_fill 138 = .ok (.iload 6, 2) := by decide +kernel
theorem dX5_fill_140 : decode cX5_fill 140 = .ok (.iload 10, 2) := by decide +kernel
theorem dX5_fill_142 : decode cX5_fill 142 = .ok (.iconst 3, 1) := by decide +kernel
theorem dX5_fill_143 : decode cX5_fill 143 = .ok (.irem, 1) := by decide +kernel
theorem dX5_fill_144 : decode cX5_fill 144 = .ok (.iadd, 1) := by decide +kernel
theorem dX5_fill_145 : decode cX5_fill 145 = .ok (.iconst 1, 1) := by decide +kernel
theorem dX5_fill_146 : decode cX5_fill 146 = .ok (.isub, 1) := by decide +kernel
theorem dX5_fill_147 : decode cX5_fill 147 = .ok (.istore 11, 2) := by decide +kernel
theorem dX5_fill_149 : decode cX5_fill 149 = .ok (.iload 7, 2) := by decide +kernel
theorem dX5_fill_151 : decode cX5_fill 151 = .ok (.iload 10, 2) := by decide +kernel
theorem dX5_fill_153 : decode cX5_fill 153 = .ok (.iconst 3, 1) := by decide +kernel
theorem dX5_fill_154 : decode cX5_fill 154 = .ok (.idiv, 1) := by decide +kernel
theorem dX5_fill_155 : decode cX5_fill 155 = .ok (.iadd, 1) := by decide +kernel
theorem dX5_fill_156 : decode cX5_fill 156 = .ok (.iconst 1, 1) := by decide +kernel
theorem dX5_fill_157 : decode cX5_fill 157 = .ok (.isub, 1) := by decide +kernel
theorem dX5_fill_158 : decode cX5_fill 158 = .ok (.istore 12, 2) := by decide +kernel
theorem dX5_fill_160 : decode cX5_fill 160 = .ok (.aload_n 0, 1) := by decide +kernel
theorem dX5_fill_161 : decode cX5_fill 161 = .ok (.iload_n 1, 1) := by decide +kernel
theorem dX5_fill_162 : decode cX5_fill 162 = .ok (.iload 11, 2) := by decide +kernel
theorem dX5_fill_164 : decode cX5_fill 164 = .ok (.iload 12, 2) := by decide +kernel
theorem dX5_fill_166 : decode cX5_fill 166 = .ok (.invokevirtual 108, 3) := by decide +kernel
theorem dX5_fill_169 : decode cX5_fill 169 = .ok (.ifCond .eq 40, 3) := by decide +kernel
theorem dX5_fill_172 : decode cX5_fill 172 = .ok (.aload_n 0, 1) := by decide +kernel
theorem dX5_fill_173 : decode cX5_fill 173 = .ok (.getfield 57, 3) := by decide +kernel
theorem dX5_fill_176 : decode cX5_fill 176 = .ok (.bipush 8, 2) := by decide +kernel
theorem dX5_fill_178 : decode cX5_fill 178 = .ok (.iload 12, 2) := by decide +kernel
theorem dX5_fill_180 : decode cX5_fill 180 = .ok (.imul, 1) := by decide +kernel
theorem dX5_fill_181 : decode cX5_fill 181 = .ok (.iload 11, 2) := by decide +kernel
theorem dX5_fill_183 : decode cX5_fill 183 = .ok (.iadd, 1) := by decide +kernel
theorem dX5_fill_184 : decode cX5_fill 184 = .ok (.iaload, 1) := by decide +kernel
theorem dX5_fill_185 : decode cX5_fill 185 = .ok (.ifCond .le 24, 3) := by decide +kernel
theorem dX5_fill_188 : decode cX5_fill 188 = .ok (.aload_n 0, 1) := by decide +kernel
theorem dX5_fill_189 : decode cX5_fill 189 = .ok (.getfield 57, 3) := by decide +kernel
theorem dX5_fill_192 : decode cX5_fill 192 = .ok (.bipush 8, 2) := by decide +kernel
theorem dX5_fill_194 : decode cX5_fill 194 = .ok (.iload 12, 2) := by decide +kernel
theorem dX5_fill_196 : decode cX5_fill 196 = .ok (.imul, 1) := by decide +kernel
theorem dX5_fill_197 : decode cX5_fill 197 = .ok (.iload 11, 2) := by decide +kernel
theorem dX5_fill_199 : decode cX5_fill 199 = .ok (.iadd, 1) := by decide +kernel
theorem dX5_fill_200 : decode cX5_fill 200 = .ok (.iaload, 1) := by decide +kernel
theorem dX5_fill_201 : decode cX5_fill 201 = .ok (.iload_n 3, 1) := by decide +kernel
theorem dX5_fill_202 : decode cX5_fill 202 = .ok (.if_icmp .ge 7, 3) := by decide +kernel
theorem dX5_fill_205 : decode cX5_fill 205 = .ok (.iconst 1, 1) := by decide +kernel
theorem dX5_fill_206 : decode cX5_fill 206 = .ok (.goto 4, 3) := by decide +kernel
theorem dX5_fill_209 : decode cX5_fill 209 = .ok (.iconst 0, 1) := by decide +kernel
theorem dX5_fill_210 : decode cX5_fill 210 = .ok (.istore 13, 2) := by decide +kernel
theorem dX5_fill_212 : decode cX5_fill 212 = .ok (.fload 8, 2) := by decide +kernel
theorem dX5_fill_214 : decode cX5_fill 214 = .ok (.iload 13, 2) := by decide +kernel
theorem dX5_fill_216 : decode cX5_fill 216 = .ok (.ifCond .eq 20, 3) := by decide +kernel
theorem dX5_fill_219 : decode cX5_fill 219 = .ok (.aload_n 0, 1) := by decide +kernel
theorem dX5_fill_220 : decode cX5_fill 220 = .ok (.getfield 36, 3) := by decide +kernel
theorem dX5_fill_223 : decode cX5_fill 223 = .ok (.iload_n 1, 1) := by decide +kernel
theorem dX5_fill_224 : decode cX5_fill 224 = .ok (.iload 11, 2) := by decide +kernel
theorem dX5_fill_226 : decode cX5_fill 226 = .ok (.iload 12, 2) := by decide +kernel
theorem dX5_fill_228 : decode cX5_fill 228 = .ok (.invokestatic 111, 3) := by decide +kernel
theorem dX5_fill_231 : decode cX5_fill 231 = .ok (.iaload, 1) := by decide +kernel
theorem dX5_fill_232 : decode cX5_fill 232 = .ok (.i2f, 1) := by decide +kernel
theorem dX5_fill_233 : decode cX5_fill 233 = .ok (.goto 4, 3) := by decide +kernel
theorem dX5_fill_236 : decode cX5_fill 236 = .ok (.fconst 0, 1) := by decide +kernel
theorem dX5_fill_237 : decode cX5_fill 237 = .ok (.fadd, 1) := by decide +kernel
theorem dX5_fill_238 : decode cX5_fill 238 = .ok (.fstore 8, 2) := by decide +kernel
theorem dX5_fill_240 : decode cX5_fill 240 = .ok (.iload 9, 2) := by decide +kernel
theorem dX5_fill_242 : decode cX5_fill 242 = .ok (.iload 13, 2) := by decide +kernel
theorem dX5_fill_244 : decode cX5_fill 244 = .ok (.ifCond .eq 7, 3) := by decide +kernel
theorem dX5_fill_247 : decode cX5_fill 247 = .ok (.iconst 1, 1) := by decide +kernel
theorem dX5_fill_248 : decode cX5_fill 248 = .ok (.goto 4, 3) := by decide +kernel
theorem dX5_fill_251 : decode cX5_fill 251 = .ok (.iconst 0, 1) := by decide +kernel
theorem dX5_fill_252 : decode cX5_fill 252 = .ok (.iadd, 1) := by decide +kernel
theorem dX5_fill_253 : decode cX5_fill 253 = .ok (.istore 9, 2) := by decide +kernel
theorem dX5_fill_255 : decode cX5_fill 255 = .ok (.iinc 10 1, 3) := by decide +kernel
theorem dX5_fill_258 : decode cX5_fill 258 = .ok (.goto (-127), 3) := by decide +kernel
theorem dX5_fill_261 : decode cX5_fill 261 = .ok (.aload_n 0, 1) := by decide +kernel
theorem dX5_fill_262 : decode cX5_fill 262 = .ok (.getfield 57, 3) := by decide +kernel
theorem dX5_fill_265 : decode cX5_fill 265 = .ok (.bipush 8, 2) := by decide +kernel
theorem dX5_fill_267 : decode cX5_fill 267 = .ok (.iload 7, 2) := by decide +kernel
theorem dX5_fill_269 : decode cX5_fill 269 = .ok (.imul, 1) := by decide +kernel
theorem dX5_fill_270 : decode cX5_fill 270 = .ok (.iload 6, 2) := by decide +kernel
theorem dX5_fill_272 : decode cX5_fill 272 = .ok (.iadd, 1) := by decide +kernel
theorem dX5_fill_273 : decode cX5_fill 273 = .ok (.iaload, 1) := by decide +kernel
theorem dX5_fill_274 : decode cX5_fill 274 = .ok (.ifCond .ne 48, 3) := by decide +kernel
theorem dX5_fill_277 : decode cX5_fill 277 = .ok (.iload 9, 2) := by decide +kernel
theorem dX5_fill_279 : decode cX5_fill 279 = .ok (.ifCond .le 43, 3) := by decide +kernel
theorem dX5_fill_282 : decode cX5_fill 282 = .ok (.aload_n 0, 1) := by decide +kernel
theorem dX5_fill_283 : decode cX5_fill 283 = .ok (.getfield 36, 3) := by decide +kernel
theorem dX5_fill_286 : decode cX5_fill 286 = .ok (.iload_n 1, 1) := by decide +kernel
theorem dX5_fill_287 : decode cX5_fill 287 = .ok (.iload 6, 2) := by decide +kernel
theorem dX5_fill_289 : decode cX5_fill 289 = .ok (.iload 7, 2) := by decide +kernel
theorem dX5_fill_291 : decode cX5_fill 291 = .ok (.invokestatic 111, 3) := by decide +kernel
theorem dX5_fill_294 : decode cX5_fill 294 = .ok (.fload 8, 2) := by decide +kernel
theorem dX5_fill_296 : decode cX5_fill 296 = .ok (.iload 9, 2) := by decide +kernel
theorem dX5_fill_298 : decode cX5_fill 298 = .ok (.i2f, 1) := by decide +kernel
theorem dX5_fill_299 : decode cX5_fill 299 = .ok (.fdiv, 1) := by decide +kernel
theorem dX5_fill_300 : decode cX5_fill 300 = .ok (.f2i, 1) := by decide +kernel
theorem dX5_fill_301 : decode cX5_fill 301 = .ok (.iastore, 1) := by decide +kernel
theorem dX5_fill_302 : decode cX5_fill 302 = .ok (.aload_n 0, 1) := by decide +kernel
theorem dX5_fill_303 : decode cX5_fill 303 = .ok (.getfield 57, 3) := by decide +kernel
theorem dX5_fill_306 : decode cX5_fill 306 = .ok (.bipush 8, 2) := by decide +kernel
theorem dX5_fill_308 : decode cX5_fill 308 = .ok (.iload 7, 2) := by decide +kernel
theorem dX5_fill_310 : decode cX5_fill 310 = .ok (.imul, 1) := by decide +kernel
theorem dX5_fill_311 : decode cX5_fill 311 = .ok (.iload 6, 2) := by decide +kernel
theorem dX5_fill_313 : decode cX5_fill 313 = .ok (.iadd, 1) := by decide +kernel
theorem dX5_fill_314 : decode cX5_fill 314 = .ok (.iload_n 3, 1) := by decide +kernel
theorem dX5_fill_315 : decode cX5_fill 315 = .ok (.iastore, 1) := by decide +kernel
theorem dX5_fill_316 : decode cX5_fill 316 = .ok (.iinc 2 1, 3) := by decide +kernel
theorem dX5_fill_319 : decode cX5_fill 319 = .ok (.iconst 1, 1) := by decide +kernel
theorem dX5_fill_320 : decode cX5_fill 320 = .ok (.istore 4, 2) := by decide +kernel
theorem dX5_fill_322 : decode cX5_fill 322 = .ok (.iinc 5 1, 3) := by decide +kernel
theorem dX5_fill_325 : decode cX5_fill 325 = .ok (.goto (-243), 3) := by decide +kernel
theorem dX5_fill_328 : decode cX5_fill 328 = .ok (.goto (-260), 3) := by decide +kernel
theorem dX5_fill_331 : decode cX5_fill 331 = .ok (.iload_n 2, 1) := by decide +kernel
theorem dX5_fill_332 : decode cX5_fill 332 = .ok (.ireturn, 1) := by decide +kernel
theorem dX5_size_0 : decode cX5_size 0 = .ok (.fload_n 0, 1) := by decide +kernel
theorem dX5_size_1 : decode cX5_size 1 = .ok (.fconst 0, 1) := by decide +kernel
theorem dX5_size_2 : decode cX5_size 2 = .ok (.fcmp .g, 1) := by decide +kernel
theorem dX5_size_3 : decode cX5_size 3 = .ok (.ifCond .ge 8, 3) := by decide +kernel
theorem dX5_size_6 : decode cX5_size 6 = .ok (.fload_n 0, 1) := by decide +kernel
theorem dX5_size_7 : decode cX5_size 7 = .ok (.fneg, 1) := by decide +kernel
theorem dX5_size_8 : decode cX5_size 8 = .ok (.goto 4, 3) := by decide +kernel
theorem dX5_size_11 : decode cX5_size 11 = .ok (.fload_n 0, 1) := by decide +kernel
theorem dX5_size_12 : decode cX5_size 12 = .ok (.freturn, 1) := by decide +kernel
set_option maxRecDepth 20000 in
theorem ggX5_nearest_X5_left : GoodIn wsX5_nearest wsX5_left := goodIn_r _ [8, 9, 10, 11, 15, 16, 17, 18, 19, 20, 21, 22, 23, 24, 25, 26, 27, 28, 29, 30, 31, 32, 33, 34, 35, 36, 37, 38, 39, 40] (by decide +kernel) (by decide +kernel)
set_option maxRecDepth 20000 in
theorem gX5_nearest_X5_left : GoodIn wsX5_nearest (wsV RX5 104 RX5 yX5_left wsX5_left) := goodIn_app (goodIn_of _ (by decide +kernel)) ggX5_nearest_X5_left
set_option maxRecDepth 20000 in
theorem ggX5_nearest_X5_size : GoodIn wsX5_nearest wsX5_size := goodIn_r _ [14] (by decide +kernel) (by decide +kernel)
set_option maxRecDepth 20000 in
theorem gX5_nearest_X5_size : GoodIn wsX5_nearest (va_wsS RX5 125 yX5_size wsX5_size) := goodIn_app (goodIn_of _ (by decide +kernel)) ggX5_nearest_X5_size
theorem dX5_nearest_0 : decode cX5_nearest 0 = .ok (.iconst (-1), 1) := by decide +kernel
theorem dX5_nearest_1 : decode cX5_nearest 1 = .ok (.istore_n 2, 1) := by decide +kernel
theorem dX5_nearest_2 : decode cX5_nearest 2 = .ok (.iconst 0, 1) := by decide +kernel
theorem dX5_nearest_3 : decode cX5_nearest 3 = .ok (.istore_n 3, 1) := by decide +kernel
theorem dX5_nearest_4 : decode cX5_nearest 4 = .ok (.iload_n 3, 1) := by decide +kernel
theorem dX5_nearest_5 : decode cX5_nearest 5 = .ok (.aload_n 0, 1) := by decide +kernel
theorem dX5_nearest_6 : decode cX5_nearest 6 = .ok (.getfield 82, 3) := by decide +kernel
theorem dX5_nearest_9 : decode cX5_nearest 9 = .ok (.if_icmp .ge 75, 3) := by decide +kernel
theorem dX5_nearest_12 : decode cX5_nearest 12 = .ok (.aload_n 0, 1) := by decide +kernel
theorem dX5_nearest_13 : decode cX5_nearest 13 = .ok (.getfield 20, 3) := by decide +kernel
theorem dX5_nearest_16 : decode cX5_nearest 16 = .ok (.iload_n 3, 1) := by decide +kernel
theorem dX5_nearest_17 : decode cX5_nearest 17 = .ok (.baload, 1) := by decide +kernel
theorem dX5_nearest_18 : decode cX5_nearest 18 = .ok (.ifCond .eq 15, 3) := by decide +kernel
theorem dX5_nearest_21 : decode cX5_nearest 21 = .ok (.aload_n 0, 1) := by decide +kernel
theorem dX5_nearest_22 : decode cX5_nearest 22 = .ok (.iload_n 3, 1) := by decide +kernel
theorem dX5_nearest_23 : decode cX5_nearest 23 = .ok (.invokevirtual 104, 3) := by decide +kernel
theorem dX5_nearest_26 : decode cX5_nearest 26 = .ok (.ifCond .le 7, 3) := by decide +kernel
theorem dX5_nearest_29 : decode cX5_nearest 29 = .ok (.iconst 1, 1) := by decide +kernel
theorem dX5_nearest_30 : decode cX5_nearest 30 = .ok (.goto 4, 3) := by decide +kernel
theorem dX5_nearest_33 : decode cX5_nearest 33 = .ok (.iconst 0, 1) := by decide +kernel
theorem dX5_nearest_34 : decode cX5_nearest 34 = .ok (.istore 4, 2) := by decide +kernel
theorem dX5_nearest_36 : decode cX5_nearest 36 = .ok (.iload 4, 2) := by decide +kernel
theorem dX5_nearest_38 : decode cX5_nearest 38 = .ok (.ifCond .eq 38, 3) := by decide +kernel
theorem dX5_nearest_41 : decode cX5_nearest 41 = .ok (.iload_n 2, 1) := by decide +kernel
theorem dX5_nearest_42 : decode cX5_nearest 42 = .ok (.iconst (-1), 1) := by decide +kernel
theorem dX5_nearest_43 : decode cX5_nearest 43 = .ok (.if_icmp .eq 29, 3) := by decide +kernel
theorem dX5_nearest_46 : decode cX5_nearest 46 = .ok (.aload_n 0, 1) := by decide +kernel
theorem dX5_nearest_47 : decode cX5_nearest 47 = .ok (.getfield 7, 3) := by decide +kernel
theorem dX5_nearest_50 : decode cX5_nearest 50 = .ok (.iload_n 3, 1) := by decide +kernel
theorem dX5_nearest_51 : decode cX5_nearest 51 = .ok (.faload, 1) := by decide +kernel
theorem dX5_nearest_52 : decode cX5_nearest 52 = .ok (.fload_n 1, 1) := by decide +kernel
theorem dX5_nearest_53 : decode cX5_nearest 53 = .ok (.fsub, 1) := by decide +kernel
theorem dX5_nearest_54 : decode cX5_nearest 54 = .ok (.invokestatic 125, 3) := by decide +kernel
theorem dX5_nearest_57 : decode cX5_nearest 57 = .ok (.aload_n 0, 1) := by decide +kernel
theorem dX5_nearest_58 : decode cX5_nearest 58 = .ok (.getfield 7, 3) := by decide +kernel
theorem dX5_nearest_61 : decode cX5_nearest 61 = .ok (.iload_n 2, 1) := by decide +kernel
theorem dX5_nearest_62 : decode cX5_nearest 62 = .ok (.faload, 1) := by decide +kernel
theorem dX5_nearest_63 : decode cX5_nearest 63 = .ok (.fload_n 1, 1) := by decide +kernel
theorem dX5_nearest_64 : decode cX5_nearest 64 = .ok (.fsub, 1) := by decide +kernel
theorem dX5_nearest_65 : decode cX5_nearest 65 = .ok (.invokestatic 125, 3) := by decide +kernel
theorem dX5_nearest_68 : decode cX5_nearest 68 = .ok (.fcmp .g, 1) := by decide +kernel
theorem dX5_nearest_69 : decode cX5_nearest 69 = .ok (.ifCond .ge 7, 3) := by decide +kernel
theorem dX5_nearest_72 : decode cX5_nearest 72 = .ok (.iload_n 3, 1) := by decide +kernel
theorem dX5_nearest_73 : decode cX5_nearest 73 = .ok (.goto 4, 3) := by decide +kernel
theorem dX5_nearest_76 : decode cX5_nearest 76 = .ok (.iload_n 2, 1) := by decide +kernel
theorem dX5_nearest_77 : decode cX5_nearest 77 = .ok (.istore_n 2, 1) := by decide +kernel
theorem dX5_nearest_78 : decode cX5_nearest 78 = .ok (.iinc 3 1, 3) := by decide +kernel
theorem dX5_nearest_81 : decode cX5_nearest 81 = .ok (.goto (-77), 3) := by decide +kernel
theorem dX5_nearest_84 : decode cX5_nearest 84 = .ok (.iload_n 2, 1) := by decide +kernel
theorem dX5_nearest_85 : decode cX5_nearest 85 = .ok (.ireturn, 1) := by decide +kernel
set_option maxRecDepth 20000 in
theorem ggX5_brings_X5_in : GoodIn wsX5_brings wsX5_in := goodIn_r _ [7] (by decide +kernel) (by decide +kernel)
set_option maxRecDepth 20000 in
theorem gX5_brings_X5_in : GoodIn wsX5_brings (va_wsS RX5 85 yX5_in wsX5_in) := goodIn_app (goodIn_of _ (by decide +kernel)) ggX5_brings_X5_in
theorem dX5_brings_0 : decode cX5_brings 0 = .ok (.iload_n 2, 1) := by decide +kernel
theorem dX5_brings_1 : decode cX5_brings 1 = .ok (.iconst 0, 1) := by decide +kernel
theorem dX5_brings_2 : decode cX5_brings 2 = .ok (.aload_n 0, 1) := by decide +kernel
theorem dX5_brings_3 : decode cX5_brings 3 = .ok (.getfield 30, 3) := by decide +kernel
theorem dX5_brings_6 : decode cX5_brings 6 = .ok (.iload_n 1, 1) := by decide +kernel
theorem dX5_brings_7 : decode cX5_brings 7 = .ok (.iaload, 1) := by decide +kernel
theorem dX5_brings_8 : decode cX5_brings 8 = .ok (.iconst 1, 1) := by decide +kernel
theorem dX5_brings_9 : decode cX5_brings 9 = .ok (.isub, 1) := by decide +kernel
theorem dX5_brings_10 : decode cX5_brings 10 = .ok (.invokestatic 85, 3) := by decide +kernel
theorem dX5_brings_13 : decode cX5_brings 13 = .ok (.ifCond .eq 35, 3) := by decide +kernel
theorem dX5_brings_16 : decode cX5_brings 16 = .ok (.iload_n 3, 1) := by decide +kernel
theorem dX5_brings_17 : decode cX5_brings 17 = .ok (.iconst 0, 1) := by decide +kernel
theorem dX5_brings_18 : decode cX5_brings 18 = .ok (.aload_n 0, 1) := by decide +kernel
theorem dX5_brings_19 : decode cX5_brings 19 = .ok (.getfield 33, 3) := by decide +kernel
theorem dX5_brings_22 : decode cX5_brings 22 = .ok (.iload_n 1, 1) := by decide +kernel
theorem dX5_brings_23 : decode cX5_brings 23 = .ok (.iaload, 1) := by decide +kernel
theorem dX5_brings_24 : decode cX5_brings 24 = .ok (.iconst 1, 1) := by decide +kernel
theorem dX5_brings_25 : decode cX5_brings 25 = .ok (.isub, 1) := by decide +kernel
theorem dX5_brings_26 : decode cX5_brings 26 = .ok (.invokestatic 85, 3) := by decide +kernel
theorem dX5_brings_29 : decode cX5_brings 29 = .ok (.ifCond .eq 19, 3) := by decide +kernel
theorem dX5_brings_32 : decode cX5_brings 32 = .ok (.aload_n 0, 1) := by decide +kernel
theorem dX5_brings_33 : decode cX5_brings 33 = .ok (.getfield 54, 3) := by decide +kernel
theorem dX5_brings_36 : decode cX5_brings 36 = .ok (.bipush 8, 2) := by decide +kernel
theorem dX5_brings_38 : decode cX5_brings 38 = .ok (.iload_n 3, 1) := by decide +kernel
theorem dX5_brings_39 : decode cX5_brings 39 = .ok (.imul, 1) := by decide +kernel
theorem dX5_brings_40 : decode cX5_brings 40 = .ok (.iload_n 2, 1) := by decide +kernel
theorem dX5_brings_41 : decode cX5_brings 41 = .ok (.iadd, 1) := by decide +kernel
theorem dX5_brings_42 : decode cX5_brings 42 = .ok (.dup2, 1) := by decide +kernel
theorem dX5_brings_43 : decode cX5_brings 43 = .ok (.faload, 1) := by decide +kernel
theorem dX5_brings_44 : decode cX5_brings 44 = .ok (.fload 4, 2) := by decide +kernel
theorem dX5_brings_46 : decode cX5_brings 46 = .ok (.fadd, 1) := by decide +kernel
theorem dX5_brings_47 : decode cX5_brings 47 = .ok (.fastore, 1) := by decide +kernel
theorem dX5_brings_48 : decode cX5_brings 48 = .ok (.return_, 1) := by decide +kernel
set_option maxRecDepth 20000 in
theorem ggX5_passesOn_X5_brings : GoodIn wsX5_passesOn wsX5_brings := goodIn_r _ [9, 10, 11, 12, 13, 14, 8, 15, 16, 17, 18, 19, 20, 21, 22, 23, 24, 25, 26, 27, 28, 29, 30, 31, 32, 33, 34, 35, 36, 37, 38, 39, 40, 41] (by decide +kernel) (by decide +kernel)
set_option maxRecDepth 20000 in
theorem gX5_passesOn_X5_brings : GoodIn wsX5_passesOn (wsV RX5 130 RX5 yX5_brings wsX5_brings) := goodIn_app (goodIn_of _ (by decide +kernel)) ggX5_passesOn_X5_brings
theorem dX5_passesOn_0 : decode cX5_passesOn 0 = .ok (.aload_n 0, 1) := by decide +kernel
theorem dX5_passesOn_1 : decode cX5_passesOn 1 = .ok (.iload_n 1, 1) := by decide +kernel
theorem dX5_passesOn_2 : decode cX5_passesOn 2 = .ok (.iload_n 2, 1) := by decide +kernel
theorem dX5_passesOn_3 : decode cX5_passesOn 3 = .ok (.iconst 1, 1) := by decide +kernel
theorem dX5_passesOn_4 : decode cX5_passesOn 4 = .ok (.iadd, 1) := by decide +kernel
theorem dX5_passesOn_5 : decode cX5_passesOn 5 = .ok (.iload_n 3, 1) := by decide +kernel
theorem dX5_passesOn_6 : decode cX5_passesOn 6 = .ok (.fload 4, 2) := by decide +kernel
theorem dX5_passesOn_8 : decode cX5_passesOn 8 = .ok (.ldc 129, 2) := by decide +kernel
theorem dX5_passesOn_10 : decode cX5_passesOn 10 = .ok (.fmul, 1) := by decide +kernel
theorem dX5_passesOn_11 : decode cX5_passesOn 11 = .ok (.invokevirtual 130, 3) := by decide +kernel
theorem dX5_passesOn_14 : decode cX5_passesOn 14 = .ok (.aload_n 0, 1) := by decide +kernel
theorem dX5_passesOn_15 : decode cX5_passesOn 15 = .ok (.iload_n 1, 1) := by decide +kernel
theorem dX5_passesOn_16 : decode cX5_passesOn 16 = .ok (.iload_n 2, 1) := by decide +kernel
theorem dX5_passesOn_17 : decode cX5_passesOn 17 = .ok (.iconst 1, 1) := by decide +kernel
theorem dX5_passesOn_18 : decode cX5_passesOn 18 = .ok (.isub, 1) := by decide +kernel
theorem dX5_passesOn_19 : decode cX5_passesOn 19 = .ok (.iload_n 3, 1) := by decide +kernel
theorem dX5_passesOn_20 : decode cX5_passesOn 20 = .ok (.iconst 1, 1) := by decide +kernel
theorem dX5_passesOn_21 : decode cX5_passesOn 21 = .ok (.iadd, 1) := by decide +kernel
theorem dX5_passesOn_22 : decode cX5_passesOn 22 = .ok (.fload 4, 2) := by decide +kernel
theorem dX5_passesOn_24 : decode cX5_passesOn 24 = .ok (.ldc 134, 2) := by decide +kernel
theorem dX5_passesOn_26 : decode cX5_passesOn 26 = .ok (.fmul, 1) := by decide +kernel
theorem dX5_passesOn_27 : decode cX5_passesOn 27 = .ok (.invokevirtual 130, 3) := by decide +kernel
theorem dX5_passesOn_30 : decode cX5_passesOn 30 = .ok (.aload_n 0, 1) := by decide +kernel
theorem dX5_passesOn_31 : decode cX5_passesOn 31 = .ok (.iload_n 1, 1) := by decide +kernel
theorem dX5_passesOn_32 : decode cX5_passesOn 32 = .ok (.iload_n 2, 1) := by decide +kernel
theorem dX5_passesOn_33 : decode cX5_passesOn 33 = .ok (.iload_n 3, 1) := by decide +kernel
theorem dX5_passesOn_34 : decode cX5_passesOn 34 = .ok (.iconst 1, 1) := by decide +kernel
theorem dX5_passesOn_35 : decode cX5_passesOn 35 = .ok (.iadd, 1) := by decide +kernel
theorem dX5_passesOn_36 : decode cX5_passesOn 36 = .ok (.fload 4, 2) := by decide +kernel
theorem dX5_passesOn_38 : decode cX5_passesOn 38 = .ok (.ldc 135, 2) := by decide +kernel
theorem dX5_passesOn_40 : decode cX5_passesOn 40 = .ok (.fmul, 1) := by decide +kernel
theorem dX5_passesOn_41 : decode cX5_passesOn 41 = .ok (.invokevirtual 130, 3) := by decide +kernel
theorem dX5_passesOn_44 : decode cX5_passesOn 44 = .ok (.aload_n 0, 1) := by decide +kernel
theorem dX5_passesOn_45 : decode cX5_passesOn 45 = .ok (.iload_n 1, 1) := by decide +kernel
theorem dX5_passesOn_46 : decode cX5_passesOn 46 = .ok (.iload_n 2, 1) := by decide +kernel
theorem dX5_passesOn_47 : decode cX5_passesOn 47 = .ok (.iconst 1, 1) := by decide +kernel
theorem dX5_passesOn_48 : decode cX5_passesOn 48 = .ok (.iadd, 1) := by decide +kernel
theorem dX5_passesOn_49 : decode cX5_passesOn 49 = .ok (.iload_n 3, 1) := by decide +kernel
theorem dX5_passesOn_50 : decode cX5_passesOn 50 = .ok (.iconst 1, 1) := by decide +kernel
theorem dX5_passesOn_51 : decode cX5_passesOn 51 = .ok (.iadd, 1) := by decide +kernel
theorem dX5_passesOn_52 : decode cX5_passesOn 52 = .ok (.fload 4, 2) := by decide +kernel
theorem dX5_passesOn_54 : decode cX5_passesOn 54 = .ok (.ldc 136, 2) := by decide +kernel
theorem dX5_passesOn_56 : decode cX5_passesOn 56 = .ok (.fmul, 1) := by decide +kernel
theorem dX5_passesOn_57 : decode cX5_passesOn 57 = .ok (.invokevirtual 130, 3) := by decide +kernel
theorem dX5_passesOn_60 : decode cX5_passesOn 60 = .ok (.return_, 1) := by decide +kernel
set_option maxRecDepth 20000 in
theorem ggX5_design_X5_isPicture : GoodIn wsX5_design wsX5_isPicture := goodIn_r _ [14, 15, 16, 17, 13, 18, 58, 59, 60, 61, 62, 63, 64, 65, 66, 67, 68, 69, 70, 71, 72, 73, 74, 75, 76, 77, 78, 79, 80, 81, 82, 83] (by decide +kernel) (by decide +kernel)
set_option maxRecDepth 20000 in
theorem gX5_design_X5_isPicture : GoodIn wsX5_design (wsV RX5 92 RX5 yX5_isPicture wsX5_isPicture) := goodIn_app (goodIn_of _ (by decide +kernel)) ggX5_design_X5_isPicture
set_option maxRecDepth 20000 in
theorem ggX5_design_X5_asked : GoodIn wsX5_design wsX5_asked := goodIn_r _ [22, 23, 58, 59, 60, 61, 62, 63, 64, 65, 66, 67, 68, 69, 70, 71, 72, 73, 74, 75, 76, 77, 78, 79, 80, 81, 82, 83] (by decide +kernel) (by decide +kernel)
set_option maxRecDepth 20000 in
theorem gX5_design_X5_asked : GoodIn wsX5_design (wsV RX5 122 RX5 yX5_asked wsX5_asked) := goodIn_app (goodIn_of _ (by decide +kernel)) ggX5_design_X5_asked
set_option maxRecDepth 20000 in
theorem ggX5_design_X5_cellOf : GoodIn wsX5_design wsX5_cellOf := goodIn_r _ [26] (by decide +kernel) (by decide +kernel)
set_option maxRecDepth 20000 in
theorem gX5_design_X5_cellOf : GoodIn wsX5_design (va_wsS RX5 111 yX5_cellOf wsX5_cellOf) := goodIn_app (goodIn_of _ (by decide +kernel)) ggX5_design_X5_cellOf
set_option maxRecDepth 20000 in
theorem ggX5_design_X5_nearest : GoodIn wsX5_design wsX5_nearest := goodIn_r _ [30, 31, 32, 9, 33, 34, 35, 13, 36, 37, 3, 38, 39, 40, 41, 58, 59, 60, 61, 62, 63, 64, 65, 66, 67, 68, 69, 70, 71, 72, 73, 74, 75, 76, 77, 78, 79, 80, 81, 82, 83] (by decide +kernel) (by decide +kernel)
set_option maxRecDepth 20000 in
theorem gX5_design_X5_nearest : GoodIn wsX5_design (wsV RX5 137 RX5 yX5_nearest wsX5_nearest) := goodIn_app (goodIn_of _ (by decide +kernel)) ggX5_design_X5_nearest
set_option maxRecDepth 20000 in
theorem ggX5_design_X5_passesOn : GoodIn wsX5_design wsX5_passesOn := goodIn_r _ [45, 46, 47, 48, 49, 50, 51, 52, 13, 53, 5, 6, 1, 16, 17, 18, 58, 59, 60, 61, 62, 63, 64, 65, 66, 67, 68, 69, 70, 71, 72, 73, 74, 75, 76, 77, 78, 79, 80, 81, 82, 83] (by decide +kernel) (by decide +kernel)
set_option maxRecDepth 20000 in
theorem gX5_design_X5_passesOn : GoodIn wsX5_design (wsV RX5 141 RX5 yX5_passesOn wsX5_passesOn) := goodIn_app (goodIn_of _ (by decide +kernel)) ggX5_design_X5_passesOn
set_option maxRecDepth 20000 in
theorem ggX5_design_X5_count : GoodIn wsX5_design wsX5_count := goodIn_r _ [57, 6, 5, 2, 24, 25, 13, 26, 58, 59, 60, 61, 62, 63, 64, 65, 66, 67, 68, 69, 70, 71, 72, 73, 74, 75, 76, 77, 78, 79, 80, 81, 82, 83] (by decide +kernel) (by decide +kernel)
set_option maxRecDepth 20000 in
theorem gX5_design_X5_count : GoodIn wsX5_design (wsV RX5 118 RX5 yX5_count wsX5_count) := goodIn_app (goodIn_of _ (by decide +kernel)) ggX5_design_X5_count
theorem dX5_design_0 : decode cX5_design 0 = .ok (.aload_n 0, 1) := by decide +kernel
theorem dX5_design_1 : decode cX5_design 1 = .ok (.aload_n 0, 1) := by decide +kernel
theorem dX5_design_2 : decode cX5_design 2 = .ok (.iload_n 1, 1) := by decide +kernel
theorem dX5_design_3 : decode cX5_design 3 = .ok (.invokevirtual 92, 3) := by decide +kernel
theorem dX5_design_6 : decode cX5_design 6 = .ok (.invokevirtual 122, 3) := by decide +kernel
theorem dX5_design_9 : decode cX5_design 9 = .ok (.ifCond .ne 5, 3) := by decide +kernel
theorem dX5_design_12 : decode cX5_design 12 = .ok (.iconst 0, 1) := by decide +kernel
theorem dX5_design_13 : decode cX5_design 13 = .ok (.ireturn, 1) := by decide +kernel
theorem dX5_design_14 : decode cX5_design 14 = .ok (.bipush 64, 2) := by decide +kernel
theorem dX5_design_16 : decode cX5_design 16 = .ok (.iload_n 1, 1) := by decide +kernel
theorem dX5_design_17 : decode cX5_design 17 = .ok (.imul, 1) := by decide +kernel
theorem dX5_design_18 : decode cX5_design 18 = .ok (.istore_n 2, 1) := by decide +kernel
theorem dX5_design_19 : decode cX5_design 19 = .ok (.iload_n 2, 1) := by decide +kernel
theorem dX5_design_20 : decode cX5_design 20 = .ok (.bipush 64, 2) := by decide +kernel
theorem dX5_design_22 : decode cX5_design 22 = .ok (.iload_n 1, 1) := by decide +kernel
theorem dX5_design_23 : decode cX5_design 23 = .ok (.iconst 1, 1) := by decide +kernel
theorem dX5_design_24 : decode cX5_design 24 = .ok (.iadd, 1) := by decide +kernel
theorem dX5_design_25 : decode cX5_design 25 = .ok (.imul, 1) := by decide +kernel
theorem dX5_design_26 : decode cX5_design 26 = .ok (.if_icmp .ge 60, 3) := by decide +kernel
theorem dX5_design_29 : decode cX5_design 29 = .ok (.aload_n 0, 1) := by decide +kernel
theorem dX5_design_30 : decode cX5_design 30 = .ok (.getfield 54, 3) := by decide +kernel
theorem dX5_design_33 : decode cX5_design 33 = .ok (.iload_n 2, 1) := by decide +kernel
theorem dX5_design_34 : decode cX5_design 34 = .ok (.bipush 64, 2) := by decide +kernel
theorem dX5_design_36 : decode cX5_design 36 = .ok (.iload_n 1, 1) := by decide +kernel
theorem dX5_design_37 : decode cX5_design 37 = .ok (.imul, 1) := by decide +kernel
theorem dX5_design_38 : decode cX5_design 38 = .ok (.isub, 1) := by decide +kernel
theorem dX5_design_39 : decode cX5_design 39 = .ok (.fconst 0, 1) := by decide +kernel
theorem dX5_design_40 : decode cX5_design 40 = .ok (.fastore, 1) := by decide +kernel
theorem dX5_design_41 : decode cX5_design 41 = .ok (.aload_n 0, 1) := by decide +kernel
theorem dX5_design_42 : decode cX5_design 42 = .ok (.getfield 39, 3) := by decide +kernel
theorem dX5_design_45 : decode cX5_design 45 = .ok (.iload_n 2, 1) := by decide +kernel
theorem dX5_design_46 : decode cX5_design 46 = .ok (.iaload, 1) := by decide +kernel
theorem dX5_design_47 : decode cX5_design 47 = .ok (.iconst 1, 1) := by decide +kernel
theorem dX5_design_48 : decode cX5_design 48 = .ok (.if_icmp .ne 32, 3) := by decide +kernel
theorem dX5_design_51 : decode cX5_design 51 = .ok (.aload_n 0, 1) := by decide +kernel
theorem dX5_design_52 : decode cX5_design 52 = .ok (.getfield 24, 3) := by decide +kernel
theorem dX5_design_55 : decode cX5_design 55 = .ok (.aload_n 0, 1) := by decide +kernel
theorem dX5_design_56 : decode cX5_design 56 = .ok (.getfield 42, 3) := by decide +kernel
theorem dX5_design_59 : decode cX5_design 59 = .ok (.iload_n 2, 1) := by decide +kernel
theorem dX5_design_60 : decode cX5_design 60 = .ok (.iaload, 1) := by decide +kernel
theorem dX5_design_61 : decode cX5_design 61 = .ok (.dup2, 1) := by decide +kernel
theorem dX5_design_62 : decode cX5_design 62 = .ok (.iaload, 1) := by decide +kernel
theorem dX5_design_63 : decode cX5_design 63 = .ok (.iconst 1, 1) := by decide +kernel
theorem dX5_design_64 : decode cX5_design 64 = .ok (.isub, 1) := by decide +kernel
theorem dX5_design_65 : decode cX5_design 65 = .ok (.iastore, 1) := by decide +kernel
theorem dX5_design_66 : decode cX5_design 66 = .ok (.aload_n 0, 1) := by decide +kernel
theorem dX5_design_67 : decode cX5_design 67 = .ok (.getfield 42, 3) := by decide +kernel
theorem dX5_design_70 : decode cX5_design 70 = .ok (.iload_n 2, 1) := by decide +kernel
theorem dX5_design_71 : decode cX5_design 71 = .ok (.iconst (-1), 1) := by decide +kernel
theorem dX5_design_72 : decode cX5_design 72 = .ok (.iastore, 1) := by decide +kernel
theorem dX5_design_73 : decode cX5_design 73 = .ok (.aload_n 0, 1) := by decide +kernel
theorem dX5_design_74 : decode cX5_design 74 = .ok (.getfield 39, 3) := by decide +kernel
theorem dX5_design_77 : decode cX5_design 77 = .ok (.iload_n 2, 1) := by decide +kernel
theorem dX5_design_78 : decode cX5_design 78 = .ok (.iconst 0, 1) := by decide +kernel
theorem dX5_design_79 : decode cX5_design 79 = .ok (.iastore, 1) := by decide +kernel
theorem dX5_design_80 : decode cX5_design 80 = .ok (.iinc 2 1, 3) := by decide +kernel
theorem dX5_design_83 : decode cX5_design 83 = .ok (.goto (-64), 3) := by decide +kernel
theorem dX5_design_86 : decode cX5_design 86 = .ok (.iconst 0, 1) := by decide +kernel
theorem dX5_design_87 : decode cX5_design 87 = .ok (.istore_n 2, 1) := by decide +kernel
theorem dX5_design_88 : decode cX5_design 88 = .ok (.iload_n 2, 1) := by decide +kernel
theorem dX5_design_89 : decode cX5_design 89 = .ok (.aload_n 0, 1) := by decide +kernel
theorem dX5_design_90 : decode cX5_design 90 = .ok (.getfield 30, 3) := by decide +kernel
theorem dX5_design_93 : decode cX5_design 93 = .ok (.iload_n 1, 1) := by decide +kernel
theorem dX5_design_94 : decode cX5_design 94 = .ok (.iaload, 1) := by decide +kernel
theorem dX5_design_95 : decode cX5_design 95 = .ok (.aload_n 0, 1) := by decide +kernel
theorem dX5_design_96 : decode cX5_design 96 = .ok (.getfield 33, 3) := by decide +kernel
theorem dX5_design_99 : decode cX5_design 99 = .ok (.iload_n 1, 1) := by decide +kernel
theorem dX5_design_100 : decode cX5_design 100 = .ok (.iaload, 1) := by decide +kernel
theorem dX5_design_101 : decode cX5_design 101 = .ok (.imul, 1) := by decide +kernel
theorem dX5_design_102 : decode cX5_design 102 = .ok (.if_icmp .ge 165, 3) := by decide +kernel
theorem dX5_design_105 : decode cX5_design 105 = .ok (.iload_n 2, 1) := by decide +kernel
theorem dX5_design_106 : decode cX5_design 106 = .ok (.aload_n 0, 1) := by decide +kernel
theorem dX5_design_107 : decode cX5_design 107 = .ok (.getfield 30, 3) := by decide +kernel
theorem dX5_design_110 : decode cX5_design 110 = .ok (.iload_n 1, 1) := by decide +kernel
theorem dX5_design_111 : decode cX5_design 111 = .ok (.iaload, 1) := by decide +kernel
theorem dX5_design_112 : decode cX5_design 112 = .ok (.irem, 1) := by decide +kernel
theorem dX5_design_113 : decode cX5_design 113 = .ok (.istore_n 3, 1) := by decide +kernel
theorem dX5_design_114 : decode cX5_design 114 = .ok (.iload_n 2, 1) := by decide +kernel
theorem dX5_design_115 : decode cX5_design 115 = .ok (.aload_n 0, 1) := by decide +kernel
theorem dX5_design_116 : decode cX5_design 116 = .ok (.getfield 30, 3) := by decide +kernel
theorem dX5_design_119 : decode cX5_design 119 = .ok (.iload_n 1, 1) := by decide +kernel
theorem dX5_design_120 : decode cX5_design 120 = .ok (.iaload, 1) := by decide +kernel
theorem dX5_design_121 : decode cX5_design 121 = .ok (.idiv, 1) := by decide +kernel
theorem dX5_design_122 : decode cX5_design 122 = .ok (.istore 4, 2) := by decide +kernel
theorem dX5_design_124 : decode cX5_design 124 = .ok (.iload_n 1, 1) := by decide +kernel
theorem dX5_design_125 : decode cX5_design 125 = .ok (.iload_n 3, 1) := by decide +kernel
theorem dX5_design_126 : decode cX5_design 126 = .ok (.iload 4, 2) := by decide +kernel
theorem dX5_design_128 : decode cX5_design 128 = .ok (.invokestatic 111, 3) := by decide +kernel
theorem dX5_design_131 : decode cX5_design 131 = .ok (.istore 5, 2) := by decide +kernel
theorem dX5_design_133 : decode cX5_design 133 = .ok (.aload_n 0, 1) := by decide +kernel
theorem dX5_design_134 : decode cX5_design 134 = .ok (.getfield 45, 3) := by decide +kernel
theorem dX5_design_137 : decode cX5_design 137 = .ok (.iload 5, 2) := by decide +kernel
theorem dX5_design_139 : decode cX5_design 139 = .ok (.aload_n 0, 1) := by decide +kernel
theorem dX5_design_140 : decode cX5_design 140 = .ok (.getfield 36, 3) := by decide +kernel
theorem dX5_design_143 : decode cX5_design 143 = .ok (.iload 5, 2) := by decide +kernel
theorem dX5_design_145 : decode cX5_design 145 = .ok (.iaload, 1) := by decide +kernel
theorem dX5_design_146 : decode cX5_design 146 = .ok (.i2f, 1) := by decide +kernel
theorem dX5_design_147 : decode cX5_design 147 = .ok (.aload_n 0, 1) := by decide +kernel
theorem dX5_design_148 : decode cX5_design 148 = .ok (.getfield 54, 3) := by decide +kernel
theorem dX5_design_151 : decode cX5_design 151 = .ok (.bipush 8, 2) := by decide +kernel
theorem dX5_design_153 : decode cX5_design 153 = .ok (.iload 4, 2) := by decide +kernel
theorem dX5_design_155 : decode cX5_design 155 = .ok (.imul, 1) := by decide +kernel
theorem dX5_design_156 : decode cX5_design 156 = .ok (.iload_n 3, 1) := by decide +kernel
theorem dX5_design_157 : decode cX5_design 157 = .ok (.iadd, 1) := by decide +kernel
theorem dX5_design_158 : decode cX5_design 158 = .ok (.faload, 1) := by decide +kernel
theorem dX5_design_159 : decode cX5_design 159 = .ok (.fadd, 1) := by decide +kernel
theorem dX5_design_160 : decode cX5_design 160 = .ok (.fastore, 1) := by decide +kernel
theorem dX5_design_161 : decode cX5_design 161 = .ok (.aload_n 0, 1) := by decide +kernel
theorem dX5_design_162 : decode cX5_design 162 = .ok (.getfield 39, 3) := by decide +kernel
theorem dX5_design_165 : decode cX5_design 165 = .ok (.iload 5, 2) := by decide +kernel
theorem dX5_design_167 : decode cX5_design 167 = .ok (.iaload, 1) := by decide +kernel
theorem dX5_design_168 : decode cX5_design 168 = .ok (.ifCond .ne 17, 3) := by decide +kernel
theorem dX5_design_171 : decode cX5_design 171 = .ok (.aload_n 0, 1) := by decide +kernel
theorem dX5_design_172 : decode cX5_design 172 = .ok (.aload_n 0, 1) := by decide +kernel
theorem dX5_design_173 : decode cX5_design 173 = .ok (.getfield 45, 3) := by decide +kernel
theorem dX5_design_176 : decode cX5_design 176 = .ok (.iload 5, 2) := by decide +kernel
theorem dX5_design_178 : decode cX5_design 178 = .ok (.faload, 1) := by decide +kernel
theorem dX5_design_179 : decode cX5_design 179 = .ok (.invokevirtual 137, 3) := by decide +kernel
theorem dX5_design_182 : decode cX5_design 182 = .ok (.goto 4, 3) := by decide +kernel
theorem dX5_design_185 : decode cX5_design 185 = .ok (.iconst (-1), 1) := by decide +kernel
theorem dX5_design_186 : decode cX5_design 186 = .ok (.istore 6, 2) := by decide +kernel
theorem dX5_design_188 : decode cX5_design 188 = .ok (.iload 6, 2) := by decide +kernel
theorem dX5_design_190 : decode cX5_design 190 = .ok (.iconst (-1), 1) := by decide +kernel
theorem dX5_design_191 : decode cX5_design 191 = .ok (.if_icmp .eq 31, 3) := by decide +kernel
theorem dX5_design_194 : decode cX5_design 194 = .ok (.aload_n 0, 1) := by decide +kernel
theorem dX5_design_195 : decode cX5_design 195 = .ok (.getfield 39, 3) := by decide +kernel
theorem dX5_design_198 : decode cX5_design 198 = .ok (.iload 5, 2) := by decide +kernel
theorem dX5_design_200 : decode cX5_design 200 = .ok (.iconst 1, 1) := by decide +kernel
theorem dX5_design_201 : decode cX5_design 201 = .ok (.iastore, 1) := by decide +kernel
theorem dX5_design_202 : decode cX5_design 202 = .ok (.aload_n 0, 1) := by decide +kernel
theorem dX5_design_203 : decode cX5_design 203 = .ok (.getfield 42, 3) := by decide +kernel
theorem dX5_design_206 : decode cX5_design 206 = .ok (.iload 5, 2) := by decide +kernel
theorem dX5_design_208 : decode cX5_design 208 = .ok (.iload 6, 2) := by decide +kernel
theorem dX5_design_210 : decode cX5_design 210 = .ok (.iastore, 1) := by decide +kernel
theorem dX5_design_211 : decode cX5_design 211 = .ok (.aload_n 0, 1) := by decide +kernel
theorem dX5_design_212 : decode cX5_design 212 = .ok (.getfield 24, 3) := by decide +kernel
theorem dX5_design_215 : decode cX5_design 215 = .ok (.iload 6, 2) := by decide +kernel
theorem dX5_design_217 : decode cX5_design 217 = .ok (.dup2, 1) := by decide +kernel
theorem dX5_design_218 : decode cX5_design 218 = .ok (.iaload, 1) := by decide +kernel
theorem dX5_design_219 : decode cX5_design 219 = .ok (.iconst 1, 1) := by decide +kernel
theorem dX5_design_220 : decode cX5_design 220 = .ok (.iadd, 1) := by decide +kernel
theorem dX5_design_221 : decode cX5_design 221 = .ok (.iastore, 1) := by decide +kernel
theorem dX5_design_222 : decode cX5_design 222 = .ok (.aload_n 0, 1) := by decide +kernel
theorem dX5_design_223 : decode cX5_design 223 = .ok (.getfield 42, 3) := by decide +kernel
theorem dX5_design_226 : decode cX5_design 226 = .ok (.iload 5, 2) := by decide +kernel
theorem dX5_design_228 : decode cX5_design 228 = .ok (.iaload, 1) := by decide +kernel
theorem dX5_design_229 : decode cX5_design 229 = .ok (.iconst (-1), 1) := by decide +kernel
theorem dX5_design_230 : decode cX5_design 230 = .ok (.if_icmp .eq 31, 3) := by decide +kernel
theorem dX5_design_233 : decode cX5_design 233 = .ok (.aload_n 0, 1) := by decide +kernel
theorem dX5_design_234 : decode cX5_design 234 = .ok (.iload_n 1, 1) := by decide +kernel
theorem dX5_design_235 : decode cX5_design 235 = .ok (.iload_n 3, 1) := by decide +kernel
theorem dX5_design_236 : decode cX5_design 236 = .ok (.iload 4, 2) := by decide +kernel
theorem dX5_design_238 : decode cX5_design 238 = .ok (.aload_n 0, 1) := by decide +kernel
theorem dX5_design_239 : decode cX5_design 239 = .ok (.getfield 45, 3) := by decide +kernel
theorem dX5_design_242 : decode cX5_design 242 = .ok (.iload 5, 2) := by decide +kernel
theorem dX5_design_244 : decode cX5_design 244 = .ok (.faload, 1) := by decide +kernel
theorem dX5_design_245 : decode cX5_design 245 = .ok (.aload_n 0, 1) := by decide +kernel
theorem dX5_design_246 : decode cX5_design 246 = .ok (.getfield 7, 3) := by decide +kernel
theorem dX5_design_249 : decode cX5_design 249 = .ok (.aload_n 0, 1) := by decide +kernel
theorem dX5_design_250 : decode cX5_design 250 = .ok (.getfield 42, 3) := by decide +kernel
theorem dX5_design_253 : decode cX5_design 253 = .ok (.iload 5, 2) := by decide +kernel
theorem dX5_design_255 : decode cX5_design 255 = .ok (.iaload, 1) := by decide +kernel
theorem dX5_design_256 : decode cX5_design 256 = .ok (.faload, 1) := by decide +kernel
theorem dX5_design_257 : decode cX5_design 257 = .ok (.fsub, 1) := by decide +kernel
theorem dX5_design_258 : decode cX5_design 258 = .ok (.invokevirtual 141, 3) := by decide +kernel
theorem dX5_design_261 : decode cX5_design 261 = .ok (.iinc 2 1, 3) := by decide +kernel
theorem dX5_design_264 : decode cX5_design 264 = .ok (.goto (-176), 3) := by decide +kernel
theorem dX5_design_267 : decode cX5_design 267 = .ok (.aload_n 0, 1) := by decide +kernel
theorem dX5_design_268 : decode cX5_design 268 = .ok (.iload_n 1, 1) := by decide +kernel
theorem dX5_design_269 : decode cX5_design 269 = .ok (.iconst 1, 1) := by decide +kernel
theorem dX5_design_270 : decode cX5_design 270 = .ok (.invokevirtual 118, 3) := by decide +kernel
theorem dX5_design_273 : decode cX5_design 273 = .ok (.ireturn, 1) := by decide +kernel
set_option maxRecDepth 20000 in
theorem ggX5_share_X5_isPicture : GoodIn wsX5_share wsX5_isPicture := goodIn_r _ [11, 12, 13, 14, 10, 15, 35, 36, 37, 38, 39, 40, 41, 42, 43, 44, 45, 46, 47, 48, 49, 50, 51, 52, 53, 54, 55, 56, 57, 58, 59, 60] (by decide +kernel) (by decide +kernel)
set_option maxRecDepth 20000 in
theorem gX5_share_X5_isPicture : GoodIn wsX5_share (wsV RX5 92 RX5 yX5_isPicture wsX5_isPicture) := goodIn_app (goodIn_of _ (by decide +kernel)) ggX5_share_X5_isPicture
set_option maxRecDepth 20000 in
theorem ggX5_share_X5_isLot : GoodIn wsX5_share wsX5_isLot := goodIn_r _ [19, 20, 13, 14, 10, 15, 35, 36, 37, 38, 39, 40, 41, 42, 43, 44, 45, 46, 47, 48, 49, 50, 51, 52, 53, 54, 55, 56, 57, 58, 59, 60] (by decide +kernel) (by decide +kernel)
set_option maxRecDepth 20000 in
theorem gX5_share_X5_isLot : GoodIn wsX5_share (wsV RX5 101 RX5 yX5_isLot wsX5_isLot) := goodIn_app (goodIn_of _ (by decide +kernel)) ggX5_share_X5_isLot
set_option maxRecDepth 20000 in
theorem ggX5_share_X5_asked_ : GoodIn wsX5_share wsX5_asked_ := goodIn_r _ [24, 25, 35, 36, 37, 38, 39, 40, 41, 42, 43, 44, 45, 46, 47, 48, 49, 50, 51, 52, 53, 54, 55, 56, 57, 58, 59, 60] (by decide +kernel) (by decide +kernel)
set_option maxRecDepth 20000 in
theorem gX5_share_X5_asked_ : GoodIn wsX5_share (wsV RX5 96 RX5 yX5_asked_ wsX5_asked_) := goodIn_app (goodIn_of _ (by decide +kernel)) ggX5_share_X5_asked_
set_option maxRecDepth 20000 in
theorem ggX5_share_X5_cellOf : GoodIn wsX5_share wsX5_cellOf := goodIn_r _ [28] (by decide +kernel) (by decide +kernel)
set_option maxRecDepth 20000 in
theorem gX5_share_X5_cellOf : GoodIn wsX5_share (va_wsS RX5 111 yX5_cellOf wsX5_cellOf) := goodIn_app (goodIn_of _ (by decide +kernel)) ggX5_share_X5_cellOf
set_option maxRecDepth 20000 in
theorem ggX5_share_X5_left : GoodIn wsX5_share wsX5_left := goodIn_r _ [32, 33, 6, 34, 35, 36, 37, 38, 39, 40, 41, 42, 43, 44, 45, 46, 47, 48, 49, 50, 51, 52, 53, 54, 55, 56, 57, 58, 59, 60] (by decide +kernel) (by decide +kernel)
set_option maxRecDepth 20000 in
theorem gX5_share_X5_left : GoodIn wsX5_share (wsV RX5 104 RX5 yX5_left wsX5_left) := goodIn_app (goodIn_of _ (by decide +kernel)) ggX5_share_X5_left
theorem dX5_share_0 : decode cX5_share 0 = .ok (.aload_n 0, 1) := by decide +kernel
theorem dX5_share_1 : decode cX5_share 1 = .ok (.aload_n 0, 1) := by decide +kernel
theorem dX5_share_2 : decode cX5_share 2 = .ok (.iload_n 1, 1) := by decide +kernel
theorem dX5_share_3 : decode cX5_share 3 = .ok (.invokevirtual 92, 3) := by decide +kernel
theorem dX5_share_6 : decode cX5_share 6 = .ok (.ifCond .eq 23, 3) := by decide +kernel
theorem dX5_share_9 : decode cX5_share 9 = .ok (.aload_n 0, 1) := by decide +kernel
theorem dX5_share_10 : decode cX5_share 10 = .ok (.iload_n 2, 1) := by decide +kernel
theorem dX5_share_11 : decode cX5_share 11 = .ok (.invokevirtual 101, 3) := by decide +kernel
theorem dX5_share_14 : decode cX5_share 14 = .ok (.ifCond .eq 15, 3) := by decide +kernel
theorem dX5_share_17 : decode cX5_share 17 = .ok (.aload_n 0, 1) := by decide +kernel
theorem dX5_share_18 : decode cX5_share 18 = .ok (.iload_n 3, 1) := by decide +kernel
theorem dX5_share_19 : decode cX5_share 19 = .ok (.invokevirtual 101, 3) := by decide +kernel
theorem dX5_share_22 : decode cX5_share 22 = .ok (.ifCond .eq 7, 3) := by decide +kernel
theorem dX5_share_25 : decode cX5_share 25 = .ok (.iconst 1, 1) := by decide +kernel
theorem dX5_share_26 : decode cX5_share 26 = .ok (.goto 4, 3) := by decide +kernel
theorem dX5_share_29 : decode cX5_share 29 = .ok (.iconst 0, 1) := by decide +kernel
theorem dX5_share_30 : decode cX5_share 30 = .ok (.iload_n 2, 1) := by decide +kernel
theorem dX5_share_31 : decode cX5_share 31 = .ok (.iload_n 3, 1) := by decide +kernel
theorem dX5_share_32 : decode cX5_share 32 = .ok (.if_icmp .eq 7, 3) := by decide +kernel
theorem dX5_share_35 : decode cX5_share 35 = .ok (.iconst 1, 1) := by decide +kernel
theorem dX5_share_36 : decode cX5_share 36 = .ok (.goto 4, 3) := by decide +kernel
theorem dX5_share_39 : decode cX5_share 39 = .ok (.iconst 0, 1) := by decide +kernel
theorem dX5_share_40 : decode cX5_share 40 = .ok (.invokevirtual 96, 3) := by decide +kernel
theorem dX5_share_43 : decode cX5_share 43 = .ok (.ifCond .ne 5, 3) := by decide +kernel
theorem dX5_share_46 : decode cX5_share 46 = .ok (.iconst 0, 1) := by decide +kernel
theorem dX5_share_47 : decode cX5_share 47 = .ok (.ireturn, 1) := by decide +kernel
theorem dX5_share_48 : decode cX5_share 48 = .ok (.iconst 0, 1) := by decide +kernel
theorem dX5_share_49 : decode cX5_share 49 = .ok (.istore 4, 2) := by decide +kernel
theorem dX5_share_51 : decode cX5_share 51 = .ok (.iconst 0, 1) := by decide +kernel
theorem dX5_share_52 : decode cX5_share 52 = .ok (.istore 5, 2) := by decide +kernel
theorem dX5_share_54 : decode cX5_share 54 = .ok (.iload 5, 2) := by decide +kernel
theorem dX5_share_56 : decode cX5_share 56 = .ok (.aload_n 0, 1) := by decide +kernel
theorem dX5_share_57 : decode cX5_share 57 = .ok (.getfield 30, 3) := by decide +kernel
theorem dX5_share_60 : decode cX5_share 60 = .ok (.iload_n 1, 1) := by decide +kernel
theorem dX5_share_61 : decode cX5_share 61 = .ok (.iaload, 1) := by decide +kernel
theorem dX5_share_62 : decode cX5_share 62 = .ok (.aload_n 0, 1) := by decide +kernel
theorem dX5_share_63 : decode cX5_share 63 = .ok (.getfield 33, 3) := by decide +kernel
theorem dX5_share_66 : decode cX5_share 66 = .ok (.iload_n 1, 1) := by decide +kernel
theorem dX5_share_67 : decode cX5_share 67 = .ok (.iaload, 1) := by decide +kernel
theorem dX5_share_68 : decode cX5_share 68 = .ok (.imul, 1) := by decide +kernel
theorem dX5_share_69 : decode cX5_share 69 = .ok (.if_icmp .ge 122, 3) := by decide +kernel
theorem dX5_share_72 : decode cX5_share 72 = .ok (.iload 5, 2) := by decide +kernel
theorem dX5_share_74 : decode cX5_share 74 = .ok (.aload_n 0, 1) := by decide +kernel
theorem dX5_share_75 : decode cX5_share 75 = .ok (.getfield 30, 3) := by decide +kernel
theorem dX5_share_78 : decode cX5_share 78 = .ok (.iload_n 1, 1) := by decide +kernel
theorem dX5_share_79 : decode cX5_share 79 = .ok (.iaload, 1) := by decide +kernel
theorem dX5_share_80 : decode cX5_share 80 = .ok (.irem, 1) := by decide +kernel
theorem dX5_share_81 : decode cX5_share 81 = .ok (.istore 6, 2) := by decide +kernel
theorem dX5_share_83 : decode cX5_share 83 = .ok (.iload 5, 2) := by decide +kernel
theorem dX5_share_85 : decode cX5_share 85 = .ok (.aload_n 0, 1) := by decide +kernel
theorem dX5_share_86 : decode cX5_share 86 = .ok (.getfield 30, 3) := by decide +kernel
theorem dX5_share_89 : decode cX5_share 89 = .ok (.iload_n 1, 1) := by decide +kernel
theorem dX5_share_90 : decode cX5_share 90 = .ok (.iaload, 1) := by decide +kernel
theorem dX5_share_91 : decode cX5_share 91 = .ok (.idiv, 1) := by decide +kernel
theorem dX5_share_92 : decode cX5_share 92 = .ok (.istore 7, 2) := by decide +kernel
theorem dX5_share_94 : decode cX5_share 94 = .ok (.iload_n 1, 1) := by decide +kernel
theorem dX5_share_95 : decode cX5_share 95 = .ok (.iload 6, 2) := by decide +kernel
theorem dX5_share_97 : decode cX5_share 97 = .ok (.iload 7, 2) := by decide +kernel
theorem dX5_share_99 : decode cX5_share 99 = .ok (.invokestatic 111, 3) := by decide +kernel
theorem dX5_share_102 : decode cX5_share 102 = .ok (.istore 8, 2) := by decide +kernel
theorem dX5_share_104 : decode cX5_share 104 = .ok (.aload_n 0, 1) := by decide +kernel
theorem dX5_share_105 : decode cX5_share 105 = .ok (.getfield 39, 3) := by decide +kernel
theorem dX5_share_108 : decode cX5_share 108 = .ok (.iload 8, 2) := by decide +kernel
theorem dX5_share_110 : decode cX5_share 110 = .ok (.iaload, 1) := by decide +kernel
theorem dX5_share_111 : decode cX5_share 111 = .ok (.iconst 1, 1) := by decide +kernel
theorem dX5_share_112 : decode cX5_share 112 = .ok (.if_icmp .ne 73, 3) := by decide +kernel
theorem dX5_share_115 : decode cX5_share 115 = .ok (.aload_n 0, 1) := by decide +kernel
theorem dX5_share_116 : decode cX5_share 116 = .ok (.getfield 42, 3) := by decide +kernel
theorem dX5_share_119 : decode cX5_share 119 = .ok (.iload 8, 2) := by decide +kernel
theorem dX5_share_121 : decode cX5_share 121 = .ok (.iaload, 1) := by decide +kernel
theorem dX5_share_122 : decode cX5_share 122 = .ok (.iload_n 2, 1) := by decide +kernel
theorem dX5_share_123 : decode cX5_share 123 = .ok (.if_icmp .ne 62, 3) := by decide +kernel
theorem dX5_share_126 : decode cX5_share 126 = .ok (.iload 6, 2) := by decide +kernel
theorem dX5_share_128 : decode cX5_share 128 = .ok (.iload 7, 2) := by decide +kernel
theorem dX5_share_130 : decode cX5_share 130 = .ok (.iadd, 1) := by decide +kernel
theorem dX5_share_131 : decode cX5_share 131 = .ok (.iconst 2, 1) := by decide +kernel
theorem dX5_share_132 : decode cX5_share 132 = .ok (.irem, 1) := by decide +kernel
theorem dX5_share_133 : decode cX5_share 133 = .ok (.iconst 1, 1) := by decide +kernel
theorem dX5_share_134 : decode cX5_share 134 = .ok (.if_icmp .ne 51, 3) := by decide +kernel
theorem dX5_share_137 : decode cX5_share 137 = .ok (.aload_n 0, 1) := by decide +kernel
theorem dX5_share_138 : decode cX5_share 138 = .ok (.getfield 20, 3) := by decide +kernel
theorem dX5_share_141 : decode cX5_share 141 = .ok (.iload_n 3, 1) := by decide +kernel
theorem dX5_share_142 : decode cX5_share 142 = .ok (.baload, 1) := by decide +kernel
theorem dX5_share_143 : decode cX5_share 143 = .ok (.ifCond .eq 42, 3) := by decide +kernel
theorem dX5_share_146 : decode cX5_share 146 = .ok (.aload_n 0, 1) := by decide +kernel
theorem dX5_share_147 : decode cX5_share 147 = .ok (.iload_n 3, 1) := by decide +kernel
theorem dX5_share_148 : decode cX5_share 148 = .ok (.invokevirtual 104, 3) := by decide +kernel
theorem dX5_share_151 : decode cX5_share 151 = .ok (.ifCond .le 34, 3) := by decide +kernel
theorem dX5_share_154 : decode cX5_share 154 = .ok (.aload_n 0, 1) := by decide +kernel
theorem dX5_share_155 : decode cX5_share 155 = .ok (.getfield 42, 3) := by decide +kernel
theorem dX5_share_158 : decode cX5_share 158 = .ok (.iload 8, 2) := by decide +kernel
theorem dX5_share_160 : decode cX5_share 160 = .ok (.iload_n 3, 1) := by decide +kernel
theorem dX5_share_161 : decode cX5_share 161 = .ok (.iastore, 1) := by decide +kernel
theorem dX5_share_162 : decode cX5_share 162 = .ok (.aload_n 0, 1) := by decide +kernel
theorem dX5_share_163 : decode cX5_share 163 = .ok (.getfield 24, 3) := by decide +kernel
theorem dX5_share_166 : decode cX5_share 166 = .ok (.iload_n 2, 1) := by decide +kernel
theorem dX5_share_167 : decode cX5_share 167 = .ok (.dup2, 1) := by decide +kernel
theorem dX5_share_168 : decode cX5_share 168 = .ok (.iaload, 1) := by decide +kernel
theorem dX5_share_169 : decode cX5_share 169 = .ok (.iconst 1, 1) := by decide +kernel
theorem dX5_share_170 : decode cX5_share 170 = .ok (.isub, 1) := by decide +kernel
theorem dX5_share_171 : decode cX5_share 171 = .ok (.iastore, 1) := by decide +kernel
theorem dX5_share_172 : decode cX5_share 172 = .ok (.aload_n 0, 1) := by decide +kernel
theorem dX5_share_173 : decode cX5_share 173 = .ok (.getfield 24, 3) := by decide +kernel
theorem dX5_share_176 : decode cX5_share 176 = .ok (.iload_n 3, 1) := by decide +kernel
theorem dX5_share_177 : decode cX5_share 177 = .ok (.dup2, 1) := by decide +kernel
theorem dX5_share_178 : decode cX5_share 178 = .ok (.iaload, 1) := by decide +kernel
theorem dX5_share_179 : decode cX5_share 179 = .ok (.iconst 1, 1) := by decide +kernel
theorem dX5_share_180 : decode cX5_share 180 = .ok (.iadd, 1) := by decide +kernel
theorem dX5_share_181 : decode cX5_share 181 = .ok (.iastore, 1) := by decide +kernel
theorem dX5_share_182 : decode cX5_share 182 = .ok (.iinc 4 1, 3) := by decide +kernel
theorem dX5_share_185 : decode cX5_share 185 = .ok (.iinc 5 1, 3) := by decide +kernel
theorem dX5_share_188 : decode cX5_share 188 = .ok (.goto (-134), 3) := by decide +kernel
theorem dX5_share_191 : decode cX5_share 191 = .ok (.iload 4, 2) := by decide +kernel
theorem dX5_share_193 : decode cX5_share 193 = .ok (.ireturn, 1) := by decide +kernel
set_option maxRecDepth 20000 in
theorem ggX5_send_X5_isCrew : GoodIn wsX5_send wsX5_isCrew := goodIn_r _ [5, 6, 7, 4, 8] (by decide +kernel) (by decide +kernel)
set_option maxRecDepth 20000 in
theorem gX5_send_X5_isCrew : GoodIn wsX5_send (va_wsS RX5 144 yX5_isCrew wsX5_isCrew) := goodIn_app (goodIn_of _ (by decide +kernel)) ggX5_send_X5_isCrew
set_option maxRecDepth 20000 in
theorem ggX5_send_X5_isPicture : GoodIn wsX5_send wsX5_isPicture := goodIn_r _ [12, 13, 6, 7, 4, 8, 19, 20, 21, 22, 23, 24, 25, 26, 27, 28, 29, 30, 31, 32, 33, 34, 35, 36, 37, 38, 39, 40, 41, 42, 43, 44] (by decide +kernel) (by decide +kernel)
set_option maxRecDepth 20000 in
theorem gX5_send_X5_isPicture : GoodIn wsX5_send (wsV RX5 92 RX5 yX5_isPicture wsX5_isPicture) := goodIn_app (goodIn_of _ (by decide +kernel)) ggX5_send_X5_isPicture
set_option maxRecDepth 20000 in
theorem ggX5_send_X5_asked : GoodIn wsX5_send wsX5_asked := goodIn_r _ [17, 18, 19, 20, 21, 22, 23, 24, 25, 26, 27, 28, 29, 30, 31, 32, 33, 34, 35, 36, 37, 38, 39, 40, 41, 42, 43, 44] (by decide +kernel) (by decide +kernel)
set_option maxRecDepth 20000 in
theorem gX5_send_X5_asked : GoodIn wsX5_send (wsV RX5 122 RX5 yX5_asked wsX5_asked) := goodIn_app (goodIn_of _ (by decide +kernel)) ggX5_send_X5_asked
theorem dX5_send_0 : decode cX5_send 0 = .ok (.aload_n 0, 1) := by decide +kernel
theorem dX5_send_1 : decode cX5_send 1 = .ok (.iload_n 1, 1) := by decide +kernel
theorem dX5_send_2 : decode cX5_send 2 = .ok (.invokestatic 144, 3) := by decide +kernel
theorem dX5_send_5 : decode cX5_send 5 = .ok (.ifCond .eq 20, 3) := by decide +kernel
theorem dX5_send_8 : decode cX5_send 8 = .ok (.iload_n 2, 1) := by decide +kernel
theorem dX5_send_9 : decode cX5_send 9 = .ok (.iconst (-1), 1) := by decide +kernel
theorem dX5_send_10 : decode cX5_send 10 = .ok (.if_icmp .eq 11, 3) := by decide +kernel
theorem dX5_send_13 : decode cX5_send 13 = .ok (.aload_n 0, 1) := by decide +kernel
theorem dX5_send_14 : decode cX5_send 14 = .ok (.iload_n 2, 1) := by decide +kernel
theorem dX5_send_15 : decode cX5_send 15 = .ok (.invokevirtual 92, 3) := by decide +kernel
theorem dX5_send_18 : decode cX5_send 18 = .ok (.ifCond .eq 7, 3) := by decide +kernel
theorem dX5_send_21 : decode cX5_send 21 = .ok (.iconst 1, 1) := by decide +kernel
theorem dX5_send_22 : decode cX5_send 22 = .ok (.goto 4, 3) := by decide +kernel
theorem dX5_send_25 : decode cX5_send 25 = .ok (.iconst 0, 1) := by decide +kernel
theorem dX5_send_26 : decode cX5_send 26 = .ok (.invokevirtual 122, 3) := by decide +kernel
theorem dX5_send_29 : decode cX5_send 29 = .ok (.ifCond .ne 5, 3) := by decide +kernel
theorem dX5_send_32 : decode cX5_send 32 = .ok (.iconst 0, 1) := by decide +kernel
theorem dX5_send_33 : decode cX5_send 33 = .ok (.ireturn, 1) := by decide +kernel
theorem dX5_send_34 : decode cX5_send 34 = .ok (.aload_n 0, 1) := by decide +kernel
theorem dX5_send_35 : decode cX5_send 35 = .ok (.getfield 60, 3) := by decide +kernel
theorem dX5_send_38 : decode cX5_send 38 = .ok (.iload_n 1, 1) := by decide +kernel
theorem dX5_send_39 : decode cX5_send 39 = .ok (.iaload, 1) := by decide +kernel
theorem dX5_send_40 : decode cX5_send 40 = .ok (.istore_n 3, 1) := by decide +kernel
theorem dX5_send_41 : decode cX5_send 41 = .ok (.aload_n 0, 1) := by decide +kernel
theorem dX5_send_42 : decode cX5_send 42 = .ok (.getfield 60, 3) := by decide +kernel
theorem dX5_send_45 : decode cX5_send 45 = .ok (.iload_n 1, 1) := by decide +kernel
theorem dX5_send_46 : decode cX5_send 46 = .ok (.iload_n 2, 1) := by decide +kernel
theorem dX5_send_47 : decode cX5_send 47 = .ok (.iastore, 1) := by decide +kernel
theorem dX5_send_48 : decode cX5_send 48 = .ok (.iload_n 3, 1) := by decide +kernel
theorem dX5_send_49 : decode cX5_send 49 = .ok (.ireturn, 1) := by decide +kernel
set_option maxRecDepth 20000 in
theorem ggX5_crew_X5_isCrew : GoodIn wsX5_crew wsX5_isCrew := goodIn_r _ [6, 7, 8, 5, 9] (by decide +kernel) (by decide +kernel)
set_option maxRecDepth 20000 in
theorem gX5_crew_X5_isCrew : GoodIn wsX5_crew (va_wsS RX5 144 yX5_isCrew wsX5_isCrew) := goodIn_app (goodIn_of _ (by decide +kernel)) ggX5_crew_X5_isCrew
set_option maxRecDepth 20000 in
theorem ggX5_crew_X5_in : GoodIn wsX5_crew wsX5_in := goodIn_r _ [9] (by decide +kernel) (by decide +kernel)
set_option maxRecDepth 20000 in
theorem gX5_crew_X5_in : GoodIn wsX5_crew (va_wsS RX5 85 yX5_in wsX5_in) := goodIn_app (goodIn_of _ (by decide +kernel)) ggX5_crew_X5_in
set_option maxRecDepth 20000 in
theorem ggX5_crew_X5_asked_ : GoodIn wsX5_crew wsX5_asked_ := goodIn_r _ [13, 14, 15, 16, 17, 18, 19, 20, 21, 22, 23, 24, 25, 26, 27, 28, 29, 30, 31, 32, 33, 34, 35, 36, 37, 38, 39, 40] (by decide +kernel) (by decide +kernel)
set_option maxRecDepth 20000 in
theorem gX5_crew_X5_asked_ : GoodIn wsX5_crew (wsV RX5 96 RX5 yX5_asked_ wsX5_asked_) := goodIn_app (goodIn_of _ (by decide +kernel)) ggX5_crew_X5_asked_
theorem dX5_crew_0 : decode cX5_crew 0 = .ok (.aload_n 0, 1) := by decide +kernel
theorem dX5_crew_1 : decode cX5_crew 1 = .ok (.iload_n 1, 1) := by decide +kernel
theorem dX5_crew_2 : decode cX5_crew 2 = .ok (.invokestatic 144, 3) := by decide +kernel
theorem dX5_crew_5 : decode cX5_crew 5 = .ok (.iload_n 2, 1) := by decide +kernel
theorem dX5_crew_6 : decode cX5_crew 6 = .ok (.iconst 1, 1) := by decide +kernel
theorem dX5_crew_7 : decode cX5_crew 7 = .ok (.bipush 9, 2) := by decide +kernel
theorem dX5_crew_9 : decode cX5_crew 9 = .ok (.invokestatic 85, 3) := by decide +kernel
theorem dX5_crew_12 : decode cX5_crew 12 = .ok (.ifCond .eq 17, 3) := by decide +kernel
theorem dX5_crew_15 : decode cX5_crew 15 = .ok (.iload_n 3, 1) := by decide +kernel
theorem dX5_crew_16 : decode cX5_crew 16 = .ok (.iconst 0, 1) := by decide +kernel
theorem dX5_crew_17 : decode cX5_crew 17 = .ok (.bipush 9, 2) := by decide +kernel
theorem dX5_crew_19 : decode cX5_crew 19 = .ok (.invokestatic 85, 3) := by decide +kernel
theorem dX5_crew_22 : decode cX5_crew 22 = .ok (.ifCond .eq 7, 3) := by decide +kernel
theorem dX5_crew_25 : decode cX5_crew 25 = .ok (.iconst 1, 1) := by decide +kernel
theorem dX5_crew_26 : decode cX5_crew 26 = .ok (.goto 4, 3) := by decide +kernel
theorem dX5_crew_29 : decode cX5_crew 29 = .ok (.iconst 0, 1) := by decide +kernel
theorem dX5_crew_30 : decode cX5_crew 30 = .ok (.invokevirtual 96, 3) := by decide +kernel
theorem dX5_crew_33 : decode cX5_crew 33 = .ok (.ifCond .ne 5, 3) := by decide +kernel
theorem dX5_crew_36 : decode cX5_crew 36 = .ok (.iconst 0, 1) := by decide +kernel
theorem dX5_crew_37 : decode cX5_crew 37 = .ok (.ireturn, 1) := by decide +kernel
theorem dX5_crew_38 : decode cX5_crew 38 = .ok (.aload_n 0, 1) := by decide +kernel
theorem dX5_crew_39 : decode cX5_crew 39 = .ok (.getfield 63, 3) := by decide +kernel
theorem dX5_crew_42 : decode cX5_crew 42 = .ok (.iload_n 1, 1) := by decide +kernel
theorem dX5_crew_43 : decode cX5_crew 43 = .ok (.iaload, 1) := by decide +kernel
theorem dX5_crew_44 : decode cX5_crew 44 = .ok (.istore 4, 2) := by decide +kernel
theorem dX5_crew_46 : decode cX5_crew 46 = .ok (.aload_n 0, 1) := by decide +kernel
theorem dX5_crew_47 : decode cX5_crew 47 = .ok (.getfield 63, 3) := by decide +kernel
theorem dX5_crew_50 : decode cX5_crew 50 = .ok (.iload_n 1, 1) := by decide +kernel
theorem dX5_crew_51 : decode cX5_crew 51 = .ok (.iload_n 2, 1) := by decide +kernel
theorem dX5_crew_52 : decode cX5_crew 52 = .ok (.iastore, 1) := by decide +kernel
theorem dX5_crew_53 : decode cX5_crew 53 = .ok (.aload_n 0, 1) := by decide +kernel
theorem dX5_crew_54 : decode cX5_crew 54 = .ok (.getfield 66, 3) := by decide +kernel
theorem dX5_crew_57 : decode cX5_crew 57 = .ok (.iload_n 1, 1) := by decide +kernel
theorem dX5_crew_58 : decode cX5_crew 58 = .ok (.iload_n 3, 1) := by decide +kernel
theorem dX5_crew_59 : decode cX5_crew 59 = .ok (.iastore, 1) := by decide +kernel
theorem dX5_crew_60 : decode cX5_crew 60 = .ok (.iload 4, 2) := by decide +kernel
theorem dX5_crew_62 : decode cX5_crew 62 = .ok (.ireturn, 1) := by decide +kernel
theorem dX5_onTray_0 : decode cX5_onTray 0 = .ok (.iconst 0, 1) := by decide +kernel
theorem dX5_onTray_1 : decode cX5_onTray 1 = .ok (.istore_n 2, 1) := by decide +kernel
theorem dX5_onTray_2 : decode cX5_onTray 2 = .ok (.iconst 0, 1) := by decide +kernel
theorem dX5_onTray_3 : decode cX5_onTray 3 = .ok (.istore_n 3, 1) := by decide +kernel
theorem dX5_onTray_4 : decode cX5_onTray 4 = .ok (.iload_n 3, 1) := by decide +kernel
theorem dX5_onTray_5 : decode cX5_onTray 5 = .ok (.bipush 12, 2) := by decide +kernel
theorem dX5_onTray_7 : decode cX5_onTray 7 = .ok (.if_icmp .ge 31, 3) := by decide +kernel
theorem dX5_onTray_10 : decode cX5_onTray 10 = .ok (.iload_n 2, 1) := by decide +kernel
theorem dX5_onTray_11 : decode cX5_onTray 11 = .ok (.aload_n 0, 1) := by decide +kernel
theorem dX5_onTray_12 : decode cX5_onTray 12 = .ok (.getfield 72, 3) := by decide +kernel
theorem dX5_onTray_15 : decode cX5_onTray 15 = .ok (.bipush 12, 2) := by decide +kernel
theorem dX5_onTray_17 : decode cX5_onTray 17 = .ok (.iload_n 1, 1) := by decide +kernel
theorem dX5_onTray_18 : decode cX5_onTray 18 = .ok (.imul, 1) := by decide +kernel
theorem dX5_onTray_19 : decode cX5_onTray 19 = .ok (.iload_n 3, 1) := by decide +kernel
theorem dX5_onTray_20 : decode cX5_onTray 20 = .ok (.iadd, 1) := by decide +kernel
theorem dX5_onTray_21 : decode cX5_onTray 21 = .ok (.baload, 1) := by decide +kernel
theorem dX5_onTray_22 : decode cX5_onTray 22 = .ok (.ifCond .eq 7, 3) := by decide +kernel
theorem dX5_onTray_25 : decode cX5_onTray 25 = .ok (.iconst 1, 1) := by decide +kernel
theorem dX5_onTray_26 : decode cX5_onTray 26 = .ok (.goto 4, 3) := by decide +kernel
theorem dX5_onTray_29 : decode cX5_onTray 29 = .ok (.iconst 0, 1) := by decide +kernel
theorem dX5_onTray_30 : decode cX5_onTray 30 = .ok (.iadd, 1) := by decide +kernel
theorem dX5_onTray_31 : decode cX5_onTray 31 = .ok (.istore_n 2, 1) := by decide +kernel
theorem dX5_onTray_32 : decode cX5_onTray 32 = .ok (.iinc 3 1, 3) := by decide +kernel
theorem dX5_onTray_35 : decode cX5_onTray 35 = .ok (.goto (-31), 3) := by decide +kernel
theorem dX5_onTray_38 : decode cX5_onTray 38 = .ok (.iload_n 2, 1) := by decide +kernel
theorem dX5_onTray_39 : decode cX5_onTray 39 = .ok (.ireturn, 1) := by decide +kernel
set_option maxRecDepth 20000 in
theorem ggX5_tray_X5_isCrew : GoodIn wsX5_tray wsX5_isCrew := goodIn_r _ [6, 7, 8, 5, 9] (by decide +kernel) (by decide +kernel)
set_option maxRecDepth 20000 in
theorem gX5_tray_X5_isCrew : GoodIn wsX5_tray (va_wsS RX5 144 yX5_isCrew wsX5_isCrew) := goodIn_app (goodIn_of _ (by decide +kernel)) ggX5_tray_X5_isCrew
set_option maxRecDepth 20000 in
theorem ggX5_tray_X5_in : GoodIn wsX5_tray wsX5_in := goodIn_r _ [9] (by decide +kernel) (by decide +kernel)
set_option maxRecDepth 20000 in
theorem gX5_tray_X5_in : GoodIn wsX5_tray (va_wsS RX5 85 yX5_in wsX5_in) := goodIn_app (goodIn_of _ (by decide +kernel)) ggX5_tray_X5_in
set_option maxRecDepth 20000 in
theorem ggX5_tray_X5_asked_ : GoodIn wsX5_tray wsX5_asked_ := goodIn_r _ [13, 14, 19, 20, 21, 22, 23, 24, 25, 26, 27, 28, 29, 30, 31, 32, 33, 34, 35, 36, 37, 38, 39, 40, 41, 42, 43, 44] (by decide +kernel) (by decide +kernel)
set_option maxRecDepth 20000 in
theorem gX5_tray_X5_asked_ : GoodIn wsX5_tray (wsV RX5 96 RX5 yX5_asked_ wsX5_asked_) := goodIn_app (goodIn_of _ (by decide +kernel)) ggX5_tray_X5_asked_
set_option maxRecDepth 20000 in
theorem ggX5_tray_X5_onTray : GoodIn wsX5_tray wsX5_onTray := goodIn_r _ [18, 2, 19, 20, 21, 22, 23, 24, 25, 26, 27, 28, 29, 30, 31, 32, 33, 34, 35, 36, 37, 38, 39, 40, 41, 42, 43, 44] (by decide +kernel) (by decide +kernel)
set_option maxRecDepth 20000 in
theorem gX5_tray_X5_onTray : GoodIn wsX5_tray (wsV RX5 147 RX5 yX5_onTray wsX5_onTray) := goodIn_app (goodIn_of _ (by decide +kernel)) ggX5_tray_X5_onTray
theorem dX5_tray_0 : decode cX5_tray 0 = .ok (.aload_n 0, 1) := by decide +kernel
theorem dX5_tray_1 : decode cX5_tray 1 = .ok (.iload_n 1, 1) := by decide +kernel
theorem dX5_tray_2 : decode cX5_tray 2 = .ok (.invokestatic 144, 3) := by decide +kernel
theorem dX5_tray_5 : decode cX5_tray 5 = .ok (.iload_n 2, 1) := by decide +kernel
theorem dX5_tray_6 : decode cX5_tray 6 = .ok (.iconst 0, 1) := by decide +kernel
theorem dX5_tray_7 : decode cX5_tray 7 = .ok (.iconst 1, 1) := by decide +kernel
theorem dX5_tray_8 : decode cX5_tray 8 = .ok (.invokestatic 85, 3) := by decide +kernel
theorem dX5_tray_11 : decode cX5_tray 11 = .ok (.invokevirtual 96, 3) := by decide +kernel
theorem dX5_tray_14 : decode cX5_tray 14 = .ok (.ifCond .ne 5, 3) := by decide +kernel
theorem dX5_tray_17 : decode cX5_tray 17 = .ok (.iconst 0, 1) := by decide +kernel
theorem dX5_tray_18 : decode cX5_tray 18 = .ok (.ireturn, 1) := by decide +kernel
theorem dX5_tray_19 : decode cX5_tray 19 = .ok (.aload_n 0, 1) := by decide +kernel
theorem dX5_tray_20 : decode cX5_tray 20 = .ok (.iload_n 1, 1) := by decide +kernel
theorem dX5_tray_21 : decode cX5_tray 21 = .ok (.invokevirtual 147, 3) := by decide +kernel
theorem dX5_tray_24 : decode cX5_tray 24 = .ok (.istore_n 3, 1) := by decide +kernel
theorem dX5_tray_25 : decode cX5_tray 25 = .ok (.aload_n 0, 1) := by decide +kernel
theorem dX5_tray_26 : decode cX5_tray 26 = .ok (.getfield 69, 3) := by decide +kernel
theorem dX5_tray_29 : decode cX5_tray 29 = .ok (.iload_n 1, 1) := by decide +kernel
theorem dX5_tray_30 : decode cX5_tray 30 = .ok (.iload_n 2, 1) := by decide +kernel
theorem dX5_tray_31 : decode cX5_tray 31 = .ok (.iastore, 1) := by decide +kernel
theorem dX5_tray_32 : decode cX5_tray 32 = .ok (.iconst 0, 1) := by decide +kernel
theorem dX5_tray_33 : decode cX5_tray 33 = .ok (.istore 4, 2) := by decide +kernel
theorem dX5_tray_35 : decode cX5_tray 35 = .ok (.iload 4, 2) := by decide +kernel
theorem dX5_tray_37 : decode cX5_tray 37 = .ok (.bipush 12, 2) := by decide +kernel
theorem dX5_tray_39 : decode cX5_tray 39 = .ok (.if_icmp .ge 22, 3) := by decide +kernel
theorem dX5_tray_42 : decode cX5_tray 42 = .ok (.aload_n 0, 1) := by decide +kernel
theorem dX5_tray_43 : decode cX5_tray 43 = .ok (.getfield 72, 3) := by decide +kernel
theorem dX5_tray_46 : decode cX5_tray 46 = .ok (.bipush 12, 2) := by decide +kernel
theorem dX5_tray_48 : decode cX5_tray 48 = .ok (.iload_n 1, 1) := by decide +kernel
theorem dX5_tray_49 : decode cX5_tray 49 = .ok (.imul, 1) := by decide +kernel
theorem dX5_tray_50 : decode cX5_tray 50 = .ok (.iload 4, 2) := by decide +kernel
theorem dX5_tray_52 : decode cX5_tray 52 = .ok (.iadd, 1) := by decide +kernel
theorem dX5_tray_53 : decode cX5_tray 53 = .ok (.iconst 0, 1) := by decide +kernel
theorem dX5_tray_54 : decode cX5_tray 54 = .ok (.bastore, 1) := by decide +kernel
theorem dX5_tray_55 : decode cX5_tray 55 = .ok (.iinc 4 1, 3) := by decide +kernel
theorem dX5_tray_58 : decode cX5_tray 58 = .ok (.goto (-23), 3) := by decide +kernel
theorem dX5_tray_61 : decode cX5_tray 61 = .ok (.iload_n 3, 1) := by decide +kernel
theorem dX5_tray_62 : decode cX5_tray 62 = .ok (.ireturn, 1) := by decide +kernel
set_option maxRecDepth 20000 in
theorem ggX5_load_X5_isCrew : GoodIn wsX5_load wsX5_isCrew := goodIn_r _ [7, 8, 9, 6, 10] (by decide +kernel) (by decide +kernel)
set_option maxRecDepth 20000 in
theorem gX5_load_X5_isCrew : GoodIn wsX5_load (va_wsS RX5 144 yX5_isCrew wsX5_isCrew) := goodIn_app (goodIn_of _ (by decide +kernel)) ggX5_load_X5_isCrew
set_option maxRecDepth 20000 in
theorem ggX5_load_X5_isLot : GoodIn wsX5_load wsX5_isLot := goodIn_r _ [14, 15, 8, 9, 6, 10, 25, 26, 27, 28, 29, 30, 31, 32, 33, 34, 35, 36, 37, 38, 39, 40, 41, 42, 43, 44, 45, 46, 47, 48, 49, 50] (by decide +kernel) (by decide +kernel)
set_option maxRecDepth 20000 in
theorem gX5_load_X5_isLot : GoodIn wsX5_load (wsV RX5 101 RX5 yX5_isLot wsX5_isLot) := goodIn_app (goodIn_of _ (by decide +kernel)) ggX5_load_X5_isLot
set_option maxRecDepth 20000 in
theorem ggX5_load_X5_asked : GoodIn wsX5_load wsX5_asked := goodIn_r _ [19, 20, 25, 26, 27, 28, 29, 30, 31, 32, 33, 34, 35, 36, 37, 38, 39, 40, 41, 42, 43, 44, 45, 46, 47, 48, 49, 50] (by decide +kernel) (by decide +kernel)
set_option maxRecDepth 20000 in
theorem gX5_load_X5_asked : GoodIn wsX5_load (wsV RX5 122 RX5 yX5_asked wsX5_asked) := goodIn_app (goodIn_of _ (by decide +kernel)) ggX5_load_X5_asked
set_option maxRecDepth 20000 in
theorem ggX5_load_X5_onTray : GoodIn wsX5_load wsX5_onTray := goodIn_r _ [24, 1, 25, 26, 27, 28, 29, 30, 31, 32, 33, 34, 35, 36, 37, 38, 39, 40, 41, 42, 43, 44, 45, 46, 47, 48, 49, 50] (by decide +kernel) (by decide +kernel)
set_option maxRecDepth 20000 in
theorem gX5_load_X5_onTray : GoodIn wsX5_load (wsV RX5 147 RX5 yX5_onTray wsX5_onTray) := goodIn_app (goodIn_of _ (by decide +kernel)) ggX5_load_X5_onTray
theorem dX5_load_0 : decode cX5_load 0 = .ok (.aload_n 0, 1) := by decide +kernel
theorem dX5_load_1 : decode cX5_load 1 = .ok (.iload_n 1, 1) := by decide +kernel
theorem dX5_load_2 : decode cX5_load 2 = .ok (.invokestatic 144, 3) := by decide +kernel
theorem dX5_load_5 : decode cX5_load 5 = .ok (.ifCond .eq 15, 3) := by decide +kernel
theorem dX5_load_8 : decode cX5_load 8 = .ok (.aload_n 0, 1) := by decide +kernel
theorem dX5_load_9 : decode cX5_load 9 = .ok (.iload_n 2, 1) := by decide +kernel
theorem dX5_load_10 : decode cX5_load 10 = .ok (.invokevirtual 101, 3) := by decide +kernel
theorem dX5_load_13 : decode cX5_load 13 = .ok (.ifCond .eq 7, 3) := by decide +kernel
theorem dX5_load_16 : decode cX5_load 16 = .ok (.iconst 1, 1) := by decide +kernel
theorem dX5_load_17 : decode cX5_load 17 = .ok (.goto 4, 3) := by decide +kernel
theorem dX5_load_20 : decode cX5_load 20 = .ok (.iconst 0, 1) := by decide +kernel
theorem dX5_load_21 : decode cX5_load 21 = .ok (.invokevirtual 122, 3) := by decide +kernel
theorem dX5_load_24 : decode cX5_load 24 = .ok (.ifCond .ne 5, 3) := by decide +kernel
theorem dX5_load_27 : decode cX5_load 27 = .ok (.iconst 0, 1) := by decide +kernel
theorem dX5_load_28 : decode cX5_load 28 = .ok (.ireturn, 1) := by decide +kernel
theorem dX5_load_29 : decode cX5_load 29 = .ok (.aload_n 0, 1) := by decide +kernel
theorem dX5_load_30 : decode cX5_load 30 = .ok (.getfield 72, 3) := by decide +kernel
theorem dX5_load_33 : decode cX5_load 33 = .ok (.bipush 12, 2) := by decide +kernel
theorem dX5_load_35 : decode cX5_load 35 = .ok (.iload_n 1, 1) := by decide +kernel
theorem dX5_load_36 : decode cX5_load 36 = .ok (.imul, 1) := by decide +kernel
theorem dX5_load_37 : decode cX5_load 37 = .ok (.iload_n 2, 1) := by decide +kernel
theorem dX5_load_38 : decode cX5_load 38 = .ok (.iadd, 1) := by decide +kernel
theorem dX5_load_39 : decode cX5_load 39 = .ok (.dup2, 1) := by decide +kernel
theorem dX5_load_40 : decode cX5_load 40 = .ok (.baload, 1) := by decide +kernel
theorem dX5_load_41 : decode cX5_load 41 = .ok (.aload_n 0, 1) := by decide +kernel
theorem dX5_load_42 : decode cX5_load 42 = .ok (.getfield 17, 3) := by decide +kernel
theorem dX5_load_45 : decode cX5_load 45 = .ok (.iload_n 2, 1) := by decide +kernel
theorem dX5_load_46 : decode cX5_load 46 = .ok (.iaload, 1) := by decide +kernel
theorem dX5_load_47 : decode cX5_load 47 = .ok (.aload_n 0, 1) := by decide +kernel
theorem dX5_load_48 : decode cX5_load 48 = .ok (.getfield 69, 3) := by decide +kernel
theorem dX5_load_51 : decode cX5_load 51 = .ok (.iload_n 1, 1) := by decide +kernel
theorem dX5_load_52 : decode cX5_load 52 = .ok (.iaload, 1) := by decide +kernel
theorem dX5_load_53 : decode cX5_load 53 = .ok (.if_icmp .ne 16, 3) := by decide +kernel
theorem dX5_load_56 : decode cX5_load 56 = .ok (.aload_n 0, 1) := by decide +kernel
theorem dX5_load_57 : decode cX5_load 57 = .ok (.iload_n 1, 1) := by decide +kernel
theorem dX5_load_58 : decode cX5_load 58 = .ok (.invokevirtual 147, 3) := by decide +kernel
theorem dX5_load_61 : decode cX5_load 61 = .ok (.iconst 4, 1) := by decide +kernel
theorem dX5_load_62 : decode cX5_load 62 = .ok (.if_icmp .ge 7, 3) := by decide +kernel
theorem dX5_load_65 : decode cX5_load 65 = .ok (.iconst 1, 1) := by decide +kernel
theorem dX5_load_66 : decode cX5_load 66 = .ok (.goto 4, 3) := by decide +kernel
theorem dX5_load_69 : decode cX5_load 69 = .ok (.iconst 0, 1) := by decide +kernel
theorem dX5_load_70 : decode cX5_load 70 = .ok (.ior, 1) := by decide +kernel
theorem dX5_load_71 : decode cX5_load 71 = .ok (.bastore, 1) := by decide +kernel
theorem dX5_load_72 : decode cX5_load 72 = .ok (.aload_n 0, 1) := by decide +kernel
theorem dX5_load_73 : decode cX5_load 73 = .ok (.getfield 72, 3) := by decide +kernel
theorem dX5_load_76 : decode cX5_load 76 = .ok (.bipush 12, 2) := by decide +kernel
theorem dX5_load_78 : decode cX5_load 78 = .ok (.iload_n 1, 1) := by decide +kernel
theorem dX5_load_79 : decode cX5_load 79 = .ok (.imul, 1) := by decide +kernel
theorem dX5_load_80 : decode cX5_load 80 = .ok (.iload_n 2, 1) := by decide +kernel
theorem dX5_load_81 : decode cX5_load 81 = .ok (.iadd, 1) := by decide +kernel
theorem dX5_load_82 : decode cX5_load 82 = .ok (.baload, 1) := by decide +kernel
theorem dX5_load_83 : decode cX5_load 83 = .ok (.ireturn, 1) := by decide +kernel
set_option maxRecDepth 20000 in
theorem ggX5_isDry_X5_cellOf : GoodIn wsX5_isDry wsX5_cellOf := goodIn_r _ [9] (by decide +kernel) (by decide +kernel)
set_option maxRecDepth 20000 in
theorem gX5_isDry_X5_cellOf : GoodIn wsX5_isDry (va_wsS RX5 111 yX5_cellOf wsX5_cellOf) := goodIn_app (goodIn_of _ (by decide +kernel)) ggX5_isDry_X5_cellOf
theorem dX5_isDry_0 : decode cX5_isDry 0 = .ok (.iconst (-1), 1) := by decide +kernel
theorem dX5_isDry_1 : decode cX5_isDry 1 = .ok (.istore_n 3, 1) := by decide +kernel
theorem dX5_isDry_2 : decode cX5_isDry 2 = .ok (.iconst (-1), 1) := by decide +kernel
theorem dX5_isDry_3 : decode cX5_isDry 3 = .ok (.istore 4, 2) := by decide +kernel
theorem dX5_isDry_5 : decode cX5_isDry 5 = .ok (.iconst 0, 1) := by decide +kernel
theorem dX5_isDry_6 : decode cX5_isDry 6 = .ok (.istore 5, 2) := by decide +kernel
theorem dX5_isDry_8 : decode cX5_isDry 8 = .ok (.iload 5, 2) := by decide +kernel
theorem dX5_isDry_10 : decode cX5_isDry 10 = .ok (.aload_n 0, 1) := by decide +kernel
theorem dX5_isDry_11 : decode cX5_isDry 11 = .ok (.getfield 30, 3) := by decide +kernel
theorem dX5_isDry_14 : decode cX5_isDry 14 = .ok (.iload_n 1, 1) := by decide +kernel
theorem dX5_isDry_15 : decode cX5_isDry 15 = .ok (.iaload, 1) := by decide +kernel
theorem dX5_isDry_16 : decode cX5_isDry 16 = .ok (.if_icmp .ge 65, 3) := by decide +kernel
theorem dX5_isDry_19 : decode cX5_isDry 19 = .ok (.iload_n 1, 1) := by decide +kernel
theorem dX5_isDry_20 : decode cX5_isDry 20 = .ok (.iload 5, 2) := by decide +kernel
theorem dX5_isDry_22 : decode cX5_isDry 22 = .ok (.iload_n 2, 1) := by decide +kernel
theorem dX5_isDry_23 : decode cX5_isDry 23 = .ok (.invokestatic 111, 3) := by decide +kernel
theorem dX5_isDry_26 : decode cX5_isDry 26 = .ok (.istore 6, 2) := by decide +kernel
theorem dX5_isDry_28 : decode cX5_isDry 28 = .ok (.aload_n 0, 1) := by decide +kernel
theorem dX5_isDry_29 : decode cX5_isDry 29 = .ok (.getfield 39, 3) := by decide +kernel
theorem dX5_isDry_32 : decode cX5_isDry 32 = .ok (.iload 6, 2) := by decide +kernel
theorem dX5_isDry_34 : decode cX5_isDry 34 = .ok (.iaload, 1) := by decide +kernel
theorem dX5_isDry_35 : decode cX5_isDry 35 = .ok (.iconst 2, 1) := by decide +kernel
theorem dX5_isDry_36 : decode cX5_isDry 36 = .ok (.if_icmp .ne 39, 3) := by decide +kernel
theorem dX5_isDry_39 : decode cX5_isDry 39 = .ok (.aload_n 0, 1) := by decide +kernel
theorem dX5_isDry_40 : decode cX5_isDry 40 = .ok (.getfield 48, 3) := by decide +kernel
theorem dX5_isDry_43 : decode cX5_isDry 43 = .ok (.iload 6, 2) := by decide +kernel
theorem dX5_isDry_45 : decode cX5_isDry 45 = .ok (.iaload, 1) := by decide +kernel
theorem dX5_isDry_46 : decode cX5_isDry 46 = .ok (.iload_n 3, 1) := by decide +kernel
theorem dX5_isDry_47 : decode cX5_isDry 47 = .ok (.if_icmp .lt 28, 3) := by decide +kernel
theorem dX5_isDry_50 : decode cX5_isDry 50 = .ok (.aload_n 0, 1) := by decide +kernel
theorem dX5_isDry_51 : decode cX5_isDry 51 = .ok (.getfield 48, 3) := by decide +kernel
theorem dX5_isDry_54 : decode cX5_isDry 54 = .ok (.iload 6, 2) := by decide +kernel
theorem dX5_isDry_56 : decode cX5_isDry 56 = .ok (.iaload, 1) := by decide +kernel
theorem dX5_isDry_57 : decode cX5_isDry 57 = .ok (.istore_n 3, 1) := by decide +kernel
theorem dX5_isDry_58 : decode cX5_isDry 58 = .ok (.aload_n 0, 1) := by decide +kernel
theorem dX5_isDry_59 : decode cX5_isDry 59 = .ok (.getfield 48, 3) := by decide +kernel
theorem dX5_isDry_62 : decode cX5_isDry 62 = .ok (.iload 6, 2) := by decide +kernel
theorem dX5_isDry_64 : decode cX5_isDry 64 = .ok (.iaload, 1) := by decide +kernel
theorem dX5_isDry_65 : decode cX5_isDry 65 = .ok (.aload_n 0, 1) := by decide +kernel
theorem dX5_isDry_66 : decode cX5_isDry 66 = .ok (.getfield 51, 3) := by decide +kernel
theorem dX5_isDry_69 : decode cX5_isDry 69 = .ok (.iload 6, 2) := by decide +kernel
theorem dX5_isDry_71 : decode cX5_isDry 71 = .ok (.iaload, 1) := by decide +kernel
theorem dX5_isDry_72 : decode cX5_isDry 72 = .ok (.iadd, 1) := by decide +kernel
theorem dX5_isDry_73 : decode cX5_isDry 73 = .ok (.istore 4, 2) := by decide +kernel
theorem dX5_isDry_75 : decode cX5_isDry 75 = .ok (.iinc 5 1, 3) := by decide +kernel
theorem dX5_isDry_78 : decode cX5_isDry 78 = .ok (.goto (-70), 3) := by decide +kernel
theorem dX5_isDry_81 : decode cX5_isDry 81 = .ok (.aload_n 0, 1) := by decide +kernel
theorem dX5_isDry_82 : decode cX5_isDry 82 = .ok (.getfield 150, 3) := by decide +kernel
theorem dX5_isDry_85 : decode cX5_isDry 85 = .ok (.iload 4, 2) := by decide +kernel
theorem dX5_isDry_87 : decode cX5_isDry 87 = .ok (.if_icmp .lt 7, 3) := by decide +kernel
theorem dX5_isDry_90 : decode cX5_isDry 90 = .ok (.iconst 1, 1) := by decide +kernel
theorem dX5_isDry_91 : decode cX5_isDry 91 = .ok (.goto 4, 3) := by decide +kernel
theorem dX5_isDry_94 : decode cX5_isDry 94 = .ok (.iconst 0, 1) := by decide +kernel
theorem dX5_isDry_95 : decode cX5_isDry 95 = .ok (.ireturn, 1) := by decide +kernel
set_option maxRecDepth 20000 in
theorem ggX5_lays_X5_cellOf : GoodIn wsX5_lays wsX5_cellOf := goodIn_r _ [17] (by decide +kernel) (by decide +kernel)
set_option maxRecDepth 20000 in
theorem gX5_lays_X5_cellOf : GoodIn wsX5_lays (va_wsS RX5 111 yX5_cellOf wsX5_cellOf) := goodIn_app (goodIn_of _ (by decide +kernel)) ggX5_lays_X5_cellOf
set_option maxRecDepth 20000 in
theorem ggX5_lays_X5_isDry : GoodIn wsX5_lays wsX5_isDry := goodIn_r _ [21, 2, 4, 9, 11, 10, 14, 15, 16, 17, 22, 23, 24, 25, 26, 27, 28, 29, 30, 31, 32, 33, 34, 35, 36, 37, 38, 39, 40, 41, 42, 43, 44, 45, 46, 47] (by decide +kernel) (by decide +kernel)
set_option maxRecDepth 20000 in
theorem gX5_lays_X5_isDry : GoodIn wsX5_lays (wsV RX5 153 RX5 yX5_isDry wsX5_isDry) := goodIn_app (goodIn_of _ (by decide +kernel)) ggX5_lays_X5_isDry
theorem dX5_lays_0 : decode cX5_lays 0 = .ok (.aload_n 0, 1) := by decide +kernel
theorem dX5_lays_1 : decode cX5_lays 1 = .ok (.getfield 60, 3) := by decide +kernel
theorem dX5_lays_4 : decode cX5_lays 4 = .ok (.iload_n 1, 1) := by decide +kernel
theorem dX5_lays_5 : decode cX5_lays 5 = .ok (.iaload, 1) := by decide +kernel
theorem dX5_lays_6 : decode cX5_lays 6 = .ok (.istore_n 2, 1) := by decide +kernel
theorem dX5_lays_7 : decode cX5_lays 7 = .ok (.iconst (-1), 1) := by decide +kernel
theorem dX5_lays_8 : decode cX5_lays 8 = .ok (.istore_n 3, 1) := by decide +kernel
theorem dX5_lays_9 : decode cX5_lays 9 = .ok (.iconst 0, 1) := by decide +kernel
theorem dX5_lays_10 : decode cX5_lays 10 = .ok (.istore 4, 2) := by decide +kernel
theorem dX5_lays_12 : decode cX5_lays 12 = .ok (.iload_n 2, 1) := by decide +kernel
theorem dX5_lays_13 : decode cX5_lays 13 = .ok (.iconst (-1), 1) := by decide +kernel
theorem dX5_lays_14 : decode cX5_lays 14 = .ok (.if_icmp .eq 80, 3) := by decide +kernel
theorem dX5_lays_17 : decode cX5_lays 17 = .ok (.iload 4, 2) := by decide +kernel
theorem dX5_lays_19 : decode cX5_lays 19 = .ok (.aload_n 0, 1) := by decide +kernel
theorem dX5_lays_20 : decode cX5_lays 20 = .ok (.getfield 30, 3) := by decide +kernel
theorem dX5_lays_23 : decode cX5_lays 23 = .ok (.iload_n 2, 1) := by decide +kernel
theorem dX5_lays_24 : decode cX5_lays 24 = .ok (.iaload, 1) := by decide +kernel
theorem dX5_lays_25 : decode cX5_lays 25 = .ok (.aload_n 0, 1) := by decide +kernel
theorem dX5_lays_26 : decode cX5_lays 26 = .ok (.getfield 33, 3) := by decide +kernel
theorem dX5_lays_29 : decode cX5_lays 29 = .ok (.iload_n 2, 1) := by decide +kernel
theorem dX5_lays_30 : decode cX5_lays 30 = .ok (.iaload, 1) := by decide +kernel
theorem dX5_lays_31 : decode cX5_lays 31 = .ok (.imul, 1) := by decide +kernel
theorem dX5_lays_32 : decode cX5_lays 32 = .ok (.if_icmp .ge 62, 3) := by decide +kernel
theorem dX5_lays_35 : decode cX5_lays 35 = .ok (.iload_n 3, 1) := by decide +kernel
theorem dX5_lays_36 : decode cX5_lays 36 = .ok (.iconst (-1), 1) := by decide +kernel
theorem dX5_lays_37 : decode cX5_lays 37 = .ok (.if_icmp .ne 57, 3) := by decide +kernel
theorem dX5_lays_40 : decode cX5_lays 40 = .ok (.aload_n 0, 1) := by decide +kernel
theorem dX5_lays_41 : decode cX5_lays 41 = .ok (.getfield 39, 3) := by decide +kernel
theorem dX5_lays_44 : decode cX5_lays 44 = .ok (.iload_n 2, 1) := by decide +kernel
theorem dX5_lays_45 : decode cX5_lays 45 = .ok (.iload 4, 2) := by decide +kernel
theorem dX5_lays_47 : decode cX5_lays 47 = .ok (.aload_n 0, 1) := by decide +kernel
theorem dX5_lays_48 : decode cX5_lays 48 = .ok (.getfield 30, 3) := by decide +kernel
theorem dX5_lays_51 : decode cX5_lays 51 = .ok (.iload_n 2, 1) := by decide +kernel
theorem dX5_lays_52 : decode cX5_lays 52 = .ok (.iaload, 1) := by decide +kernel
theorem dX5_lays_53 : decode cX5_lays 53 = .ok (.irem, 1) := by decide +kernel
theorem dX5_lays_54 : decode cX5_lays 54 = .ok (.iload 4, 2) := by decide +kernel
theorem dX5_lays_56 : decode cX5_lays 56 = .ok (.aload_n 0, 1) := by decide +kernel
theorem dX5_lays_57 : decode cX5_lays 57 = .ok (.getfield 30, 3) := by decide +kernel
theorem dX5_lays_60 : decode cX5_lays 60 = .ok (.iload_n 2, 1) := by decide +kernel
theorem dX5_lays_61 : decode cX5_lays 61 = .ok (.iaload, 1) := by decide +kernel
theorem dX5_lays_62 : decode cX5_lays 62 = .ok (.idiv, 1) := by decide +kernel
theorem dX5_lays_63 : decode cX5_lays 63 = .ok (.invokestatic 111, 3) := by decide +kernel
theorem dX5_lays_66 : decode cX5_lays 66 = .ok (.iaload, 1) := by decide +kernel
theorem dX5_lays_67 : decode cX5_lays 67 = .ok (.istore 5, 2) := by decide +kernel
theorem dX5_lays_69 : decode cX5_lays 69 = .ok (.iload 5, 2) := by decide +kernel
theorem dX5_lays_71 : decode cX5_lays 71 = .ok (.iconst 2, 1) := by decide +kernel
theorem dX5_lays_72 : decode cX5_lays 72 = .ok (.if_icmp .eq 9, 3) := by decide +kernel
theorem dX5_lays_75 : decode cX5_lays 75 = .ok (.iload 5, 2) := by decide +kernel
theorem dX5_lays_77 : decode cX5_lays 77 = .ok (.iconst 3, 1) := by decide +kernel
theorem dX5_lays_78 : decode cX5_lays 78 = .ok (.if_icmp .ne 7, 3) := by decide +kernel
theorem dX5_lays_81 : decode cX5_lays 81 = .ok (.iconst (-1), 1) := by decide +kernel
theorem dX5_lays_82 : decode cX5_lays 82 = .ok (.goto 5, 3) := by decide +kernel
theorem dX5_lays_85 : decode cX5_lays 85 = .ok (.iload 4, 2) := by decide +kernel
theorem dX5_lays_87 : decode cX5_lays 87 = .ok (.istore_n 3, 1) := by decide +kernel
theorem dX5_lays_88 : decode cX5_lays 88 = .ok (.iinc 4 1, 3) := by decide +kernel
theorem dX5_lays_91 : decode cX5_lays 91 = .ok (.goto (-79), 3) := by decide +kernel
theorem dX5_lays_94 : decode cX5_lays 94 = .ok (.iload_n 3, 1) := by decide +kernel
theorem dX5_lays_95 : decode cX5_lays 95 = .ok (.iconst (-1), 1) := by decide +kernel
theorem dX5_lays_96 : decode cX5_lays 96 = .ok (.if_icmp .ne 5, 3) := by decide +kernel
theorem dX5_lays_99 : decode cX5_lays 99 = .ok (.iconst 0, 1) := by decide +kernel
theorem dX5_lays_100 : decode cX5_lays 100 = .ok (.ireturn, 1) := by decide +kernel
theorem dX5_lays_101 : decode cX5_lays 101 = .ok (.iload_n 3, 1) := by decide +kernel
theorem dX5_lays_102 : decode cX5_lays 102 = .ok (.aload_n 0, 1) := by decide +kernel
theorem dX5_lays_103 : decode cX5_lays 103 = .ok (.getfield 30, 3) := by decide +kernel
theorem dX5_lays_106 : decode cX5_lays 106 = .ok (.iload_n 2, 1) := by decide +kernel
theorem dX5_lays_107 : decode cX5_lays 107 = .ok (.iaload, 1) := by decide +kernel
theorem dX5_lays_108 : decode cX5_lays 108 = .ok (.idiv, 1) := by decide +kernel
theorem dX5_lays_109 : decode cX5_lays 109 = .ok (.istore 4, 2) := by decide +kernel
theorem dX5_lays_111 : decode cX5_lays 111 = .ok (.iload_n 2, 1) := by decide +kernel
theorem dX5_lays_112 : decode cX5_lays 112 = .ok (.iload_n 3, 1) := by decide +kernel
theorem dX5_lays_113 : decode cX5_lays 113 = .ok (.aload_n 0, 1) := by decide +kernel
theorem dX5_lays_114 : decode cX5_lays 114 = .ok (.getfield 30, 3) := by decide +kernel
theorem dX5_lays_117 : decode cX5_lays 117 = .ok (.iload_n 2, 1) := by decide +kernel
theorem dX5_lays_118 : decode cX5_lays 118 = .ok (.iaload, 1) := by decide +kernel
theorem dX5_lays_119 : decode cX5_lays 119 = .ok (.irem, 1) := by decide +kernel
theorem dX5_lays_120 : decode cX5_lays 120 = .ok (.iload 4, 2) := by decide +kernel
theorem dX5_lays_122 : decode cX5_lays 122 = .ok (.invokestatic 111, 3) := by decide +kernel
theorem dX5_lays_125 : decode cX5_lays 125 = .ok (.istore 5, 2) := by decide +kernel
theorem dX5_lays_127 : decode cX5_lays 127 = .ok (.aload_n 0, 1) := by decide +kernel
theorem dX5_lays_128 : decode cX5_lays 128 = .ok (.getfield 39, 3) := by decide +kernel
theorem dX5_lays_131 : decode cX5_lays 131 = .ok (.iload 5, 2) := by decide +kernel
theorem dX5_lays_133 : decode cX5_lays 133 = .ok (.iaload, 1) := by decide +kernel
theorem dX5_lays_134 : decode cX5_lays 134 = .ok (.iconst 1, 1) := by decide +kernel
theorem dX5_lays_135 : decode cX5_lays 135 = .ok (.if_icmp .ne 40, 3) := by decide +kernel
theorem dX5_lays_138 : decode cX5_lays 138 = .ok (.aload_n 0, 1) := by decide +kernel
theorem dX5_lays_139 : decode cX5_lays 139 = .ok (.getfield 72, 3) := by decide +kernel
theorem dX5_lays_142 : decode cX5_lays 142 = .ok (.bipush 12, 2) := by decide +kernel
theorem dX5_lays_144 : decode cX5_lays 144 = .ok (.iload_n 1, 1) := by decide +kernel
theorem dX5_lays_145 : decode cX5_lays 145 = .ok (.imul, 1) := by decide +kernel
theorem dX5_lays_146 : decode cX5_lays 146 = .ok (.aload_n 0, 1) := by decide +kernel
theorem dX5_lays_147 : decode cX5_lays 147 = .ok (.getfield 42, 3) := by decide +kernel
theorem dX5_lays_150 : decode cX5_lays 150 = .ok (.iload 5, 2) := by decide +kernel
theorem dX5_lays_152 : decode cX5_lays 152 = .ok (.iaload, 1) := by decide +kernel
theorem dX5_lays_153 : decode cX5_lays 153 = .ok (.iadd, 1) := by decide +kernel
theorem dX5_lays_154 : decode cX5_lays 154 = .ok (.baload, 1) := by decide +kernel
theorem dX5_lays_155 : decode cX5_lays 155 = .ok (.ifCond .eq 20, 3) := by decide +kernel
theorem dX5_lays_158 : decode cX5_lays 158 = .ok (.iload 4, 2) := by decide +kernel
theorem dX5_lays_160 : decode cX5_lays 160 = .ok (.ifCond .le 17, 3) := by decide +kernel
theorem dX5_lays_163 : decode cX5_lays 163 = .ok (.aload_n 0, 1) := by decide +kernel
theorem dX5_lays_164 : decode cX5_lays 164 = .ok (.iload_n 2, 1) := by decide +kernel
theorem dX5_lays_165 : decode cX5_lays 165 = .ok (.iload 4, 2) := by decide +kernel
theorem dX5_lays_167 : decode cX5_lays 167 = .ok (.iconst 1, 1) := by decide +kernel
theorem dX5_lays_168 : decode cX5_lays 168 = .ok (.isub, 1) := by decide +kernel
theorem dX5_lays_169 : decode cX5_lays 169 = .ok (.invokevirtual 153, 3) := by decide +kernel
theorem dX5_lays_172 : decode cX5_lays 172 = .ok (.ifCond .ne 5, 3) := by decide +kernel
theorem dX5_lays_175 : decode cX5_lays 175 = .ok (.iconst 0, 1) := by decide +kernel
theorem dX5_lays_176 : decode cX5_lays 176 = .ok (.ireturn, 1) := by decide +kernel
theorem dX5_lays_177 : decode cX5_lays 177 = .ok (.aload_n 0, 1) := by decide +kernel
theorem dX5_lays_178 : decode cX5_lays 178 = .ok (.getfield 39, 3) := by decide +kernel
theorem dX5_lays_181 : decode cX5_lays 181 = .ok (.iload 5, 2) := by decide +kernel
theorem dX5_lays_183 : decode cX5_lays 183 = .ok (.iconst 2, 1) := by decide +kernel
theorem dX5_lays_184 : decode cX5_lays 184 = .ok (.iastore, 1) := by decide +kernel
theorem dX5_lays_185 : decode cX5_lays 185 = .ok (.aload_n 0, 1) := by decide +kernel
theorem dX5_lays_186 : decode cX5_lays 186 = .ok (.getfield 24, 3) := by decide +kernel
theorem dX5_lays_189 : decode cX5_lays 189 = .ok (.aload_n 0, 1) := by decide +kernel
theorem dX5_lays_190 : decode cX5_lays 190 = .ok (.getfield 42, 3) := by decide +kernel
theorem dX5_lays_193 : decode cX5_lays 193 = .ok (.iload 5, 2) := by decide +kernel
theorem dX5_lays_195 : decode cX5_lays 195 = .ok (.iaload, 1) := by decide +kernel
theorem dX5_lays_196 : decode cX5_lays 196 = .ok (.dup2, 1) := by decide +kernel
theorem dX5_lays_197 : decode cX5_lays 197 = .ok (.iaload, 1) := by decide +kernel
theorem dX5_lays_198 : decode cX5_lays 198 = .ok (.iconst 1, 1) := by decide +kernel
theorem dX5_lays_199 : decode cX5_lays 199 = .ok (.isub, 1) := by decide +kernel
theorem dX5_lays_200 : decode cX5_lays 200 = .ok (.iastore, 1) := by decide +kernel
theorem dX5_lays_201 : decode cX5_lays 201 = .ok (.aload_n 0, 1) := by decide +kernel
theorem dX5_lays_202 : decode cX5_lays 202 = .ok (.getfield 27, 3) := by decide +kernel
theorem dX5_lays_205 : decode cX5_lays 205 = .ok (.aload_n 0, 1) := by decide +kernel
theorem dX5_lays_206 : decode cX5_lays 206 = .ok (.getfield 42, 3) := by decide +kernel
theorem dX5_lays_209 : decode cX5_lays 209 = .ok (.iload 5, 2) := by decide +kernel
theorem dX5_lays_211 : decode cX5_lays 211 = .ok (.iaload, 1) := by decide +kernel
theorem dX5_lays_212 : decode cX5_lays 212 = .ok (.dup2, 1) := by decide +kernel
theorem dX5_lays_213 : decode cX5_lays 213 = .ok (.iaload, 1) := by decide +kernel
theorem dX5_lays_214 : decode cX5_lays 214 = .ok (.iconst 1, 1) := by decide +kernel
theorem dX5_lays_215 : decode cX5_lays 215 = .ok (.iadd, 1) := by decide +kernel
theorem dX5_lays_216 : decode cX5_lays 216 = .ok (.iastore, 1) := by decide +kernel
theorem dX5_lays_217 : decode cX5_lays 217 = .ok (.aload_n 0, 1) := by decide +kernel
theorem dX5_lays_218 : decode cX5_lays 218 = .ok (.getfield 48, 3) := by decide +kernel
theorem dX5_lays_221 : decode cX5_lays 221 = .ok (.iload 5, 2) := by decide +kernel
theorem dX5_lays_223 : decode cX5_lays 223 = .ok (.aload_n 0, 1) := by decide +kernel
theorem dX5_lays_224 : decode cX5_lays 224 = .ok (.getfield 150, 3) := by decide +kernel
theorem dX5_lays_227 : decode cX5_lays 227 = .ok (.iastore, 1) := by decide +kernel
theorem dX5_lays_228 : decode cX5_lays 228 = .ok (.aload_n 0, 1) := by decide +kernel
theorem dX5_lays_229 : decode cX5_lays 229 = .ok (.getfield 51, 3) := by decide +kernel
theorem dX5_lays_232 : decode cX5_lays 232 = .ok (.iload 5, 2) := by decide +kernel
theorem dX5_lays_234 : decode cX5_lays 234 = .ok (.aload_n 0, 1) := by decide +kernel
theorem dX5_lays_235 : decode cX5_lays 235 = .ok (.getfield 66, 3) := by decide +kernel
theorem dX5_lays_238 : decode cX5_lays 238 = .ok (.iload_n 1, 1) := by decide +kernel
theorem dX5_lays_239 : decode cX5_lays 239 = .ok (.iaload, 1) := by decide +kernel
theorem dX5_lays_240 : decode cX5_lays 240 = .ok (.iastore, 1) := by decide +kernel
theorem dX5_lays_241 : decode cX5_lays 241 = .ok (.aload_n 0, 1) := by decide +kernel
theorem dX5_lays_242 : decode cX5_lays 242 = .ok (.getfield 75, 3) := by decide +kernel
theorem dX5_lays_245 : decode cX5_lays 245 = .ok (.iload_n 1, 1) := by decide +kernel
theorem dX5_lays_246 : decode cX5_lays 246 = .ok (.dup2, 1) := by decide +kernel
theorem dX5_lays_247 : decode cX5_lays 247 = .ok (.iaload, 1) := by decide +kernel
theorem dX5_lays_248 : decode cX5_lays 248 = .ok (.iconst 1, 1) := by decide +kernel
theorem dX5_lays_249 : decode cX5_lays 249 = .ok (.iadd, 1) := by decide +kernel
theorem dX5_lays_250 : decode cX5_lays 250 = .ok (.iastore, 1) := by decide +kernel
theorem dX5_lays_251 : decode cX5_lays 251 = .ok (.iconst 1, 1) := by decide +kernel
theorem dX5_lays_252 : decode cX5_lays 252 = .ok (.ireturn, 1) := by decide +kernel
set_option maxRecDepth 20000 in
theorem ggX5_pass_X5_in : GoodIn wsX5_pass wsX5_in := goodIn_r _ [6] (by decide +kernel) (by decide +kernel)
set_option maxRecDepth 20000 in
theorem gX5_pass_X5_in : GoodIn wsX5_pass (va_wsS RX5 85 yX5_in wsX5_in) := goodIn_app (goodIn_of _ (by decide +kernel)) ggX5_pass_X5_in
set_option maxRecDepth 20000 in
theorem ggX5_pass_X5_asked : GoodIn wsX5_pass wsX5_asked := goodIn_r _ [10, 11, 35, 36, 37, 38, 39, 40, 41, 42, 43, 44, 45, 46, 47, 48, 49, 50, 51, 52, 53, 54, 55, 56, 57, 58, 59, 60] (by decide +kernel) (by decide +kernel)
set_option maxRecDepth 20000 in
theorem gX5_pass_X5_asked : GoodIn wsX5_pass (wsV RX5 122 RX5 yX5_asked wsX5_asked) := goodIn_app (goodIn_of _ (by decide +kernel)) ggX5_pass_X5_asked
set_option maxRecDepth 20000 in
theorem ggX5_pass_X5_lays : GoodIn wsX5_pass wsX5_lays := goodIn_r _ [15, 16, 17, 18, 19, 20, 21, 22, 23, 24, 1, 25, 26, 27, 28, 29, 5, 30, 31, 32, 33, 34, 35, 36, 37, 38, 39, 40, 41, 42, 43, 44, 45, 46, 47, 48, 49, 50, 51, 52, 53, 54, 55, 56, 57, 58, 59, 60] (by decide +kernel) (by decide +kernel)
set_option maxRecDepth 20000 in
theorem gX5_pass_X5_lays : GoodIn wsX5_pass (wsV RX5 157 RX5 yX5_lays wsX5_lays) := goodIn_app (goodIn_of _ (by decide +kernel)) ggX5_pass_X5_lays
theorem dX5_pass_0 : decode cX5_pass 0 = .ok (.aload_n 0, 1) := by decide +kernel
theorem dX5_pass_1 : decode cX5_pass 1 = .ok (.iload_n 1, 1) := by decide +kernel
theorem dX5_pass_2 : decode cX5_pass 2 = .ok (.iconst 1, 1) := by decide +kernel
theorem dX5_pass_3 : decode cX5_pass 3 = .ok (.bipush 100, 2) := by decide +kernel
theorem dX5_pass_5 : decode cX5_pass 5 = .ok (.invokestatic 85, 3) := by decide +kernel
theorem dX5_pass_8 : decode cX5_pass 8 = .ok (.invokevirtual 122, 3) := by decide +kernel
theorem dX5_pass_11 : decode cX5_pass 11 = .ok (.ifCond .ne 5, 3) := by decide +kernel
theorem dX5_pass_14 : decode cX5_pass 14 = .ok (.iconst 0, 1) := by decide +kernel
theorem dX5_pass_15 : decode cX5_pass 15 = .ok (.ireturn, 1) := by decide +kernel
theorem dX5_pass_16 : decode cX5_pass 16 = .ok (.iconst 0, 1) := by decide +kernel
theorem dX5_pass_17 : decode cX5_pass 17 = .ok (.istore_n 2, 1) := by decide +kernel
theorem dX5_pass_18 : decode cX5_pass 18 = .ok (.iconst 0, 1) := by decide +kernel
theorem dX5_pass_19 : decode cX5_pass 19 = .ok (.istore_n 3, 1) := by decide +kernel
theorem dX5_pass_20 : decode cX5_pass 20 = .ok (.iload_n 3, 1) := by decide +kernel
theorem dX5_pass_21 : decode cX5_pass 21 = .ok (.iload_n 1, 1) := by decide +kernel
theorem dX5_pass_22 : decode cX5_pass 22 = .ok (.if_icmp .ge 69, 3) := by decide +kernel
theorem dX5_pass_25 : decode cX5_pass 25 = .ok (.aload_n 0, 1) := by decide +kernel
theorem dX5_pass_26 : decode cX5_pass 26 = .ok (.dup, 1) := by decide +kernel
theorem dX5_pass_27 : decode cX5_pass 27 = .ok (.getfield 150, 3) := by decide +kernel
theorem dX5_pass_30 : decode cX5_pass 30 = .ok (.iconst 1, 1) := by decide +kernel
theorem dX5_pass_31 : decode cX5_pass 31 = .ok (.iadd, 1) := by decide +kernel
theorem dX5_pass_32 : decode cX5_pass 32 = .ok (.putfield 150, 3) := by decide +kernel
theorem dX5_pass_35 : decode cX5_pass 35 = .ok (.iconst 0, 1) := by decide +kernel
theorem dX5_pass_36 : decode cX5_pass 36 = .ok (.istore 4, 2) := by decide +kernel
theorem dX5_pass_38 : decode cX5_pass 38 = .ok (.iload 4, 2) := by decide +kernel
theorem dX5_pass_40 : decode cX5_pass 40 = .ok (.iconst 3, 1) := by decide +kernel
theorem dX5_pass_41 : decode cX5_pass 41 = .ok (.if_icmp .ge 44, 3) := by decide +kernel
theorem dX5_pass_44 : decode cX5_pass 44 = .ok (.iconst 0, 1) := by decide +kernel
theorem dX5_pass_45 : decode cX5_pass 45 = .ok (.istore 5, 2) := by decide +kernel
theorem dX5_pass_47 : decode cX5_pass 47 = .ok (.iload 5, 2) := by decide +kernel
theorem dX5_pass_49 : decode cX5_pass 49 = .ok (.aload_n 0, 1) := by decide +kernel
theorem dX5_pass_50 : decode cX5_pass 50 = .ok (.getfield 63, 3) := by decide +kernel
theorem dX5_pass_53 : decode cX5_pass 53 = .ok (.iload 4, 2) := by decide +kernel
theorem dX5_pass_55 : decode cX5_pass 55 = .ok (.iaload, 1) := by decide +kernel
theorem dX5_pass_56 : decode cX5_pass 56 = .ok (.if_icmp .ge 18, 3) := by decide +kernel
theorem dX5_pass_59 : decode cX5_pass 59 = .ok (.aload_n 0, 1) := by decide +kernel
theorem dX5_pass_60 : decode cX5_pass 60 = .ok (.iload 4, 2) := by decide +kernel
theorem dX5_pass_62 : decode cX5_pass 62 = .ok (.invokevirtual 157, 3) := by decide +kernel
theorem dX5_pass_65 : decode cX5_pass 65 = .ok (.ifCond .eq 9, 3) := by decide +kernel
theorem dX5_pass_68 : decode cX5_pass 68 = .ok (.iinc 5 1, 3) := by decide +kernel
theorem dX5_pass_71 : decode cX5_pass 71 = .ok (.goto (-24), 3) := by decide +kernel
theorem dX5_pass_74 : decode cX5_pass 74 = .ok (.iload_n 2, 1) := by decide +kernel
theorem dX5_pass_75 : decode cX5_pass 75 = .ok (.iload 5, 2) := by decide +kernel
theorem dX5_pass_77 : decode cX5_pass 77 = .ok (.iadd, 1) := by decide +kernel
theorem dX5_pass_78 : decode cX5_pass 78 = .ok (.istore_n 2, 1) := by decide +kernel
theorem dX5_pass_79 : decode cX5_pass 79 = .ok (.iinc 4 1, 3) := by decide +kernel
theorem dX5_pass_82 : decode cX5_pass 82 = .ok (.goto (-44), 3) := by decide +kernel
theorem dX5_pass_85 : decode cX5_pass 85 = .ok (.iinc 3 1, 3) := by decide +kernel
theorem dX5_pass_88 : decode cX5_pass 88 = .ok (.goto (-68), 3) := by decide +kernel
theorem dX5_pass_91 : decode cX5_pass 91 = .ok (.iload_n 2, 1) := by decide +kernel
theorem dX5_pass_92 : decode cX5_pass 92 = .ok (.ireturn, 1) := by decide +kernel
theorem dX5_hour_0 : decode cX5_hour 0 = .ok (.aload_n 0, 1) := by decide +kernel
theorem dX5_hour_1 : decode cX5_hour 1 = .ok (.iconst 0, 1) := by decide +kernel
theorem dX5_hour_2 : decode cX5_hour 2 = .ok (.putfield 78, 3) := by decide +kernel
theorem dX5_hour_5 : decode cX5_hour 5 = .ok (.aload_n 0, 1) := by decide +kernel
theorem dX5_hour_6 : decode cX5_hour 6 = .ok (.getfield 150, 3) := by decide +kernel
theorem dX5_hour_9 : decode cX5_hour 9 = .ok (.ireturn, 1) := by decide +kernel
set_option maxRecDepth 20000 in
theorem ggX5_ofCell_X5_isCell : GoodIn wsX5_ofCell wsX5_isCell := goodIn_r _ [10, 11, 12, 13, 14, 15, 9, 16, 17, 18, 19, 20, 41, 42, 43, 44, 45, 46, 47, 48, 49, 50, 51, 52, 53, 54, 55, 56, 57, 58, 59, 60, 61, 62, 63, 64, 65, 66] (by decide +kernel) (by decide +kernel)
set_option maxRecDepth 20000 in
theorem gX5_ofCell_X5_isCell : GoodIn wsX5_ofCell (wsV RX5 108 RX5 yX5_isCell wsX5_isCell) := goodIn_app (goodIn_of _ (by decide +kernel)) ggX5_ofCell_X5_isCell
set_option maxRecDepth 20000 in
theorem ggX5_ofCell_X5_in : GoodIn wsX5_ofCell wsX5_in := goodIn_r _ [20] (by decide +kernel) (by decide +kernel)
set_option maxRecDepth 20000 in
theorem gX5_ofCell_X5_in : GoodIn wsX5_ofCell (va_wsS RX5 85 yX5_in wsX5_in) := goodIn_app (goodIn_of _ (by decide +kernel)) ggX5_ofCell_X5_in
set_option maxRecDepth 20000 in
theorem ggX5_ofCell_X5_asked_ : GoodIn wsX5_ofCell wsX5_asked_ := goodIn_r _ [24, 25, 41, 42, 43, 44, 45, 46, 47, 48, 49, 50, 51, 52, 53, 54, 55, 56, 57, 58, 59, 60, 61, 62, 63, 64, 65, 66] (by decide +kernel) (by decide +kernel)
set_option maxRecDepth 20000 in
theorem gX5_ofCell_X5_asked_ : GoodIn wsX5_ofCell (wsV RX5 96 RX5 yX5_asked_ wsX5_asked_) := goodIn_app (goodIn_of _ (by decide +kernel)) ggX5_ofCell_X5_asked_
set_option maxRecDepth 20000 in
theorem ggX5_ofCell_X5_cellOf : GoodIn wsX5_ofCell wsX5_cellOf := goodIn_r _ [28] (by decide +kernel) (by decide +kernel)
set_option maxRecDepth 20000 in
theorem gX5_ofCell_X5_cellOf : GoodIn wsX5_ofCell (va_wsS RX5 111 yX5_cellOf wsX5_cellOf) := goodIn_app (goodIn_of _ (by decide +kernel)) ggX5_ofCell_X5_cellOf
set_option maxRecDepth 20000 in
theorem ggX5_ofCell_Jxf58ca_floatToIntBits_5c35a : GoodIn wsX5_ofCell wsJxf58ca_floatToIntBits_5c35a := goodIn_r _ [32, 33, 34, 35, 36, 37, 38, 39, 31, 40] (by decide +kernel) (by decide +kernel)
set_option maxRecDepth 20000 in
theorem gX5_ofCell_Jxf58ca_floatToIntBits_5c35a : GoodIn wsX5_ofCell (va_wsS RX5 160 yJxf58ca_floatToIntBits_5c35a wsJxf58ca_floatToIntBits_5c35a) := goodIn_app (goodIn_of _ (by decide +kernel)) ggX5_ofCell_Jxf58ca_floatToIntBits_5c35a
theorem dX5_ofCell_0 : decode cX5_ofCell 0 = .ok (.aload_n 0, 1) := by decide +kernel
theorem dX5_ofCell_1 : decode cX5_ofCell 1 = .ok (.iload_n 1, 1) := by decide +kernel
theorem dX5_ofCell_2 : decode cX5_ofCell 2 = .ok (.iload_n 2, 1) := by decide +kernel
theorem dX5_ofCell_3 : decode cX5_ofCell 3 = .ok (.iload_n 3, 1) := by decide +kernel
theorem dX5_ofCell_4 : decode cX5_ofCell 4 = .ok (.invokevirtual 108, 3) := by decide +kernel
theorem dX5_ofCell_7 : decode cX5_ofCell 7 = .ok (.istore 5, 2) := by decide +kernel
theorem dX5_ofCell_9 : decode cX5_ofCell 9 = .ok (.aload_n 0, 1) := by decide +kernel
theorem dX5_ofCell_10 : decode cX5_ofCell 10 = .ok (.iload 5, 2) := by decide +kernel
theorem dX5_ofCell_12 : decode cX5_ofCell 12 = .ok (.iload 4, 2) := by decide +kernel
theorem dX5_ofCell_14 : decode cX5_ofCell 14 = .ok (.iconst 0, 1) := by decide +kernel
theorem dX5_ofCell_15 : decode cX5_ofCell 15 = .ok (.iconst 4, 1) := by decide +kernel
theorem dX5_ofCell_16 : decode cX5_ofCell 16 = .ok (.invokestatic 85, 3) := by decide +kernel
theorem dX5_ofCell_19 : decode cX5_ofCell 19 = .ok (.invokevirtual 96, 3) := by decide +kernel
theorem dX5_ofCell_22 : decode cX5_ofCell 22 = .ok (.ifCond .ne 5, 3) := by decide +kernel
theorem dX5_ofCell_25 : decode cX5_ofCell 25 = .ok (.iconst 0, 1) := by decide +kernel
theorem dX5_ofCell_26 : decode cX5_ofCell 26 = .ok (.ireturn, 1) := by decide +kernel
theorem dX5_ofCell_27 : decode cX5_ofCell 27 = .ok (.iload_n 1, 1) := by decide +kernel
theorem dX5_ofCell_28 : decode cX5_ofCell 28 = .ok (.iload_n 2, 1) := by decide +kernel
theorem dX5_ofCell_29 : decode cX5_ofCell 29 = .ok (.iload_n 3, 1) := by decide +kernel
theorem dX5_ofCell_30 : decode cX5_ofCell 30 = .ok (.invokestatic 111, 3) := by decide +kernel
theorem dX5_ofCell_33 : decode cX5_ofCell 33 = .ok (.istore 6, 2) := by decide +kernel
theorem dX5_ofCell_35 : decode cX5_ofCell 35 = .ok (.iload 4, 2) := by decide +kernel
theorem dX5_ofCell_37 : decode cX5_ofCell 37 = .ok (.ifCond .ne 13, 3) := by decide +kernel
theorem dX5_ofCell_40 : decode cX5_ofCell 40 = .ok (.aload_n 0, 1) := by decide +kernel
theorem dX5_ofCell_41 : decode cX5_ofCell 41 = .ok (.getfield 39, 3) := by decide +kernel
theorem dX5_ofCell_44 : decode cX5_ofCell 44 = .ok (.iload 6, 2) := by decide +kernel
theorem dX5_ofCell_46 : decode cX5_ofCell 46 = .ok (.iaload, 1) := by decide +kernel
theorem dX5_ofCell_47 : decode cX5_ofCell 47 = .ok (.goto 61, 3) := by decide +kernel
theorem dX5_ofCell_50 : decode cX5_ofCell 50 = .ok (.iload 4, 2) := by decide +kernel
theorem dX5_ofCell_52 : decode cX5_ofCell 52 = .ok (.iconst 1, 1) := by decide +kernel
theorem dX5_ofCell_53 : decode cX5_ofCell 53 = .ok (.if_icmp .ne 13, 3) := by decide +kernel
theorem dX5_ofCell_56 : decode cX5_ofCell 56 = .ok (.aload_n 0, 1) := by decide +kernel
theorem dX5_ofCell_57 : decode cX5_ofCell 57 = .ok (.getfield 42, 3) := by decide +kernel
theorem dX5_ofCell_60 : decode cX5_ofCell 60 = .ok (.iload 6, 2) := by decide +kernel
theorem dX5_ofCell_62 : decode cX5_ofCell 62 = .ok (.iaload, 1) := by decide +kernel
theorem dX5_ofCell_63 : decode cX5_ofCell 63 = .ok (.goto 45, 3) := by decide +kernel
theorem dX5_ofCell_66 : decode cX5_ofCell 66 = .ok (.iload 4, 2) := by decide +kernel
theorem dX5_ofCell_68 : decode cX5_ofCell 68 = .ok (.iconst 2, 1) := by decide +kernel
theorem dX5_ofCell_69 : decode cX5_ofCell 69 = .ok (.if_icmp .ne 13, 3) := by decide +kernel
theorem dX5_ofCell_72 : decode cX5_ofCell 72 = .ok (.aload_n 0, 1) := by decide +kernel
theorem dX5_ofCell_73 : decode cX5_ofCell 73 = .ok (.getfield 36, 3) := by decide +kernel
theorem dX5_ofCell_76 : decode cX5_ofCell 76 = .ok (.iload 6, 2) := by decide +kernel
theorem dX5_ofCell_78 : decode cX5_ofCell 78 = .ok (.iaload, 1) := by decide +kernel
theorem dX5_ofCell_79 : decode cX5_ofCell 79 = .ok (.goto 29, 3) := by decide +kernel
theorem dX5_ofCell_82 : decode cX5_ofCell 82 = .ok (.iload 4, 2) := by decide +kernel
theorem dX5_ofCell_84 : decode cX5_ofCell 84 = .ok (.iconst 3, 1) := by decide +kernel
theorem dX5_ofCell_85 : decode cX5_ofCell 85 = .ok (.if_icmp .ne 16, 3) := by decide +kernel
theorem dX5_ofCell_88 : decode cX5_ofCell 88 = .ok (.aload_n 0, 1) := by decide +kernel
theorem dX5_ofCell_89 : decode cX5_ofCell 89 = .ok (.getfield 45, 3) := by decide +kernel
theorem dX5_ofCell_92 : decode cX5_ofCell 92 = .ok (.iload 6, 2) := by decide +kernel
theorem dX5_ofCell_94 : decode cX5_ofCell 94 = .ok (.faload, 1) := by decide +kernel
theorem dX5_ofCell_95 : decode cX5_ofCell 95 = .ok (.invokestatic 160, 3) := by decide +kernel
theorem dX5_ofCell_98 : decode cX5_ofCell 98 = .ok (.goto 10, 3) := by decide +kernel
theorem dX5_ofCell_101 : decode cX5_ofCell 101 = .ok (.aload_n 0, 1) := by decide +kernel
theorem dX5_ofCell_102 : decode cX5_ofCell 102 = .ok (.getfield 48, 3) := by decide +kernel
theorem dX5_ofCell_105 : decode cX5_ofCell 105 = .ok (.iload 6, 2) := by decide +kernel
theorem dX5_ofCell_107 : decode cX5_ofCell 107 = .ok (.iaload, 1) := by decide +kernel
theorem dX5_ofCell_108 : decode cX5_ofCell 108 = .ok (.ireturn, 1) := by decide +kernel
set_option maxRecDepth 20000 in
theorem ggX5_aimAnew_X5_isCell : GoodIn wsX5_aimAnew wsX5_isCell := goodIn_r _ [10, 2, 11, 12, 13, 14, 9, 15, 16, 17, 18, 19, 52, 53, 54, 55, 56, 57, 58, 59, 60, 61, 62, 63, 64, 65, 66, 67, 68, 69, 70, 71, 72, 73, 74, 75, 76, 77] (by decide +kernel) (by decide +kernel)
set_option maxRecDepth 20000 in
theorem gX5_aimAnew_X5_isCell : GoodIn wsX5_aimAnew (wsV RX5 108 RX5 yX5_isCell wsX5_isCell) := goodIn_app (goodIn_of _ (by decide +kernel)) ggX5_aimAnew_X5_isCell
set_option maxRecDepth 20000 in
theorem ggX5_aimAnew_X5_asked : GoodIn wsX5_aimAnew wsX5_asked := goodIn_r _ [23, 24, 52, 53, 54, 55, 56, 57, 58, 59, 60, 61, 62, 63, 64, 65, 66, 67, 68, 69, 70, 71, 72, 73, 74, 75, 76, 77] (by decide +kernel) (by decide +kernel)
set_option maxRecDepth 20000 in
theorem gX5_aimAnew_X5_asked : GoodIn wsX5_aimAnew (wsV RX5 122 RX5 yX5_asked wsX5_asked) := goodIn_app (goodIn_of _ (by decide +kernel)) ggX5_aimAnew_X5_asked
set_option maxRecDepth 20000 in
theorem ggX5_aimAnew_X5_cellOf : GoodIn wsX5_aimAnew wsX5_cellOf := goodIn_r _ [27] (by decide +kernel) (by decide +kernel)
set_option maxRecDepth 20000 in
theorem gX5_aimAnew_X5_cellOf : GoodIn wsX5_aimAnew (va_wsS RX5 111 yX5_cellOf wsX5_cellOf) := goodIn_app (goodIn_of _ (by decide +kernel)) ggX5_aimAnew_X5_cellOf
set_option maxRecDepth 20000 in
theorem ggX5_aimAnew_X5_passesOn : GoodIn wsX5_aimAnew wsX5_passesOn := goodIn_r _ [31, 32, 33, 34, 35, 36, 37, 38, 9, 39, 2, 11, 1, 17, 18, 19, 52, 53, 54, 55, 56, 57, 58, 59, 60, 61, 62, 63, 64, 65, 66, 67, 68, 69, 70, 71, 72, 73, 74, 75, 76, 77] (by decide +kernel) (by decide +kernel)
set_option maxRecDepth 20000 in
theorem gX5_aimAnew_X5_passesOn : GoodIn wsX5_aimAnew (wsV RX5 141 RX5 yX5_passesOn wsX5_passesOn) := goodIn_app (goodIn_of _ (by decide +kernel)) ggX5_aimAnew_X5_passesOn
set_option maxRecDepth 20000 in
theorem ggX5_aimAnew_Jxf58ca_floatToIntBits_5c35a : GoodIn wsX5_aimAnew wsJxf58ca_floatToIntBits_5c35a := goodIn_r _ [43, 44, 45, 46, 47, 48, 49, 50, 42, 51] (by decide +kernel) (by decide +kernel)
set_option maxRecDepth 20000 in
theorem gX5_aimAnew_Jxf58ca_floatToIntBits_5c35a : GoodIn wsX5_aimAnew (va_wsS RX5 160 yJxf58ca_floatToIntBits_5c35a wsJxf58ca_floatToIntBits_5c35a) := goodIn_app (goodIn_of _ (by decide +kernel)) ggX5_aimAnew_Jxf58ca_floatToIntBits_5c35a
theorem dX5_aimAnew_0 : decode cX5_aimAnew 0 = .ok (.aload_n 0, 1) := by decide +kernel
theorem dX5_aimAnew_1 : decode cX5_aimAnew 1 = .ok (.aload_n 0, 1) := by decide +kernel
theorem dX5_aimAnew_2 : decode cX5_aimAnew 2 = .ok (.iload_n 1, 1) := by decide +kernel
theorem dX5_aimAnew_3 : decode cX5_aimAnew 3 = .ok (.iload_n 2, 1) := by decide +kernel
theorem dX5_aimAnew_4 : decode cX5_aimAnew 4 = .ok (.iload_n 3, 1) := by decide +kernel
theorem dX5_aimAnew_5 : decode cX5_aimAnew 5 = .ok (.invokevirtual 108, 3) := by decide +kernel
theorem dX5_aimAnew_8 : decode cX5_aimAnew 8 = .ok (.invokevirtual 122, 3) := by decide +kernel
theorem dX5_aimAnew_11 : decode cX5_aimAnew 11 = .ok (.ifCond .ne 5, 3) := by decide +kernel
theorem dX5_aimAnew_14 : decode cX5_aimAnew 14 = .ok (.iconst 0, 1) := by decide +kernel
theorem dX5_aimAnew_15 : decode cX5_aimAnew 15 = .ok (.ireturn, 1) := by decide +kernel
theorem dX5_aimAnew_16 : decode cX5_aimAnew 16 = .ok (.iconst 0, 1) := by decide +kernel
theorem dX5_aimAnew_17 : decode cX5_aimAnew 17 = .ok (.istore 4, 2) := by decide +kernel
theorem dX5_aimAnew_19 : decode cX5_aimAnew 19 = .ok (.iload 4, 2) := by decide +kernel
theorem dX5_aimAnew_21 : decode cX5_aimAnew 21 = .ok (.bipush 64, 2) := by decide +kernel
theorem dX5_aimAnew_23 : decode cX5_aimAnew 23 = .ok (.if_icmp .ge 17, 3) := by decide +kernel
theorem dX5_aimAnew_26 : decode cX5_aimAnew 26 = .ok (.aload_n 0, 1) := by decide +kernel
theorem dX5_aimAnew_27 : decode cX5_aimAnew 27 = .ok (.getfield 54, 3) := by decide +kernel
theorem dX5_aimAnew_30 : decode cX5_aimAnew 30 = .ok (.iload 4, 2) := by decide +kernel
theorem dX5_aimAnew_32 : decode cX5_aimAnew 32 = .ok (.fconst 0, 1) := by decide +kernel
theorem dX5_aimAnew_33 : decode cX5_aimAnew 33 = .ok (.fastore, 1) := by decide +kernel
theorem dX5_aimAnew_34 : decode cX5_aimAnew 34 = .ok (.iinc 4 1, 3) := by decide +kernel
theorem dX5_aimAnew_37 : decode cX5_aimAnew 37 = .ok (.goto (-18), 3) := by decide +kernel
theorem dX5_aimAnew_40 : decode cX5_aimAnew 40 = .ok (.iconst 0, 1) := by decide +kernel
theorem dX5_aimAnew_41 : decode cX5_aimAnew 41 = .ok (.istore 4, 2) := by decide +kernel
theorem dX5_aimAnew_43 : decode cX5_aimAnew 43 = .ok (.iload 4, 2) := by decide +kernel
theorem dX5_aimAnew_45 : decode cX5_aimAnew 45 = .ok (.aload_n 0, 1) := by decide +kernel
theorem dX5_aimAnew_46 : decode cX5_aimAnew 46 = .ok (.getfield 30, 3) := by decide +kernel
theorem dX5_aimAnew_49 : decode cX5_aimAnew 49 = .ok (.iload_n 1, 1) := by decide +kernel
theorem dX5_aimAnew_50 : decode cX5_aimAnew 50 = .ok (.iaload, 1) := by decide +kernel
theorem dX5_aimAnew_51 : decode cX5_aimAnew 51 = .ok (.iload_n 3, 1) := by decide +kernel
theorem dX5_aimAnew_52 : decode cX5_aimAnew 52 = .ok (.imul, 1) := by decide +kernel
theorem dX5_aimAnew_53 : decode cX5_aimAnew 53 = .ok (.iload_n 2, 1) := by decide +kernel
theorem dX5_aimAnew_54 : decode cX5_aimAnew 54 = .ok (.iadd, 1) := by decide +kernel
theorem dX5_aimAnew_55 : decode cX5_aimAnew 55 = .ok (.if_icmp .ge 96, 3) := by decide +kernel
theorem dX5_aimAnew_58 : decode cX5_aimAnew 58 = .ok (.iload 4, 2) := by decide +kernel
theorem dX5_aimAnew_60 : decode cX5_aimAnew 60 = .ok (.aload_n 0, 1) := by decide +kernel
theorem dX5_aimAnew_61 : decode cX5_aimAnew 61 = .ok (.getfield 30, 3) := by decide +kernel
theorem dX5_aimAnew_64 : decode cX5_aimAnew 64 = .ok (.iload_n 1, 1) := by decide +kernel
theorem dX5_aimAnew_65 : decode cX5_aimAnew 65 = .ok (.iaload, 1) := by decide +kernel
theorem dX5_aimAnew_66 : decode cX5_aimAnew 66 = .ok (.irem, 1) := by decide +kernel
theorem dX5_aimAnew_67 : decode cX5_aimAnew 67 = .ok (.istore 5, 2) := by decide +kernel
theorem dX5_aimAnew_69 : decode cX5_aimAnew 69 = .ok (.iload 4, 2) := by decide +kernel
theorem dX5_aimAnew_71 : decode cX5_aimAnew 71 = .ok (.aload_n 0, 1) := by decide +kernel
theorem dX5_aimAnew_72 : decode cX5_aimAnew 72 = .ok (.getfield 30, 3) := by decide +kernel
theorem dX5_aimAnew_75 : decode cX5_aimAnew 75 = .ok (.iload_n 1, 1) := by decide +kernel
theorem dX5_aimAnew_76 : decode cX5_aimAnew 76 = .ok (.iaload, 1) := by decide +kernel
theorem dX5_aimAnew_77 : decode cX5_aimAnew 77 = .ok (.idiv, 1) := by decide +kernel
theorem dX5_aimAnew_78 : decode cX5_aimAnew 78 = .ok (.istore 6, 2) := by decide +kernel
theorem dX5_aimAnew_80 : decode cX5_aimAnew 80 = .ok (.iload_n 1, 1) := by decide +kernel
theorem dX5_aimAnew_81 : decode cX5_aimAnew 81 = .ok (.iload 5, 2) := by decide +kernel
theorem dX5_aimAnew_83 : decode cX5_aimAnew 83 = .ok (.iload 6, 2) := by decide +kernel
theorem dX5_aimAnew_85 : decode cX5_aimAnew 85 = .ok (.invokestatic 111, 3) := by decide +kernel
theorem dX5_aimAnew_88 : decode cX5_aimAnew 88 = .ok (.istore 7, 2) := by decide +kernel
theorem dX5_aimAnew_90 : decode cX5_aimAnew 90 = .ok (.aload_n 0, 1) := by decide +kernel
theorem dX5_aimAnew_91 : decode cX5_aimAnew 91 = .ok (.getfield 42, 3) := by decide +kernel
theorem dX5_aimAnew_94 : decode cX5_aimAnew 94 = .ok (.iload 7, 2) := by decide +kernel
theorem dX5_aimAnew_96 : decode cX5_aimAnew 96 = .ok (.iaload, 1) := by decide +kernel
theorem dX5_aimAnew_97 : decode cX5_aimAnew 97 = .ok (.iconst (-1), 1) := by decide +kernel
theorem dX5_aimAnew_98 : decode cX5_aimAnew 98 = .ok (.if_icmp .eq 47, 3) := by decide +kernel
theorem dX5_aimAnew_101 : decode cX5_aimAnew 101 = .ok (.aload_n 0, 1) := by decide +kernel
theorem dX5_aimAnew_102 : decode cX5_aimAnew 102 = .ok (.iload_n 1, 1) := by decide +kernel
theorem dX5_aimAnew_103 : decode cX5_aimAnew 103 = .ok (.iload 5, 2) := by decide +kernel
theorem dX5_aimAnew_105 : decode cX5_aimAnew 105 = .ok (.iload 6, 2) := by decide +kernel
theorem dX5_aimAnew_107 : decode cX5_aimAnew 107 = .ok (.aload_n 0, 1) := by decide +kernel
theorem dX5_aimAnew_108 : decode cX5_aimAnew 108 = .ok (.getfield 36, 3) := by decide +kernel
theorem dX5_aimAnew_111 : decode cX5_aimAnew 111 = .ok (.iload 7, 2) := by decide +kernel
theorem dX5_aimAnew_113 : decode cX5_aimAnew 113 = .ok (.iaload, 1) := by decide +kernel
theorem dX5_aimAnew_114 : decode cX5_aimAnew 114 = .ok (.i2f, 1) := by decide +kernel
theorem dX5_aimAnew_115 : decode cX5_aimAnew 115 = .ok (.aload_n 0, 1) := by decide +kernel
theorem dX5_aimAnew_116 : decode cX5_aimAnew 116 = .ok (.getfield 54, 3) := by decide +kernel
theorem dX5_aimAnew_119 : decode cX5_aimAnew 119 = .ok (.bipush 8, 2) := by decide +kernel
theorem dX5_aimAnew_121 : decode cX5_aimAnew 121 = .ok (.iload 6, 2) := by decide +kernel
theorem dX5_aimAnew_123 : decode cX5_aimAnew 123 = .ok (.imul, 1) := by decide +kernel
theorem dX5_aimAnew_124 : decode cX5_aimAnew 124 = .ok (.iload 5, 2) := by decide +kernel
theorem dX5_aimAnew_126 : decode cX5_aimAnew 126 = .ok (.iadd, 1) := by decide +kernel
theorem dX5_aimAnew_127 : decode cX5_aimAnew 127 = .ok (.faload, 1) := by decide +kernel
theorem dX5_aimAnew_128 : decode cX5_aimAnew 128 = .ok (.fadd, 1) := by decide +kernel
theorem dX5_aimAnew_129 : decode cX5_aimAnew 129 = .ok (.aload_n 0, 1) := by decide +kernel
theorem dX5_aimAnew_130 : decode cX5_aimAnew 130 = .ok (.getfield 7, 3) := by decide +kernel
theorem dX5_aimAnew_133 : decode cX5_aimAnew 133 = .ok (.aload_n 0, 1) := by decide +kernel
theorem dX5_aimAnew_134 : decode cX5_aimAnew 134 = .ok (.getfield 42, 3) := by decide +kernel
theorem dX5_aimAnew_137 : decode cX5_aimAnew 137 = .ok (.iload 7, 2) := by decide +kernel
theorem dX5_aimAnew_139 : decode cX5_aimAnew 139 = .ok (.iaload, 1) := by decide +kernel
theorem dX5_aimAnew_140 : decode cX5_aimAnew 140 = .ok (.faload, 1) := by decide +kernel
theorem dX5_aimAnew_141 : decode cX5_aimAnew 141 = .ok (.fsub, 1) := by decide +kernel
theorem dX5_aimAnew_142 : decode cX5_aimAnew 142 = .ok (.invokevirtual 141, 3) := by decide +kernel
theorem dX5_aimAnew_145 : decode cX5_aimAnew 145 = .ok (.iinc 4 1, 3) := by decide +kernel
theorem dX5_aimAnew_148 : decode cX5_aimAnew 148 = .ok (.goto (-105), 3) := by decide +kernel
theorem dX5_aimAnew_151 : decode cX5_aimAnew 151 = .ok (.aload_n 0, 1) := by decide +kernel
theorem dX5_aimAnew_152 : decode cX5_aimAnew 152 = .ok (.getfield 36, 3) := by decide +kernel
theorem dX5_aimAnew_155 : decode cX5_aimAnew 155 = .ok (.iload_n 1, 1) := by decide +kernel
theorem dX5_aimAnew_156 : decode cX5_aimAnew 156 = .ok (.iload_n 2, 1) := by decide +kernel
theorem dX5_aimAnew_157 : decode cX5_aimAnew 157 = .ok (.iload_n 3, 1) := by decide +kernel
theorem dX5_aimAnew_158 : decode cX5_aimAnew 158 = .ok (.invokestatic 111, 3) := by decide +kernel
theorem dX5_aimAnew_161 : decode cX5_aimAnew 161 = .ok (.iaload, 1) := by decide +kernel
theorem dX5_aimAnew_162 : decode cX5_aimAnew 162 = .ok (.i2f, 1) := by decide +kernel
theorem dX5_aimAnew_163 : decode cX5_aimAnew 163 = .ok (.aload_n 0, 1) := by decide +kernel
theorem dX5_aimAnew_164 : decode cX5_aimAnew 164 = .ok (.getfield 54, 3) := by decide +kernel
theorem dX5_aimAnew_167 : decode cX5_aimAnew 167 = .ok (.bipush 8, 2) := by decide +kernel
theorem dX5_aimAnew_169 : decode cX5_aimAnew 169 = .ok (.iload_n 3, 1) := by decide +kernel
theorem dX5_aimAnew_170 : decode cX5_aimAnew 170 = .ok (.imul, 1) := by decide +kernel
theorem dX5_aimAnew_171 : decode cX5_aimAnew 171 = .ok (.iload_n 2, 1) := by decide +kernel
theorem dX5_aimAnew_172 : decode cX5_aimAnew 172 = .ok (.iadd, 1) := by decide +kernel
theorem dX5_aimAnew_173 : decode cX5_aimAnew 173 = .ok (.faload, 1) := by decide +kernel
theorem dX5_aimAnew_174 : decode cX5_aimAnew 174 = .ok (.fadd, 1) := by decide +kernel
theorem dX5_aimAnew_175 : decode cX5_aimAnew 175 = .ok (.invokestatic 160, 3) := by decide +kernel
theorem dX5_aimAnew_178 : decode cX5_aimAnew 178 = .ok (.ireturn, 1) := by decide +kernel
theorem dX5_toneOf_0 : decode cX5_toneOf 0 = .ok (.aload_n 0, 1) := by decide +kernel
theorem dX5_toneOf_1 : decode cX5_toneOf 1 = .ok (.getfield 39, 3) := by decide +kernel
theorem dX5_toneOf_4 : decode cX5_toneOf 4 = .ok (.iload_n 1, 1) := by decide +kernel
theorem dX5_toneOf_5 : decode cX5_toneOf 5 = .ok (.iaload, 1) := by decide +kernel
theorem dX5_toneOf_6 : decode cX5_toneOf 6 = .ok (.iconst 3, 1) := by decide +kernel
theorem dX5_toneOf_7 : decode cX5_toneOf 7 = .ok (.if_icmp .ne 13, 3) := by decide +kernel
theorem dX5_toneOf_10 : decode cX5_toneOf 10 = .ok (.aload_n 0, 1) := by decide +kernel
theorem dX5_toneOf_11 : decode cX5_toneOf 11 = .ok (.getfield 36, 3) := by decide +kernel
theorem dX5_toneOf_14 : decode cX5_toneOf 14 = .ok (.iload_n 1, 1) := by decide +kernel
theorem dX5_toneOf_15 : decode cX5_toneOf 15 = .ok (.iaload, 1) := by decide +kernel
theorem dX5_toneOf_16 : decode cX5_toneOf 16 = .ok (.i2f, 1) := by decide +kernel
theorem dX5_toneOf_17 : decode cX5_toneOf 17 = .ok (.goto 14, 3) := by decide +kernel
theorem dX5_toneOf_20 : decode cX5_toneOf 20 = .ok (.aload_n 0, 1) := by decide +kernel
theorem dX5_toneOf_21 : decode cX5_toneOf 21 = .ok (.getfield 7, 3) := by decide +kernel
theorem dX5_toneOf_24 : decode cX5_toneOf 24 = .ok (.aload_n 0, 1) := by decide +kernel
theorem dX5_toneOf_25 : decode cX5_toneOf 25 = .ok (.getfield 42, 3) := by decide +kernel
theorem dX5_toneOf_28 : decode cX5_toneOf 28 = .ok (.iload_n 1, 1) := by decide +kernel
theorem dX5_toneOf_29 : decode cX5_toneOf 29 = .ok (.iaload, 1) := by decide +kernel
theorem dX5_toneOf_30 : decode cX5_toneOf 30 = .ok (.faload, 1) := by decide +kernel
theorem dX5_toneOf_31 : decode cX5_toneOf 31 = .ok (.freturn, 1) := by decide +kernel
set_option maxRecDepth 20000 in
theorem ggX5_apart_X5_toneOf : GoodIn wsX5_apart wsX5_toneOf := goodIn_r _ [7, 1, 2, 8, 9, 13, 14, 15, 16, 17, 18, 19, 20, 21, 22, 23, 24, 25, 26, 27, 28, 29, 30, 31, 32, 33, 34, 35, 36, 37, 38] (by decide +kernel) (by decide +kernel)
set_option maxRecDepth 20000 in
theorem gX5_apart_X5_toneOf : GoodIn wsX5_apart (wsV RX5 165 RX5 yX5_toneOf wsX5_toneOf) := goodIn_app (goodIn_of _ (by decide +kernel)) ggX5_apart_X5_toneOf
set_option maxRecDepth 20000 in
theorem ggX5_apart_X5_size : GoodIn wsX5_apart wsX5_size := goodIn_r _ [12] (by decide +kernel) (by decide +kernel)
set_option maxRecDepth 20000 in
theorem gX5_apart_X5_size : GoodIn wsX5_apart (va_wsS RX5 125 yX5_size wsX5_size) := goodIn_app (goodIn_of _ (by decide +kernel)) ggX5_apart_X5_size
theorem dX5_apart_0 : decode cX5_apart 0 = .ok (.aload_n 0, 1) := by decide +kernel
theorem dX5_apart_1 : decode cX5_apart 1 = .ok (.getfield 39, 3) := by decide +kernel
theorem dX5_apart_4 : decode cX5_apart 4 = .ok (.iload_n 1, 1) := by decide +kernel
theorem dX5_apart_5 : decode cX5_apart 5 = .ok (.iaload, 1) := by decide +kernel
theorem dX5_apart_6 : decode cX5_apart 6 = .ok (.ifCond .eq 12, 3) := by decide +kernel
theorem dX5_apart_9 : decode cX5_apart 9 = .ok (.aload_n 0, 1) := by decide +kernel
theorem dX5_apart_10 : decode cX5_apart 10 = .ok (.getfield 39, 3) := by decide +kernel
theorem dX5_apart_13 : decode cX5_apart 13 = .ok (.iload_n 2, 1) := by decide +kernel
theorem dX5_apart_14 : decode cX5_apart 14 = .ok (.iaload, 1) := by decide +kernel
theorem dX5_apart_15 : decode cX5_apart 15 = .ok (.ifCond .ne 5, 3) := by decide +kernel
theorem dX5_apart_18 : decode cX5_apart 18 = .ok (.fconst 0, 1) := by decide +kernel
theorem dX5_apart_19 : decode cX5_apart 19 = .ok (.freturn, 1) := by decide +kernel
theorem dX5_apart_20 : decode cX5_apart 20 = .ok (.aload_n 0, 1) := by decide +kernel
theorem dX5_apart_21 : decode cX5_apart 21 = .ok (.iload_n 1, 1) := by decide +kernel
theorem dX5_apart_22 : decode cX5_apart 22 = .ok (.invokevirtual 165, 3) := by decide +kernel
theorem dX5_apart_25 : decode cX5_apart 25 = .ok (.aload_n 0, 1) := by decide +kernel
theorem dX5_apart_26 : decode cX5_apart 26 = .ok (.iload_n 2, 1) := by decide +kernel
theorem dX5_apart_27 : decode cX5_apart 27 = .ok (.invokevirtual 165, 3) := by decide +kernel
theorem dX5_apart_30 : decode cX5_apart 30 = .ok (.fsub, 1) := by decide +kernel
theorem dX5_apart_31 : decode cX5_apart 31 = .ok (.aload_n 0, 1) := by decide +kernel
theorem dX5_apart_32 : decode cX5_apart 32 = .ok (.getfield 36, 3) := by decide +kernel
theorem dX5_apart_35 : decode cX5_apart 35 = .ok (.iload_n 1, 1) := by decide +kernel
theorem dX5_apart_36 : decode cX5_apart 36 = .ok (.iaload, 1) := by decide +kernel
theorem dX5_apart_37 : decode cX5_apart 37 = .ok (.i2f, 1) := by decide +kernel
theorem dX5_apart_38 : decode cX5_apart 38 = .ok (.aload_n 0, 1) := by decide +kernel
theorem dX5_apart_39 : decode cX5_apart 39 = .ok (.getfield 36, 3) := by decide +kernel
theorem dX5_apart_42 : decode cX5_apart 42 = .ok (.iload_n 2, 1) := by decide +kernel
theorem dX5_apart_43 : decode cX5_apart 43 = .ok (.iaload, 1) := by decide +kernel
theorem dX5_apart_44 : decode cX5_apart 44 = .ok (.i2f, 1) := by decide +kernel
theorem dX5_apart_45 : decode cX5_apart 45 = .ok (.fsub, 1) := by decide +kernel
theorem dX5_apart_46 : decode cX5_apart 46 = .ok (.fsub, 1) := by decide +kernel
theorem dX5_apart_47 : decode cX5_apart 47 = .ok (.invokestatic 125, 3) := by decide +kernel
theorem dX5_apart_50 : decode cX5_apart 50 = .ok (.freturn, 1) := by decide +kernel
set_option maxRecDepth 20000 in
theorem ggX5_edge_X5_isPicture : GoodIn wsX5_edge wsX5_isPicture := goodIn_r _ [7, 8, 9, 10, 6, 11, 47, 48, 49, 50, 51, 52, 53, 54, 55, 56, 57, 58, 59, 60, 61, 62, 63, 64, 65, 66, 67, 68, 69, 70, 71, 72] (by decide +kernel) (by decide +kernel)
set_option maxRecDepth 20000 in
theorem gX5_edge_X5_isPicture : GoodIn wsX5_edge (wsV RX5 92 RX5 yX5_isPicture wsX5_isPicture) := goodIn_app (goodIn_of _ (by decide +kernel)) ggX5_edge_X5_isPicture
set_option maxRecDepth 20000 in
theorem ggX5_edge_X5_asked : GoodIn wsX5_edge wsX5_asked := goodIn_r _ [15, 16, 47, 48, 49, 50, 51, 52, 53, 54, 55, 56, 57, 58, 59, 60, 61, 62, 63, 64, 65, 66, 67, 68, 69, 70, 71, 72] (by decide +kernel) (by decide +kernel)
set_option maxRecDepth 20000 in
theorem gX5_edge_X5_asked : GoodIn wsX5_edge (wsV RX5 122 RX5 yX5_asked wsX5_asked) := goodIn_app (goodIn_of _ (by decide +kernel)) ggX5_edge_X5_asked
set_option maxRecDepth 20000 in
theorem ggX5_edge_X5_cellOf : GoodIn wsX5_edge wsX5_cellOf := goodIn_r _ [19] (by decide +kernel) (by decide +kernel)
set_option maxRecDepth 20000 in
theorem gX5_edge_X5_cellOf : GoodIn wsX5_edge (va_wsS RX5 111 yX5_cellOf wsX5_cellOf) := goodIn_app (goodIn_of _ (by decide +kernel)) ggX5_edge_X5_cellOf
set_option maxRecDepth 20000 in
theorem ggX5_edge_X5_apart : GoodIn wsX5_edge wsX5_apart := goodIn_r _ [23, 24, 25, 26, 27, 28, 6, 29, 30, 31, 32, 33, 34, 47, 48, 49, 50, 51, 52, 53, 54, 55, 56, 57, 58, 59, 60, 61, 62, 63, 64, 65, 66, 67, 68, 69, 70, 71, 72] (by decide +kernel) (by decide +kernel)
set_option maxRecDepth 20000 in
theorem gX5_edge_X5_apart : GoodIn wsX5_edge (wsV RX5 169 RX5 yX5_apart wsX5_apart) := goodIn_app (goodIn_of _ (by decide +kernel)) ggX5_edge_X5_apart
set_option maxRecDepth 20000 in
theorem ggX5_edge_Jxf58ca_floatToIntBits_5c35a : GoodIn wsX5_edge wsJxf58ca_floatToIntBits_5c35a := goodIn_r _ [38, 39, 40, 41, 42, 43, 44, 45, 37, 46] (by decide +kernel) (by decide +kernel)
set_option maxRecDepth 20000 in
theorem gX5_edge_Jxf58ca_floatToIntBits_5c35a : GoodIn wsX5_edge (va_wsS RX5 160 yJxf58ca_floatToIntBits_5c35a wsJxf58ca_floatToIntBits_5c35a) := goodIn_app (goodIn_of _ (by decide +kernel)) ggX5_edge_Jxf58ca_floatToIntBits_5c35a
theorem dX5_edge_0 : decode cX5_edge 0 = .ok (.aload_n 0, 1) := by decide +kernel
theorem dX5_edge_1 : decode cX5_edge 1 = .ok (.aload_n 0, 1) := by decide +kernel
theorem dX5_edge_2 : decode cX5_edge 2 = .ok (.iload_n 1, 1) := by decide +kernel
theorem dX5_edge_3 : decode cX5_edge 3 = .ok (.invokevirtual 92, 3) := by decide +kernel
theorem dX5_edge_6 : decode cX5_edge 6 = .ok (.invokevirtual 122, 3) := by decide +kernel
theorem dX5_edge_9 : decode cX5_edge 9 = .ok (.ifCond .ne 5, 3) := by decide +kernel
theorem dX5_edge_12 : decode cX5_edge 12 = .ok (.iconst 0, 1) := by decide +kernel
theorem dX5_edge_13 : decode cX5_edge 13 = .ok (.ireturn, 1) := by decide +kernel
theorem dX5_edge_14 : decode cX5_edge 14 = .ok (.fconst 0, 1) := by decide +kernel
theorem dX5_edge_15 : decode cX5_edge 15 = .ok (.fstore_n 2, 1) := by decide +kernel
theorem dX5_edge_16 : decode cX5_edge 16 = .ok (.iconst 0, 1) := by decide +kernel
theorem dX5_edge_17 : decode cX5_edge 17 = .ok (.istore_n 3, 1) := by decide +kernel
theorem dX5_edge_18 : decode cX5_edge 18 = .ok (.iload_n 3, 1) := by decide +kernel
theorem dX5_edge_19 : decode cX5_edge 19 = .ok (.aload_n 0, 1) := by decide +kernel
theorem dX5_edge_20 : decode cX5_edge 20 = .ok (.getfield 33, 3) := by decide +kernel
theorem dX5_edge_23 : decode cX5_edge 23 = .ok (.iload_n 1, 1) := by decide +kernel
theorem dX5_edge_24 : decode cX5_edge 24 = .ok (.iaload, 1) := by decide +kernel
theorem dX5_edge_25 : decode cX5_edge 25 = .ok (.if_icmp .ge 124, 3) := by decide +kernel
theorem dX5_edge_28 : decode cX5_edge 28 = .ok (.iconst 0, 1) := by decide +kernel
theorem dX5_edge_29 : decode cX5_edge 29 = .ok (.istore 4, 2) := by decide +kernel
theorem dX5_edge_31 : decode cX5_edge 31 = .ok (.iload 4, 2) := by decide +kernel
theorem dX5_edge_33 : decode cX5_edge 33 = .ok (.aload_n 0, 1) := by decide +kernel
theorem dX5_edge_34 : decode cX5_edge 34 = .ok (.getfield 30, 3) := by decide +kernel
theorem dX5_edge_37 : decode cX5_edge 37 = .ok (.iload_n 1, 1) := by decide +kernel
theorem dX5_edge_38 : decode cX5_edge 38 = .ok (.iaload, 1) := by decide +kernel
theorem dX5_edge_39 : decode cX5_edge 39 = .ok (.if_icmp .ge 104, 3) := by decide +kernel
theorem dX5_edge_42 : decode cX5_edge 42 = .ok (.iload_n 1, 1) := by decide +kernel
theorem dX5_edge_43 : decode cX5_edge 43 = .ok (.iload 4, 2) := by decide +kernel
theorem dX5_edge_45 : decode cX5_edge 45 = .ok (.iload_n 3, 1) := by decide +kernel
theorem dX5_edge_46 : decode cX5_edge 46 = .ok (.invokestatic 111, 3) := by decide +kernel
theorem dX5_edge_49 : decode cX5_edge 49 = .ok (.istore 5, 2) := by decide +kernel
theorem dX5_edge_51 : decode cX5_edge 51 = .ok (.iload 4, 2) := by decide +kernel
theorem dX5_edge_53 : decode cX5_edge 53 = .ok (.iconst 1, 1) := by decide +kernel
theorem dX5_edge_54 : decode cX5_edge 54 = .ok (.iadd, 1) := by decide +kernel
theorem dX5_edge_55 : decode cX5_edge 55 = .ok (.aload_n 0, 1) := by decide +kernel
theorem dX5_edge_56 : decode cX5_edge 56 = .ok (.getfield 30, 3) := by decide +kernel
theorem dX5_edge_59 : decode cX5_edge 59 = .ok (.iload_n 1, 1) := by decide +kernel
theorem dX5_edge_60 : decode cX5_edge 60 = .ok (.iaload, 1) := by decide +kernel
theorem dX5_edge_61 : decode cX5_edge 61 = .ok (.if_icmp .ge 16, 3) := by decide +kernel
theorem dX5_edge_64 : decode cX5_edge 64 = .ok (.aload_n 0, 1) := by decide +kernel
theorem dX5_edge_65 : decode cX5_edge 65 = .ok (.iload 5, 2) := by decide +kernel
theorem dX5_edge_67 : decode cX5_edge 67 = .ok (.iload 5, 2) := by decide +kernel
theorem dX5_edge_69 : decode cX5_edge 69 = .ok (.iconst 1, 1) := by decide +kernel
theorem dX5_edge_70 : decode cX5_edge 70 = .ok (.iadd, 1) := by decide +kernel
theorem dX5_edge_71 : decode cX5_edge 71 = .ok (.invokevirtual 169, 3) := by decide +kernel
theorem dX5_edge_74 : decode cX5_edge 74 = .ok (.goto 4, 3) := by decide +kernel
theorem dX5_edge_77 : decode cX5_edge 77 = .ok (.fconst 0, 1) := by decide +kernel
theorem dX5_edge_78 : decode cX5_edge 78 = .ok (.fstore 6, 2) := by decide +kernel
theorem dX5_edge_80 : decode cX5_edge 80 = .ok (.iload_n 3, 1) := by decide +kernel
theorem dX5_edge_81 : decode cX5_edge 81 = .ok (.iconst 1, 1) := by decide +kernel
theorem dX5_edge_82 : decode cX5_edge 82 = .ok (.iadd, 1) := by decide +kernel
theorem dX5_edge_83 : decode cX5_edge 83 = .ok (.aload_n 0, 1) := by decide +kernel
theorem dX5_edge_84 : decode cX5_edge 84 = .ok (.getfield 33, 3) := by decide +kernel
theorem dX5_edge_87 : decode cX5_edge 87 = .ok (.iload_n 1, 1) := by decide +kernel
theorem dX5_edge_88 : decode cX5_edge 88 = .ok (.iaload, 1) := by decide +kernel
theorem dX5_edge_89 : decode cX5_edge 89 = .ok (.if_icmp .ge 17, 3) := by decide +kernel
theorem dX5_edge_92 : decode cX5_edge 92 = .ok (.aload_n 0, 1) := by decide +kernel
theorem dX5_edge_93 : decode cX5_edge 93 = .ok (.iload 5, 2) := by decide +kernel
theorem dX5_edge_95 : decode cX5_edge 95 = .ok (.iload 5, 2) := by decide +kernel
theorem dX5_edge_97 : decode cX5_edge 97 = .ok (.bipush 8, 2) := by decide +kernel
theorem dX5_edge_99 : decode cX5_edge 99 = .ok (.iadd, 1) := by decide +kernel
theorem dX5_edge_100 : decode cX5_edge 100 = .ok (.invokevirtual 169, 3) := by decide +kernel
theorem dX5_edge_103 : decode cX5_edge 103 = .ok (.goto 4, 3) := by decide +kernel
theorem dX5_edge_106 : decode cX5_edge 106 = .ok (.fconst 0, 1) := by decide +kernel
theorem dX5_edge_107 : decode cX5_edge 107 = .ok (.fstore 7, 2) := by decide +kernel
theorem dX5_edge_109 : decode cX5_edge 109 = .ok (.fload 6, 2) := by decide +kernel
theorem dX5_edge_111 : decode cX5_edge 111 = .ok (.fload_n 2, 1) := by decide +kernel
theorem dX5_edge_112 : decode cX5_edge 112 = .ok (.fcmp .l, 1) := by decide +kernel
theorem dX5_edge_113 : decode cX5_edge 113 = .ok (.ifCond .le 8, 3) := by decide +kernel
theorem dX5_edge_116 : decode cX5_edge 116 = .ok (.fload 6, 2) := by decide +kernel
theorem dX5_edge_118 : decode cX5_edge 118 = .ok (.goto 4, 3) := by decide +kernel
theorem dX5_edge_121 : decode cX5_edge 121 = .ok (.fload_n 2, 1) := by decide +kernel
theorem dX5_edge_122 : decode cX5_edge 122 = .ok (.fstore_n 2, 1) := by decide +kernel
theorem dX5_edge_123 : decode cX5_edge 123 = .ok (.fload 7, 2) := by decide +kernel
theorem dX5_edge_125 : decode cX5_edge 125 = .ok (.fload_n 2, 1) := by decide +kernel
theorem dX5_edge_126 : decode cX5_edge 126 = .ok (.fcmp .l, 1) := by decide +kernel
theorem dX5_edge_127 : decode cX5_edge 127 = .ok (.ifCond .le 8, 3) := by decide +kernel
theorem dX5_edge_130 : decode cX5_edge 130 = .ok (.fload 7, 2) := by decide +kernel
theorem dX5_edge_132 : decode cX5_edge 132 = .ok (.goto 4, 3) := by decide +kernel
theorem dX5_edge_135 : decode cX5_edge 135 = .ok (.fload_n 2, 1) := by decide +kernel
theorem dX5_edge_136 : decode cX5_edge 136 = .ok (.fstore_n 2, 1) := by decide +kernel
theorem dX5_edge_137 : decode cX5_edge 137 = .ok (.iinc 4 1, 3) := by decide +kernel
theorem dX5_edge_140 : decode cX5_edge 140 = .ok (.goto (-109), 3) := by decide +kernel
theorem dX5_edge_143 : decode cX5_edge 143 = .ok (.iinc 3 1, 3) := by decide +kernel
theorem dX5_edge_146 : decode cX5_edge 146 = .ok (.goto (-128), 3) := by decide +kernel
theorem dX5_edge_149 : decode cX5_edge 149 = .ok (.fload_n 2, 1) := by decide +kernel
theorem dX5_edge_150 : decode cX5_edge 150 = .ok (.invokestatic 160, 3) := by decide +kernel
theorem dX5_edge_153 : decode cX5_edge 153 = .ok (.ireturn, 1) := by decide +kernel
set_option maxRecDepth 20000 in
theorem ggX5_ofLot_X5_isLot : GoodIn wsX5_ofLot wsX5_isLot := goodIn_r _ [9, 10, 11, 12, 8, 13, 36, 37, 38, 39, 40, 41, 42, 43, 44, 45, 46, 47, 48, 49, 50, 51, 52, 53, 54, 55, 56, 57, 58, 59, 60, 61] (by decide +kernel) (by decide +kernel)
set_option maxRecDepth 20000 in
theorem gX5_ofLot_X5_isLot : GoodIn wsX5_ofLot (wsV RX5 101 RX5 yX5_isLot wsX5_isLot) := goodIn_app (goodIn_of _ (by decide +kernel)) ggX5_ofLot_X5_isLot
set_option maxRecDepth 20000 in
theorem ggX5_ofLot_X5_in : GoodIn wsX5_ofLot wsX5_in := goodIn_r _ [13] (by decide +kernel) (by decide +kernel)
set_option maxRecDepth 20000 in
theorem gX5_ofLot_X5_in : GoodIn wsX5_ofLot (va_wsS RX5 85 yX5_in wsX5_in) := goodIn_app (goodIn_of _ (by decide +kernel)) ggX5_ofLot_X5_in
set_option maxRecDepth 20000 in
theorem ggX5_ofLot_X5_asked_ : GoodIn wsX5_ofLot wsX5_asked_ := goodIn_r _ [17, 18, 36, 37, 38, 39, 40, 41, 42, 43, 44, 45, 46, 47, 48, 49, 50, 51, 52, 53, 54, 55, 56, 57, 58, 59, 60, 61] (by decide +kernel) (by decide +kernel)
set_option maxRecDepth 20000 in
theorem gX5_ofLot_X5_asked_ : GoodIn wsX5_ofLot (wsV RX5 96 RX5 yX5_asked_ wsX5_asked_) := goodIn_app (goodIn_of _ (by decide +kernel)) ggX5_ofLot_X5_asked_
set_option maxRecDepth 20000 in
theorem ggX5_ofLot_X5_left : GoodIn wsX5_ofLot wsX5_left := goodIn_r _ [22, 23, 1, 2, 36, 37, 38, 39, 40, 41, 42, 43, 44, 45, 46, 47, 48, 49, 50, 51, 52, 53, 54, 55, 56, 57, 58, 59, 60, 61] (by decide +kernel) (by decide +kernel)
set_option maxRecDepth 20000 in
theorem gX5_ofLot_X5_left : GoodIn wsX5_ofLot (wsV RX5 104 RX5 yX5_left wsX5_left) := goodIn_app (goodIn_of _ (by decide +kernel)) ggX5_ofLot_X5_left
set_option maxRecDepth 20000 in
theorem ggX5_ofLot_Jxf58ca_floatToIntBits_5c35a : GoodIn wsX5_ofLot wsJxf58ca_floatToIntBits_5c35a := goodIn_r _ [27, 28, 29, 30, 31, 32, 33, 34, 26, 35] (by decide +kernel) (by decide +kernel)
set_option maxRecDepth 20000 in
theorem gX5_ofLot_Jxf58ca_floatToIntBits_5c35a : GoodIn wsX5_ofLot (va_wsS RX5 160 yJxf58ca_floatToIntBits_5c35a wsJxf58ca_floatToIntBits_5c35a) := goodIn_app (goodIn_of _ (by decide +kernel)) ggX5_ofLot_Jxf58ca_floatToIntBits_5c35a
theorem dX5_ofLot_0 : decode cX5_ofLot 0 = .ok (.aload_n 0, 1) := by decide +kernel
theorem dX5_ofLot_1 : decode cX5_ofLot 1 = .ok (.aload_n 0, 1) := by decide +kernel
theorem dX5_ofLot_2 : decode cX5_ofLot 2 = .ok (.iload_n 1, 1) := by decide +kernel
theorem dX5_ofLot_3 : decode cX5_ofLot 3 = .ok (.invokevirtual 101, 3) := by decide +kernel
theorem dX5_ofLot_6 : decode cX5_ofLot 6 = .ok (.iload_n 2, 1) := by decide +kernel
theorem dX5_ofLot_7 : decode cX5_ofLot 7 = .ok (.iconst 0, 1) := by decide +kernel
theorem dX5_ofLot_8 : decode cX5_ofLot 8 = .ok (.iconst 4, 1) := by decide +kernel
theorem dX5_ofLot_9 : decode cX5_ofLot 9 = .ok (.invokestatic 85, 3) := by decide +kernel
theorem dX5_ofLot_12 : decode cX5_ofLot 12 = .ok (.invokevirtual 96, 3) := by decide +kernel
theorem dX5_ofLot_15 : decode cX5_ofLot 15 = .ok (.ifCond .ne 5, 3) := by decide +kernel
theorem dX5_ofLot_18 : decode cX5_ofLot 18 = .ok (.iconst 0, 1) := by decide +kernel
theorem dX5_ofLot_19 : decode cX5_ofLot 19 = .ok (.ireturn, 1) := by decide +kernel
theorem dX5_ofLot_20 : decode cX5_ofLot 20 = .ok (.iload_n 2, 1) := by decide +kernel
theorem dX5_ofLot_21 : decode cX5_ofLot 21 = .ok (.ifCond .ne 11, 3) := by decide +kernel
theorem dX5_ofLot_24 : decode cX5_ofLot 24 = .ok (.aload_n 0, 1) := by decide +kernel
theorem dX5_ofLot_25 : decode cX5_ofLot 25 = .ok (.iload_n 1, 1) := by decide +kernel
theorem dX5_ofLot_26 : decode cX5_ofLot 26 = .ok (.invokevirtual 104, 3) := by decide +kernel
theorem dX5_ofLot_29 : decode cX5_ofLot 29 = .ok (.goto 62, 3) := by decide +kernel
theorem dX5_ofLot_32 : decode cX5_ofLot 32 = .ok (.iload_n 2, 1) := by decide +kernel
theorem dX5_ofLot_33 : decode cX5_ofLot 33 = .ok (.iconst 1, 1) := by decide +kernel
theorem dX5_ofLot_34 : decode cX5_ofLot 34 = .ok (.if_icmp .ne 12, 3) := by decide +kernel
theorem dX5_ofLot_37 : decode cX5_ofLot 37 = .ok (.aload_n 0, 1) := by decide +kernel
theorem dX5_ofLot_38 : decode cX5_ofLot 38 = .ok (.getfield 24, 3) := by decide +kernel
theorem dX5_ofLot_41 : decode cX5_ofLot 41 = .ok (.iload_n 1, 1) := by decide +kernel
theorem dX5_ofLot_42 : decode cX5_ofLot 42 = .ok (.iaload, 1) := by decide +kernel
theorem dX5_ofLot_43 : decode cX5_ofLot 43 = .ok (.goto 48, 3) := by decide +kernel
theorem dX5_ofLot_46 : decode cX5_ofLot 46 = .ok (.iload_n 2, 1) := by decide +kernel
theorem dX5_ofLot_47 : decode cX5_ofLot 47 = .ok (.iconst 2, 1) := by decide +kernel
theorem dX5_ofLot_48 : decode cX5_ofLot 48 = .ok (.if_icmp .ne 12, 3) := by decide +kernel
theorem dX5_ofLot_51 : decode cX5_ofLot 51 = .ok (.aload_n 0, 1) := by decide +kernel
theorem dX5_ofLot_52 : decode cX5_ofLot 52 = .ok (.getfield 27, 3) := by decide +kernel
theorem dX5_ofLot_55 : decode cX5_ofLot 55 = .ok (.iload_n 1, 1) := by decide +kernel
theorem dX5_ofLot_56 : decode cX5_ofLot 56 = .ok (.iaload, 1) := by decide +kernel
theorem dX5_ofLot_57 : decode cX5_ofLot 57 = .ok (.goto 34, 3) := by decide +kernel
theorem dX5_ofLot_60 : decode cX5_ofLot 60 = .ok (.iload_n 2, 1) := by decide +kernel
theorem dX5_ofLot_61 : decode cX5_ofLot 61 = .ok (.iconst 3, 1) := by decide +kernel
theorem dX5_ofLot_62 : decode cX5_ofLot 62 = .ok (.if_icmp .ne 20, 3) := by decide +kernel
theorem dX5_ofLot_65 : decode cX5_ofLot 65 = .ok (.aload_n 0, 1) := by decide +kernel
theorem dX5_ofLot_66 : decode cX5_ofLot 66 = .ok (.getfield 20, 3) := by decide +kernel
theorem dX5_ofLot_69 : decode cX5_ofLot 69 = .ok (.iload_n 1, 1) := by decide +kernel
theorem dX5_ofLot_70 : decode cX5_ofLot 70 = .ok (.baload, 1) := by decide +kernel
theorem dX5_ofLot_71 : decode cX5_ofLot 71 = .ok (.ifCond .eq 7, 3) := by decide +kernel
theorem dX5_ofLot_74 : decode cX5_ofLot 74 = .ok (.iconst 1, 1) := by decide +kernel
theorem dX5_ofLot_75 : decode cX5_ofLot 75 = .ok (.goto 16, 3) := by decide +kernel
theorem dX5_ofLot_78 : decode cX5_ofLot 78 = .ok (.iconst 0, 1) := by decide +kernel
theorem dX5_ofLot_79 : decode cX5_ofLot 79 = .ok (.goto 12, 3) := by decide +kernel
theorem dX5_ofLot_82 : decode cX5_ofLot 82 = .ok (.aload_n 0, 1) := by decide +kernel
theorem dX5_ofLot_83 : decode cX5_ofLot 83 = .ok (.getfield 7, 3) := by decide +kernel
theorem dX5_ofLot_86 : decode cX5_ofLot 86 = .ok (.iload_n 1, 1) := by decide +kernel
theorem dX5_ofLot_87 : decode cX5_ofLot 87 = .ok (.faload, 1) := by decide +kernel
theorem dX5_ofLot_88 : decode cX5_ofLot 88 = .ok (.invokestatic 160, 3) := by decide +kernel
theorem dX5_ofLot_91 : decode cX5_ofLot 91 = .ok (.ireturn, 1) := by decide +kernel
set_option maxRecDepth 20000 in
theorem ggX5_ofPicture_X5_isPicture : GoodIn wsX5_ofPicture wsX5_isPicture := goodIn_r _ [5, 6, 7, 8, 4, 9, 25, 26, 27, 28, 29, 30, 31, 32, 33, 34, 35, 36, 37, 38, 39, 40, 41, 42, 43, 44, 45, 46, 47, 48, 49, 50] (by decide +kernel) (by decide +kernel)
set_option maxRecDepth 20000 in
theorem gX5_ofPicture_X5_isPicture : GoodIn wsX5_ofPicture (wsV RX5 92 RX5 yX5_isPicture wsX5_isPicture) := goodIn_app (goodIn_of _ (by decide +kernel)) ggX5_ofPicture_X5_isPicture
set_option maxRecDepth 20000 in
theorem ggX5_ofPicture_X5_in : GoodIn wsX5_ofPicture wsX5_in := goodIn_r _ [9] (by decide +kernel) (by decide +kernel)
set_option maxRecDepth 20000 in
theorem gX5_ofPicture_X5_in : GoodIn wsX5_ofPicture (va_wsS RX5 85 yX5_in wsX5_in) := goodIn_app (goodIn_of _ (by decide +kernel)) ggX5_ofPicture_X5_in
set_option maxRecDepth 20000 in
theorem ggX5_ofPicture_X5_asked_ : GoodIn wsX5_ofPicture wsX5_asked_ := goodIn_r _ [13, 14, 25, 26, 27, 28, 29, 30, 31, 32, 33, 34, 35, 36, 37, 38, 39, 40, 41, 42, 43, 44, 45, 46, 47, 48, 49, 50] (by decide +kernel) (by decide +kernel)
set_option maxRecDepth 20000 in
theorem gX5_ofPicture_X5_asked_ : GoodIn wsX5_ofPicture (wsV RX5 96 RX5 yX5_asked_ wsX5_asked_) := goodIn_app (goodIn_of _ (by decide +kernel)) ggX5_ofPicture_X5_asked_
set_option maxRecDepth 20000 in
theorem ggX5_ofPicture_X5_count : GoodIn wsX5_ofPicture wsX5_count := goodIn_r _ [18, 19, 20, 21, 22, 23, 4, 24, 25, 26, 27, 28, 29, 30, 31, 32, 33, 34, 35, 36, 37, 38, 39, 40, 41, 42, 43, 44, 45, 46, 47, 48, 49, 50] (by decide +kernel) (by decide +kernel)
set_option maxRecDepth 20000 in
theorem gX5_ofPicture_X5_count : GoodIn wsX5_ofPicture (wsV RX5 118 RX5 yX5_count wsX5_count) := goodIn_app (goodIn_of _ (by decide +kernel)) ggX5_ofPicture_X5_count
theorem dX5_ofPicture_0 : decode cX5_ofPicture 0 = .ok (.aload_n 0, 1) := by decide +kernel
theorem dX5_ofPicture_1 : decode cX5_ofPicture 1 = .ok (.aload_n 0, 1) := by decide +kernel
theorem dX5_ofPicture_2 : decode cX5_ofPicture 2 = .ok (.iload_n 1, 1) := by decide +kernel
theorem dX5_ofPicture_3 : decode cX5_ofPicture 3 = .ok (.invokevirtual 92, 3) := by decide +kernel
theorem dX5_ofPicture_6 : decode cX5_ofPicture 6 = .ok (.iload_n 2, 1) := by decide +kernel
theorem dX5_ofPicture_7 : decode cX5_ofPicture 7 = .ok (.iconst 0, 1) := by decide +kernel
theorem dX5_ofPicture_8 : decode cX5_ofPicture 8 = .ok (.iconst 3, 1) := by decide +kernel
theorem dX5_ofPicture_9 : decode cX5_ofPicture 9 = .ok (.invokestatic 85, 3) := by decide +kernel
theorem dX5_ofPicture_12 : decode cX5_ofPicture 12 = .ok (.invokevirtual 96, 3) := by decide +kernel
theorem dX5_ofPicture_15 : decode cX5_ofPicture 15 = .ok (.ifCond .eq 12, 3) := by decide +kernel
theorem dX5_ofPicture_18 : decode cX5_ofPicture 18 = .ok (.aload_n 0, 1) := by decide +kernel
theorem dX5_ofPicture_19 : decode cX5_ofPicture 19 = .ok (.iload_n 1, 1) := by decide +kernel
theorem dX5_ofPicture_20 : decode cX5_ofPicture 20 = .ok (.iload_n 2, 1) := by decide +kernel
theorem dX5_ofPicture_21 : decode cX5_ofPicture 21 = .ok (.invokevirtual 118, 3) := by decide +kernel
theorem dX5_ofPicture_24 : decode cX5_ofPicture 24 = .ok (.goto 4, 3) := by decide +kernel
theorem dX5_ofPicture_27 : decode cX5_ofPicture 27 = .ok (.iconst 0, 1) := by decide +kernel
theorem dX5_ofPicture_28 : decode cX5_ofPicture 28 = .ok (.ireturn, 1) := by decide +kernel
set_option maxRecDepth 20000 in
theorem ggX5_ofCrew_X5_isCrew : GoodIn wsX5_ofCrew wsX5_isCrew := goodIn_r _ [7, 8, 9, 6, 10] (by decide +kernel) (by decide +kernel)
set_option maxRecDepth 20000 in
theorem gX5_ofCrew_X5_isCrew : GoodIn wsX5_ofCrew (va_wsS RX5 144 yX5_isCrew wsX5_isCrew) := goodIn_app (goodIn_of _ (by decide +kernel)) ggX5_ofCrew_X5_isCrew
set_option maxRecDepth 20000 in
theorem ggX5_ofCrew_X5_in : GoodIn wsX5_ofCrew wsX5_in := goodIn_r _ [10] (by decide +kernel) (by decide +kernel)
set_option maxRecDepth 20000 in
theorem gX5_ofCrew_X5_in : GoodIn wsX5_ofCrew (va_wsS RX5 85 yX5_in wsX5_in) := goodIn_app (goodIn_of _ (by decide +kernel)) ggX5_ofCrew_X5_in
set_option maxRecDepth 20000 in
theorem ggX5_ofCrew_X5_asked_ : GoodIn wsX5_ofCrew wsX5_asked_ := goodIn_r _ [14, 15, 21, 22, 23, 24, 25, 26, 27, 28, 29, 30, 31, 32, 33, 34, 35, 36, 37, 38, 39, 40, 41, 42, 43, 44, 45, 46] (by decide +kernel) (by decide +kernel)
set_option maxRecDepth 20000 in
theorem gX5_ofCrew_X5_asked_ : GoodIn wsX5_ofCrew (wsV RX5 96 RX5 yX5_asked_ wsX5_asked_) := goodIn_app (goodIn_of _ (by decide +kernel)) ggX5_ofCrew_X5_asked_
set_option maxRecDepth 20000 in
theorem ggX5_ofCrew_X5_onTray : GoodIn wsX5_ofCrew wsX5_onTray := goodIn_r _ [19, 20, 21, 22, 23, 24, 25, 26, 27, 28, 29, 30, 31, 32, 33, 34, 35, 36, 37, 38, 39, 40, 41, 42, 43, 44, 45, 46] (by decide +kernel) (by decide +kernel)
set_option maxRecDepth 20000 in
theorem gX5_ofCrew_X5_onTray : GoodIn wsX5_ofCrew (wsV RX5 147 RX5 yX5_onTray wsX5_onTray) := goodIn_app (goodIn_of _ (by decide +kernel)) ggX5_ofCrew_X5_onTray
theorem dX5_ofCrew_0 : decode cX5_ofCrew 0 = .ok (.aload_n 0, 1) := by decide +kernel
theorem dX5_ofCrew_1 : decode cX5_ofCrew 1 = .ok (.iload_n 1, 1) := by decide +kernel
theorem dX5_ofCrew_2 : decode cX5_ofCrew 2 = .ok (.invokestatic 144, 3) := by decide +kernel
theorem dX5_ofCrew_5 : decode cX5_ofCrew 5 = .ok (.iload_n 2, 1) := by decide +kernel
theorem dX5_ofCrew_6 : decode cX5_ofCrew 6 = .ok (.iconst 0, 1) := by decide +kernel
theorem dX5_ofCrew_7 : decode cX5_ofCrew 7 = .ok (.iconst 3, 1) := by decide +kernel
theorem dX5_ofCrew_8 : decode cX5_ofCrew 8 = .ok (.invokestatic 85, 3) := by decide +kernel
theorem dX5_ofCrew_11 : decode cX5_ofCrew 11 = .ok (.invokevirtual 96, 3) := by decide +kernel
theorem dX5_ofCrew_14 : decode cX5_ofCrew 14 = .ok (.ifCond .ne 5, 3) := by decide +kernel
theorem dX5_ofCrew_17 : decode cX5_ofCrew 17 = .ok (.iconst 0, 1) := by decide +kernel
theorem dX5_ofCrew_18 : decode cX5_ofCrew 18 = .ok (.ireturn, 1) := by decide +kernel
theorem dX5_ofCrew_19 : decode cX5_ofCrew 19 = .ok (.iload_n 2, 1) := by decide +kernel
theorem dX5_ofCrew_20 : decode cX5_ofCrew 20 = .ok (.ifCond .ne 12, 3) := by decide +kernel
theorem dX5_ofCrew_23 : decode cX5_ofCrew 23 = .ok (.aload_n 0, 1) := by decide +kernel
theorem dX5_ofCrew_24 : decode cX5_ofCrew 24 = .ok (.getfield 60, 3) := by decide +kernel
theorem dX5_ofCrew_27 : decode cX5_ofCrew 27 = .ok (.iload_n 1, 1) := by decide +kernel
theorem dX5_ofCrew_28 : decode cX5_ofCrew 28 = .ok (.iaload, 1) := by decide +kernel
theorem dX5_ofCrew_29 : decode cX5_ofCrew 29 = .ok (.goto 36, 3) := by decide +kernel
theorem dX5_ofCrew_32 : decode cX5_ofCrew 32 = .ok (.iload_n 2, 1) := by decide +kernel
theorem dX5_ofCrew_33 : decode cX5_ofCrew 33 = .ok (.iconst 1, 1) := by decide +kernel
theorem dX5_ofCrew_34 : decode cX5_ofCrew 34 = .ok (.if_icmp .ne 12, 3) := by decide +kernel
theorem dX5_ofCrew_37 : decode cX5_ofCrew 37 = .ok (.aload_n 0, 1) := by decide +kernel
theorem dX5_ofCrew_38 : decode cX5_ofCrew 38 = .ok (.getfield 69, 3) := by decide +kernel
theorem dX5_ofCrew_41 : decode cX5_ofCrew 41 = .ok (.iload_n 1, 1) := by decide +kernel
theorem dX5_ofCrew_42 : decode cX5_ofCrew 42 = .ok (.iaload, 1) := by decide +kernel
theorem dX5_ofCrew_43 : decode cX5_ofCrew 43 = .ok (.goto 22, 3) := by decide +kernel
theorem dX5_ofCrew_46 : decode cX5_ofCrew 46 = .ok (.iload_n 2, 1) := by decide +kernel
theorem dX5_ofCrew_47 : decode cX5_ofCrew 47 = .ok (.iconst 2, 1) := by decide +kernel
theorem dX5_ofCrew_48 : decode cX5_ofCrew 48 = .ok (.if_icmp .ne 11, 3) := by decide +kernel
theorem dX5_ofCrew_51 : decode cX5_ofCrew 51 = .ok (.aload_n 0, 1) := by decide +kernel
theorem dX5_ofCrew_52 : decode cX5_ofCrew 52 = .ok (.iload_n 1, 1) := by decide +kernel
theorem dX5_ofCrew_53 : decode cX5_ofCrew 53 = .ok (.invokevirtual 147, 3) := by decide +kernel
theorem dX5_ofCrew_56 : decode cX5_ofCrew 56 = .ok (.goto 9, 3) := by decide +kernel
theorem dX5_ofCrew_59 : decode cX5_ofCrew 59 = .ok (.aload_n 0, 1) := by decide +kernel
theorem dX5_ofCrew_60 : decode cX5_ofCrew 60 = .ok (.getfield 75, 3) := by decide +kernel
theorem dX5_ofCrew_63 : decode cX5_ofCrew 63 = .ok (.iload_n 1, 1) := by decide +kernel
theorem dX5_ofCrew_64 : decode cX5_ofCrew 64 = .ok (.iaload, 1) := by decide +kernel
theorem dX5_ofCrew_65 : decode cX5_ofCrew 65 = .ok (.ireturn, 1) := by decide +kernel
theorem dJxf58ca_isNaN_12338_0 : decode cJxf58ca_isNaN_12338 0 = .ok (.fload_n 0, 1) := by decide +kernel
theorem dJxf58ca_isNaN_12338_1 : decode cJxf58ca_isNaN_12338 1 = .ok (.fload_n 0, 1) := by decide +kernel
theorem dJxf58ca_isNaN_12338_2 : decode cJxf58ca_isNaN_12338 2 = .ok (.fcmp .l, 1) := by decide +kernel
theorem dJxf58ca_isNaN_12338_3 : decode cJxf58ca_isNaN_12338 3 = .ok (.ifCond .eq 7, 3) := by decide +kernel
theorem dJxf58ca_isNaN_12338_6 : decode cJxf58ca_isNaN_12338 6 = .ok (.iconst 1, 1) := by decide +kernel
theorem dJxf58ca_isNaN_12338_7 : decode cJxf58ca_isNaN_12338 7 = .ok (.goto 4, 3) := by decide +kernel
theorem dJxf58ca_isNaN_12338_10 : decode cJxf58ca_isNaN_12338 10 = .ok (.iconst 0, 1) := by decide +kernel
theorem dJxf58ca_isNaN_12338_11 : decode cJxf58ca_isNaN_12338 11 = .ok (.ireturn, 1) := by decide +kernel
set_option maxRecDepth 20000 in
theorem ggJxf58ca_floatToIntBits_5c35a_Jxf58ca_isNaN_12338 : GoodIn wsJxf58ca_floatToIntBits_5c35a wsJxf58ca_isNaN_12338 := goodIn_r _ [9] (by decide +kernel) (by decide +kernel)
set_option maxRecDepth 20000 in
theorem gJxf58ca_floatToIntBits_5c35a_Jxf58ca_isNaN_12338 : GoodIn wsJxf58ca_floatToIntBits_5c35a (va_wsS RJxf58ca 59 yJxf58ca_isNaN_12338 wsJxf58ca_isNaN_12338) := goodIn_app (goodIn_of _ (by decide +kernel)) ggJxf58ca_floatToIntBits_5c35a_Jxf58ca_isNaN_12338
theorem dJxf58ca_floatToIntBits_5c35a_0 : decode cJxf58ca_floatToIntBits_5c35a 0 = .ok (.fload_n 0, 1) := by decide +kernel
theorem dJxf58ca_floatToIntBits_5c35a_1 : decode cJxf58ca_floatToIntBits_5c35a 1 = .ok (.invokestatic 59, 3) := by decide +kernel
theorem dJxf58ca_floatToIntBits_5c35a_4 : decode cJxf58ca_floatToIntBits_5c35a 4 = .ok (.ifCond .ne 8, 3) := by decide +kernel
theorem dJxf58ca_floatToIntBits_5c35a_7 : decode cJxf58ca_floatToIntBits_5c35a 7 = .ok (.fload_n 0, 1) := by decide +kernel
theorem dJxf58ca_floatToIntBits_5c35a_8 : decode cJxf58ca_floatToIntBits_5c35a 8 = .ok (.invokestatic 74, 3) := by decide +kernel
theorem dJxf58ca_floatToIntBits_5c35a_11 : decode cJxf58ca_floatToIntBits_5c35a 11 = .ok (.ireturn, 1) := by decide +kernel
theorem dJxf58ca_floatToIntBits_5c35a_12 : decode cJxf58ca_floatToIntBits_5c35a 12 = .ok (.ldc 77, 2) := by decide +kernel
theorem dJxf58ca_floatToIntBits_5c35a_14 : decode cJxf58ca_floatToIntBits_5c35a 14 = .ok (.ireturn, 1) := by decide +kernel
abbrev vwCl : List vw_C := [(RX0, TX0, 10), (RX1, TX1, 7), (RX2, TX2, 7), (RX3, TX3, 4), (RX4, TX4, 6), (RX5, TX5, 26)]
