/-! words that no method's own list holds: String constants, array classes over classes, a nest's link; contracts that want them -/
def zTx : List (Nat × String) := [(182, "out of range"), (38, "there are 12 lots"), (186, "no such lot"), (55, "the lot is there"), (63, "there are 5 pictures"), (189, "no such picture"), (195, "no such cell"), (78, "the cell is laid or old"), (86, "the cell is not open"), (106, "both lots are the same"), (197, "no such crew")]
def zWs : List Cond := [.castable "java/lang/IllegalArgumentException" "java/lang/IllegalArgumentException", .castable "java/lang/IllegalStateException" "java/lang/IllegalStateException", .castable "java/lang/IndexOutOfBoundsException" "java/lang/IndexOutOfBoundsException", .declares (Bundle.initS "java/lang/RuntimeException"), .declares (Bundle.initS "java/lang/Exception"), .declares (Bundle.initS "java/lang/Throwable")]
def SZr (U : State) : Prop := (∀ q ∈ zTx, ∃ sa, vk_R RX4 q.1 q.2 sa U) ∧ (∀ w ∈ zWs, w.before #[] U = true) ∧ (va_AO RX0 U ∧ va_AO RX1 U ∧ va_AO RX2 U ∧ va_AO RX3 U) ∧ va_Nw (.methodLinkNest RX4 27 yX1_init RX4) U
theorem zz_cast {A B : String} {s U : State} (hW : s.WarmedH U.vm) (h : (Cond.castable A B).before #[] s = true) : (Cond.castable A B).before #[] U = true := va_tabs (u := s.setVm U.vm) rfl rfl (by rw [Cond.castable_setVm hW.alike]; exact h)
theorem zz_nest {A B : String} {k : Nat} {x : MethodName} {s U : State} (hW : s.WarmedH U.vm) (h : va_Nw (.methodLinkNest A k x B) s) : va_Nw (.methodLinkNest A k x B) U := va_tabs (u := s.setVm U.vm) rfl rfl (Cond.methodLinkNest_warmed hW h)
theorem zWs_all {P : Cond → Prop} (h : ∀ w ∈ zWs, P w) : P (.castable "java/lang/IllegalArgumentException" "java/lang/IllegalArgumentException") ∧ P (.castable "java/lang/IllegalStateException" "java/lang/IllegalStateException") ∧ P (.castable "java/lang/IndexOutOfBoundsException" "java/lang/IndexOutOfBoundsException") ∧ P (.declares (Bundle.initS "java/lang/RuntimeException")) ∧ P (.declares (Bundle.initS "java/lang/Exception")) ∧ P (.declares (Bundle.initS "java/lang/Throwable")) := ⟨h _ (List.mem_of_getElem? (i := 0) rfl), h _ (List.mem_of_getElem? (i := 1) rfl), h _ (List.mem_of_getElem? (i := 2) rfl), h _ (List.mem_of_getElem? (i := 3) rfl), h _ (List.mem_of_getElem? (i := 4) rfl), h _ (List.mem_of_getElem? (i := 5) rfl)⟩
theorem zWs_of {P : Cond → Prop} (h : P (.castable "java/lang/IllegalArgumentException" "java/lang/IllegalArgumentException") ∧ P (.castable "java/lang/IllegalStateException" "java/lang/IllegalStateException") ∧ P (.castable "java/lang/IndexOutOfBoundsException" "java/lang/IndexOutOfBoundsException") ∧ P (.declares (Bundle.initS "java/lang/RuntimeException")) ∧ P (.declares (Bundle.initS "java/lang/Exception")) ∧ P (.declares (Bundle.initS "java/lang/Throwable"))) : ∀ w ∈ zWs, P w := by
  intro w hw
  obtain ⟨h1, h2, h3, h4, h5, h6⟩ := h
  have hw : w ∈ [_, _, _, _, _, _] := hw
  simp only [List.mem_cons, List.not_mem_nil, or_false] at hw
  rcases hw with rfl | rfl | rfl | rfl | rfl | rfl
  · exact h1
  · exact h2
  · exact h3
  · exact h4
  · exact h5
  · exact h6
/-- what a throw wants of the words, out of the method's own list and SZ -/
theorem zz_hat {args : Array Value} {s : State} {ic : Nat} {cls : String} {Ts : List Cond} (hts : ∀ w ∈ Ts, w.before args s = true) (hz : SZr s) (h1 : ∀ w ∈ (vx_atS RX4 ic cls ["java/lang/RuntimeException", "java/lang/Exception"]).filter goodWord, w ∈ Ts) (h2 : ∀ w ∈ (vx_atS RX4 ic cls ["java/lang/RuntimeException", "java/lang/Exception"]).filter (fun w => !goodWord w), w ∈ zWs) : ∀ w ∈ vx_atS RX4 ic cls ["java/lang/RuntimeException", "java/lang/Exception"], w.before args s = true := vx_hat (B := zWs) (fun w hw => hts w (h1 w hw)) h2 (zWs_of (by
  obtain ⟨q1, q2, q3, q4, q5, q6⟩ := zWs_all hz.2.1
  exact ⟨va_tabs rfl rfl q1, va_tabs rfl rfl q2, va_tabs rfl rfl q3, va_tabs rfl rfl q4, va_tabs rfl rfl q5, va_tabs rfl rfl q6⟩))
theorem SZr.moves : hSZ SZr := by
  refine ⟨fun u U hv z => ⟨fun q hq => ?_, ?_, ?_, ?_⟩, fun u U hW z => ⟨fun q hq => ?_, ?_, ?_, ?_⟩⟩
  · obtain ⟨sa, h⟩ := z.1 q hq
    exact ⟨sa, h.same hv⟩
  · obtain ⟨q1, q2, q3, q4, q5, q6⟩ := zWs_all z.2.1
    exact zWs_of ⟨va_tabs rfl hv.symm q1, va_tabs rfl hv.symm q2, va_tabs rfl hv.symm q3, va_tabs rfl hv.symm q4, va_tabs rfl hv.symm q5, va_tabs rfl hv.symm q6⟩
  · have ha : u.vm.Alike U.vm := by rw [hv]; exact Vm.Alike.refl _
    exact ⟨z.2.2.1.1.moved ha, z.2.2.1.2.1.moved ha, z.2.2.1.2.2.1.moved ha, z.2.2.1.2.2.2.moved ha⟩
  · exact va_tabs rfl hv.symm z.2.2.2
  · obtain ⟨sa, h⟩ := z.1 q hq
    exact ⟨sa, h.warm hW⟩
  · obtain ⟨q1, q2, q3, q4, q5, q6⟩ := zWs_all z.2.1
    exact zWs_of ⟨zz_cast hW q1, zz_cast hW q2, zz_cast hW q3, va_Nw.warmD hW q4, va_Nw.warmD hW q5, va_Nw.warmD hW q6⟩
  · have ha := hW.alike
    exact ⟨z.2.2.1.1.moved ha, z.2.2.1.2.1.moved ha, z.2.2.1.2.2.1.moved ha, z.2.2.1.2.2.2.moved ha⟩
  · exact zz_nest hW z.2.2.2
def hPs (D : va_G) (cA : Nat → ClassId) (bs : Nat) (SZ : State → Prop) (h : hE) (as : List Value) : Array Value → State → Prop := va_Pc as (fun U => bs ≤ U.heap.size ∧ hRp D bs h U.heap ∧ va_K D vwCl (tyl cA) U ∧ SZ U)
theorem hPs.blind {D : va_G} {cA : Nat → ClassId} {bs : Nat} {SZ : State → Prop} (z : hSZ SZ) {h : hE} {as : List Value} : FrameBlind (hPs D cA bs SZ h as) := fun a U g mk q => by
  obtain ⟨q0, q1, q2, q3, q5⟩ := q
  exact ⟨q0, q1, q2, va_K.moved (u := U) (U := U.calling g mk a) (Vm.Alike.refl U.vm) q3, z.1 U _ rfl q5⟩
def Ms (l : Launch) (D : va_G) (cA : Nat → ClassId) (bs : Nat) (SZ : State → Prop) (y : MethodName) (ws : List Cond) (rm : Room) (as : List Value) (h : hE) (Post : Option Value → hE → Prop) : Prop := Met l y ws rm (hPs D cA bs SZ h as) (hQ D cA bs Post) rm.cells rm.slots (fun q => bs ≤ q)
theorem Ms_of {l : Launch} {D : va_G} {cA : Nat → ClassId} {bs : Nat} {SZ : State → Prop} {y : MethodName} {ws ws' : List Cond} {rm : Room} {as : List Value} {h : hE} {Post : Option Value → hE → Prop} {cc : ByteArray} {maxL : Nat} {ret : Option FieldType} {own : String} (ls0 : List (Option Value))
    (hw : ws = Cond.code y cc maxL ret :: ws') (hy : plainName y.cls = true) (hown : y.cls = own) (hc : hcat as = true) (hlen : as.length ≤ maxL) (hls : as.map some ++ List.replicate (maxL - as.length) none = ls0)
    (body : ∀ (p : Program) (e : Env) (s : State) (m : MethodId) (args : Array Value) (below : List Frame) (meth : Method) (c : Code), Cx p s m meth c cc maxL args ws own D cA bs → meth.sig.returnType = ret → meth.name = y.name → SZ s → V p l e rm s m args below meth c D bs maxL h 0 0 (MQ below (hQ D cA bs Post) args s rm.cells rm.slots (fun q => bs ≤ q)) 0 ls0 []) : Ms l D cA bs SZ y ws rm as h Post := by
  refine Met.ofW (cc := cc) (maxL := maxL) (ret := ret) hy hw ?_
  intro p e s m args below meth c s₁ B hml hv
  obtain ⟨rfl, hbs, hR, hK, hsz⟩ := hv
  have hown2 : s.vm.findClass own = some m.cls := by rw [← hown]; exact findClass_of_methodNamed B.named
  have hl := lvo_entry (nL := maxL) (hcat_of hc) hlen
  rw [hls] at hl
  rw [lg_entry_eq]
  exact body p e s m _ below meth c ⟨⟨B.exec, B.bytes, hml, hown2, atoms_spec (ws := ws) B.pre⟩, hK, hbs, B.notSynchronized⟩ B.returns (name_of_methodNamed B.named B.method).1 hsz s.heap [] _ hR va_S.rf hl
section VM3
variable {p : Program} {l : Launch} {e : Env} {R : Room} {s : State} {m : MethodId} {args : Array Value} {below : List Frame} {meth : Method} {c : Code} {D : va_G} {cA : Nat → ClassId} {bs nL : Nat} {h : hE} {cells slots : Nat} {Q : State → Prop} {pc : Nat} {ls : List (Option Value)} {rest : List Value} {cc : ByteArray} {Ts : List Cond} {own : String}
theorem V_scallI (C : Cx p s m meth c cc nL args Ts own D cA bs) {idx n maxL : Nat} {y : MethodName} {ws ws' : List Cond} {rm : Room} {bytes : ByteArray} {As st : List Value} {Post : Option Value → hE → Prop} {SZ : State → Prop} {b : Nat} (hM : Ms l D cA bs SZ y ws rm (.ref b :: As) h Post) (hdg : decode cc pc = .ok (.invokespecial idx, 3)) (hT : GoodIn Ts ws) (hw : ws = Cond.code y bytes maxL none :: ws') (hini : Cond.initialized y.cls ∈ Ts) (hlk2 : Cond.methodLink own idx y ∈ Ts) (hin2 : Cond.instanceMethod y ∈ Ts) (hy1 : y.name = "<init>") (hd : y.cls ≠ "java/lang/invoke/MethodHandle" ∧ y.cls ≠ "java/lang/invoke/VarHandle" ∧ (parseMethodDescriptor y.desc).map (fun d => d.parameters.length) = some n) (hn : As.length = n) (hst : As.reverse ++ .ref b :: rest = st) (hcat8 : (rest.map fun v => v.category).sum ≤ 8) (hf : cells + rm.cells ≤ R.cells ∧ slots + rm.slots ≤ R.slots) (hRm : rm.frames + 1 ≤ R.frames ∧ 8 + (maxL + 11) + rm.locals ≤ R.locals) (hz1 : hSZ SZ) (hz2 : SZ s)
    (kk : ∀ (v : Option Value) (h2 : hE), Post v h2 → V p l e R s m args below meth c D bs nL h2 (cells + rm.cells) (slots + rm.slots) Q (pc + 3) (ls) (v.toList ++ rest)) : V p l e R s m args below meth c D bs nL h cells slots Q (pc) (ls) (st) := by
  obtain ⟨⟨hx, hb, hml, hown, hts⟩, hK, hbs, hlkm⟩ := C
  intro H locs la hR hS hl
  subst hst
  exact V_back (va_runI ⟨hx, hb, hml, hown, hts⟩ hM (cwI n hts hT hw rfl rfl (hts _ hini) (hts _ hlk2) (hts _ hin2) hy1 hd hRm) ⟨hPs.blind hz1, fun U hU hW => ⟨rfl, by rw [hU]; exact Nat.le_trans hbs hS.1, by rw [hU]; exact hR, va_K.moved hW.alike hK, hz1.2 s U hW hz2⟩⟩ rfl hn (hl.1) rfl (lv_room hcat8) hdg hf) hbs hS hl kk
theorem V_scallIN (C : Cx p s m meth c cc nL args Ts own D cA bs) {idx n maxL : Nat} {y : MethodName} {ws ws' : List Cond} {rm : Room} {bytes : ByteArray} {As st : List Value} {Post : Option Value → hE → Prop} {SZ : State → Prop} {b : Nat} {host : String} (hM : Ms l D cA bs SZ y ws rm (.ref b :: As) h Post) (hdg : decode cc pc = .ok (.invokespecial idx, 3)) (hT : GoodIn Ts ws) (hw : ws = Cond.code y bytes maxL none :: ws') (hini : Cond.initialized y.cls ∈ Ts) (hlk2 : va_Nw (.methodLinkNest own idx y host) s) (hin2 : Cond.instanceMethod y ∈ Ts) (hy1 : y.name = "<init>") (hd : y.cls ≠ "java/lang/invoke/MethodHandle" ∧ y.cls ≠ "java/lang/invoke/VarHandle" ∧ (parseMethodDescriptor y.desc).map (fun d => d.parameters.length) = some n) (hn : As.length = n) (hst : As.reverse ++ .ref b :: rest = st) (hcat8 : (rest.map fun v => v.category).sum ≤ 8) (hf : cells + rm.cells ≤ R.cells ∧ slots + rm.slots ≤ R.slots) (hRm : rm.frames + 1 ≤ R.frames ∧ 8 + (maxL + 11) + rm.locals ≤ R.locals) (hz1 : hSZ SZ) (hz2 : SZ s)
    (kk : ∀ (v : Option Value) (h2 : hE), Post v h2 → V p l e R s m args below meth c D bs nL h2 (cells + rm.cells) (slots + rm.slots) Q (pc + 3) (ls) (v.toList ++ rest)) : V p l e R s m args below meth c D bs nL h cells slots Q (pc) (ls) (st) := by
  obtain ⟨⟨hx, hb, hml, hown, hts⟩, hK, hbs, hlkm⟩ := C
  intro H locs la hR hS hl
  subst hst
  exact V_back (va_runIN ⟨hx, hb, hml, hown, hts⟩ hM ⟨va_cnB n hts hT hw rfl rfl hlk2 (hts _ hini) hd hRm, hy1, hts _ hin2⟩ ⟨hPs.blind hz1, fun U hU hW => ⟨rfl, by rw [hU]; exact Nat.le_trans hbs hS.1, by rw [hU]; exact hR, va_K.moved hW.alike hK, hz1.2 s U hW hz2⟩⟩ rfl hn (hl.1) rfl (lv_room hcat8) hdg hf) hbs hS hl kk
/-- a loop that counts up and makes objects -/
theorem V_forC (ce sl : Nat → Nat) (n : Nat) (I : Nat → hE → List (Option Value) → Prop)
    (hstep : ∀ (i : Nat) (h : hE) (ls : List (Option Value)), i < n → I i h ls → (∀ (h2 : hE) (ls2 : List (Option Value)), I (i + 1) h2 ls2 → V p l e R s m args below meth c D bs nL h2 (ce (i + 1)) (sl (i + 1)) Q (pc) (ls2) ([])) → V p l e R s m args below meth c D bs nL h (ce i) (sl i) Q (pc) (ls) ([]))
    (hend : ∀ (h : hE) (ls : List (Option Value)), I n h ls → V p l e R s m args below meth c D bs nL h (ce n) (sl n) Q (pc) (ls) ([]))
    (i : Nat) (hi : i ≤ n) (h0 : I i h ls) : V p l e R s m args below meth c D bs nL h (ce i) (sl i) Q (pc) (ls) ([]) := by
  obtain ⟨k, hk⟩ : ∃ k, i + k = n := ⟨n - i, by omega⟩
  induction k generalizing i h ls with
  | zero =>
    have : i = n := by omega
    subst this
    exact hend h ls h0
  | succ k ih => exact hstep i h ls (by omega) h0 (fun h2 ls2 h1 => ih (i := i + 1) (by omega) h1 (by omega))
end VM3
