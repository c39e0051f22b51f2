/-! contracts over abstract heaps -/
/-- room by depth of calls -/
def rmk (k mc ms : Nat) : Room := { frames := k, cells := mc, slots := ms, locals := 40 * k }
def hQ (D : va_G) (cA : Nat → ClassId) (bs : Nat) (Post : Option Value → hE → Prop) : Array Value → State → Outcome → State → Prop := fun _ st o t => (∃ (v : Option Value) (h2 : hE), o = .returned v ∧ Post v h2 ∧ hRp D bs h2 t.heap ∧ va_K D vwCl (tyl cA) t) ∧ va_F (fun q => bs ≤ q) st t
def hXC (D : va_G) (cA : Nat → ClassId) (bs : Nat) (PX : String → hE → Prop) : String → State → State → Prop := fun E st t => (∃ h2 : hE, PX E h2 ∧ hRp D bs h2 t.heap ∧ va_K D vwCl (tyl cA) t) ∧ va_F (fun q => bs ≤ q) st t
def hP (D : va_G) (cA : Nat → ClassId) (bs : Nat) (h : hE) (as : List Value) : Array Value → State → Prop := va_Pc as (fun U => bs ≤ U.heap.size ∧ hRp D bs h U.heap ∧ va_K D vwCl (tyl cA) U)
/-- what a throw needs of the JDK's statics -/
def hZ (bs : Nat) (U : State) (H : Heap) : Prop := vx_Zq Bundle.tN "UNASSIGNED_STACK" Bundle.steD (fun q => bs ≤ q) U H ∧ vx_Zq Bundle.tN "SUPPRESSED_SENTINEL" Bundle.listD (fun q => bs ≤ q) U H
theorem hZ.moved {bs : Nat} {u U : State} {H : Heap} (hvm : u.vm.Alike U.vm) (z : hZ bs u H) : hZ bs U H := ⟨z.1.moved hvm, z.2.moved hvm⟩
theorem hZ.kept {bs : Nat} {U : State} {H H1 : Heap} (z : hZ bs U H) (hq : ∀ a : Nat, a < H.size → ¬ bs ≤ a → H1[a]? = H[a]?) : hZ bs U H1 := ⟨z.1.kept hq, z.2.kept hq⟩
def hPx (D : va_G) (cA : Nat → ClassId) (bs : Nat) (SZ : State → Prop) (h : hE) (as : List Value) : Array Value → State → Prop := va_Pc as (fun U => bs ≤ U.heap.size ∧ hRp D bs h U.heap ∧ va_K D vwCl (tyl cA) U ∧ hZ bs U U.heap ∧ SZ U)
def Mt (l : Launch) (D : va_G) (cA : Nat → ClassId) (bs : Nat) (y : MethodName) (ws : List Cond) (rm : Room) (as : List Value) (h : hE) (Post : Option Value → hE → Prop) : Prop := Met l y ws rm (hP D cA bs h as) (hQ D cA bs Post) rm.cells rm.slots (fun q => bs ≤ q)
/-- .. of a method that may throw; SZ: what it needs of the tables' texts -/
def Mx (l : Launch) (D : va_G) (cA : Nat → ClassId) (bs : Nat) (SZ : State → Prop) (y : MethodName) (ws : List Cond) (rm : Room) (as : List Value) (h : hE) (Post : Option Value → hE → Prop) (PX : String → hE → Prop) : Prop := vx_Met l y ws rm (hPx D cA bs SZ h as) (hQ D cA bs Post) (hXC D cA bs PX) rm.cells rm.slots (fun q => bs ≤ q)
theorem hP.blind {D : va_G} {cA : Nat → ClassId} {bs : Nat} {h : hE} {as : List Value} : FrameBlind (hP D cA bs h as) := fun a U g mk q => by
  obtain ⟨q0, q1, q2, q3⟩ := q
  exact ⟨q0, q1, q2, va_K.moved (u := U) (U := U.calling g mk a) (Vm.Alike.refl U.vm) q3⟩
/-- tables' texts stay -/
def hSZ (SZ : State → Prop) : Prop := (∀ u U : State, U.vm = u.vm → SZ u → SZ U) ∧ ∀ u U : State, u.WarmedH U.vm → SZ u → SZ U
theorem hPx.blind {D : va_G} {cA : Nat → ClassId} {bs : Nat} {SZ : State → Prop} (z : hSZ SZ) {h : hE} {as : List Value} : FrameBlind (hPx D cA bs SZ h as) := fun a U g mk q => by
  obtain ⟨q0, q1, q2, q3, q4, q5⟩ := q
  exact ⟨q0, q1, q2, va_K.moved (u := U) (U := U.calling g mk a) (Vm.Alike.refl U.vm) q3, hZ.moved (u := U) (U := U.calling g mk a) (Vm.Alike.refl U.vm) q4, z.1 U _ rfl q5⟩
theorem lv_args1 : ∀ (as : List Value) (k i : Nat) (v : Value), (∀ v ∈ as, v.category = 1) → as[i]? = some v → (k + i, v) ∈ lv_args k as
  | [], k, i, v, _, h => by simp at h
  | w :: as, k, i, v, hc, h => by
    have hw : ¬ w.category = 2 := by rw [hc w List.mem_cons_self]; decide
    rw [lv_args, if_neg hw]
    cases i with
    | zero =>
      rw [List.getElem?_cons_zero] at h
      cases h
      exact List.mem_cons_self
    | succ i =>
      rw [List.getElem?_cons_succ] at h
      have := lv_args1 as (k + 1) i v (fun v hv => hc v (List.mem_cons_of_mem _ hv)) h
      rw [show k + (i + 1) = k + 1 + i by omega]
      exact List.mem_cons_of_mem _ this
theorem lg_sl1 : ∀ (as : List Value), (∀ v ∈ as, v.category = 1) → (lg_sl as).length = as.length
  | [], _ => rfl
  | w :: as, hc => by
    have hw : ¬ w.category = 2 := by rw [hc w List.mem_cons_self]; decide
    have := lg_sl1 as (fun v hv => hc v (List.mem_cons_of_mem _ hv))
    unfold lg_sl at this ⊢
    rw [List.flatMap_cons, if_neg hw, List.length_append, this]
    simp [Nat.add_comm]
theorem lvo_entry {as : List Value} {nL : Nat} (hc : ∀ v ∈ as, v.category = 1) (hlen : as.length ≤ nL) : lvo ((lg_sl as ++ List.replicate (nL - (lg_sl as).length) Slot.unset).toArray) nL (as.map some ++ List.replicate (nL - as.length) none) := by
  have hl := lv_entry as (n := nL) (by rw [lg_sl1 as hc]; exact hlen)
  refine ⟨hl.1, hl.2.1, fun i v hi => ?_⟩
  have h1 : as[i]? = some v := by
    by_cases hi2 : i < as.length
    · rw [List.getElem?_append_left (by simpa using hi2), List.getElem?_map] at hi
      cases hq : as[i]? with
      | none => rw [hq] at hi; cases hi
      | some w => rw [hq] at hi; cases hi; rfl
    · rw [List.getElem?_append_right (by simpa using Nat.not_lt.mp hi2)] at hi
      have := List.eq_of_mem_replicate (List.mem_of_getElem? hi)
      cases this
  have h2 := lv_args1 as 0 i v hc h1
  rw [Nat.zero_add] at h2
  exact ⟨hl.2.2 (i, v) h2, hc v (List.mem_of_getElem? h1)⟩
def hcat (as : List Value) : Bool := as.all (fun v => v.category == 1)
theorem hcat_of {as : List Value} (h : hcat as = true) : ∀ v ∈ as, v.category = 1 := fun v hv => by simpa using List.all_eq_true.mp h v hv
theorem Mt_of {l : Launch} {D : va_G} {cA : Nat → ClassId} {bs : Nat} {y : MethodName} {ws ws' : List Cond} {rm : Room} {as : List Value} {h : hE} {Post : Option Value → hE → Prop} {cc : ByteArray} {maxL : Nat} {ret : Option FieldType} {own : String} (ls0 : List (Option Value))
    (hw : ws = Cond.code y cc maxL ret :: ws') (hy : plainName y.cls = true) (hown : y.cls = own) (hc : hcat as = true) (hlen : as.length ≤ maxL) (hls : as.map some ++ List.replicate (maxL - as.length) none = ls0)
    (body : ∀ (p : Program) (e : Env) (s : State) (m : MethodId) (args : Array Value) (below : List Frame) (meth : Method) (c : Code), Cx p s m meth c cc maxL args ws own D cA bs → meth.sig.returnType = ret → meth.name = y.name → V p l e rm s m args below meth c D bs maxL h 0 0 (MQ below (hQ D cA bs Post) args s rm.cells rm.slots (fun q => bs ≤ q)) 0 ls0 []) : Mt l D cA bs y ws rm as h Post := by
  refine Met.ofW (cc := cc) (maxL := maxL) (ret := ret) hy hw ?_
  intro p e s m args below meth c s₁ B hml hv
  obtain ⟨rfl, hbs, hR, hK⟩ := hv
  have hown2 : s.vm.findClass own = some m.cls := by rw [← hown]; exact findClass_of_methodNamed B.named
  have hl := lvo_entry (nL := maxL) (hcat_of hc) hlen
  rw [hls] at hl
  rw [lg_entry_eq]
  exact body p e s m _ below meth c ⟨⟨B.exec, B.bytes, hml, hown2, atoms_spec (ws := ws) B.pre⟩, hK, hbs, B.notSynchronized⟩ B.returns (name_of_methodNamed B.named B.method).1 s.heap [] _ hR va_S.rf hl
theorem Mx_of {l : Launch} {D : va_G} {cA : Nat → ClassId} {bs : Nat} {SZ : State → Prop} {y : MethodName} {ws ws' : List Cond} {rm : Room} {as : List Value} {h : hE} {Post : Option Value → hE → Prop} {PX : String → hE → Prop} {cc : ByteArray} {maxL : Nat} {ret : Option FieldType} {own : String} (ls0 : List (Option Value))
    (hw : ws = Cond.code y cc maxL ret :: ws') (hy : plainName y.cls = true) (hown : y.cls = own) (hc : hcat as = true) (hlen : as.length ≤ maxL) (hls : as.map some ++ List.replicate (maxL - as.length) none = ls0)
    (body : ∀ (p : Program) (e : Env) (s : State) (m : MethodId) (args : Array Value) (below : List Frame) (meth : Method) (c : Code), Cx p s m meth c cc maxL args ws own D cA bs → meth.sig.returnType = ret → (∀ x ∈ c.exceptionTable.toList, False) → hZ bs s s.heap → SZ s → V p l e rm s m args below meth c D bs maxL h 0 0 (vx_MQ below (hQ D cA bs Post) (hXC D cA bs PX) args s rm.cells rm.slots (fun q => bs ≤ q)) 0 ls0 []) : Mx l D cA bs SZ y ws rm as h Post PX := by
  refine vx_ofW (cc := cc) (maxL := maxL) (ret := ret) hy hw ?_
  intro p e s m args below meth c s₁ B hml hex hv
  obtain ⟨rfl, hbs, hR, hK, hz, hsz⟩ := hv
  have hown2 : s.vm.findClass own = some m.cls := by rw [← hown]; exact findClass_of_methodNamed B.named
  have hl := lvo_entry (nL := maxL) (hcat_of hc) hlen
  rw [hls] at hl
  rw [lg_entry_eq]
  exact body p e s m _ below meth c ⟨⟨B.exec, B.bytes, hml, hown2, atoms_spec (ws := ws) B.pre⟩, hK, hbs, B.notSynchronized⟩ B.returns hex hz hsz s.heap [] _ hR va_S.rf hl
section VM2
variable {p : Program} {l : Launch} {e : Env} {R : Room} {s : State} {m : MethodId} {args : Array Value} {below : List Frame} {meth : Method} {c : Code} {D : va_G} {cA : Nat → ClassId} {bs nL : Nat} {h : hE} {cells slots : Nat} {Q : State → Prop} {pc : Nat} {ls : List (Option Value)} {rest : List Value} {cc : ByteArray} {Ts : List Cond} {own : String}
theorem V_iret (C : Cx p s m meth c cc nL args Ts own D cA bs) {Post : Option Value → hE → Prop} {mc ms : Nat} {v : Int32} (hdg : decode cc pc = .ok (.ireturn, 1)) (hr : meth.sig.returnType = some .int)  (hp : Post (some (.int v)) h) (hc : cells ≤ mc) (hs : slots ≤ ms) : V p l e R s m args below meth c D bs nL h cells slots (MQ below (hQ D cA bs Post) args s mc ms (fun q => bs ≤ q)) (pc) (ls) ([.int v]) := by
  obtain ⟨⟨hx, hb, hml, hown, hts⟩, hK, hbs, hlkm⟩ := C
  intro H locs la hR hS hl
  refine W.widen hc hs ?_
  exact W.iret hx hb hr  (fun t ht hW => ⟨⟨_, h, rfl, hp, by rw [ht]; exact hR, va_K.moved hW.alike hK⟩, hS.F ht⟩) hS.2.2 hdg (hlocks := hlkm)
theorem V_zret (C : Cx p s m meth c cc nL args Ts own D cA bs) {Post : Option Value → hE → Prop} {mc ms : Nat} {v : Int32} {ty : FieldType} (hdg : decode cc pc = .ok (.ireturn, 1)) (hr : meth.sig.returnType = some ty) (hn : narrow ty (.int v) = .int v) (hp : Post (some (.int v)) h) (hc : cells ≤ mc) (hs : slots ≤ ms) : V p l e R s m args below meth c D bs nL h cells slots (MQ below (hQ D cA bs Post) args s mc ms (fun q => bs ≤ q)) (pc) (ls) ([.int v]) := by
  obtain ⟨⟨hx, hb, hml, hown, hts⟩, hK, hbs, hlkm⟩ := C
  intro H locs la hR hS hl
  refine W.widen hc hs ?_
  exact W.zret hx hb hr hn (fun t ht hW => ⟨⟨_, h, rfl, hp, by rw [ht]; exact hR, va_K.moved hW.alike hK⟩, hS.F ht⟩) hS.2.2 hdg (hlocks := hlkm)
theorem V_fret (C : Cx p s m meth c cc nL args Ts own D cA bs) {Post : Option Value → hE → Prop} {mc ms : Nat} {v : UInt32} (hdg : decode cc pc = .ok (.freturn, 1)) (hr : meth.sig.returnType = some .float)  (hp : Post (some (.float v)) h) (hc : cells ≤ mc) (hs : slots ≤ ms) : V p l e R s m args below meth c D bs nL h cells slots (MQ below (hQ D cA bs Post) args s mc ms (fun q => bs ≤ q)) (pc) (ls) ([.float v]) := by
  obtain ⟨⟨hx, hb, hml, hown, hts⟩, hK, hbs, hlkm⟩ := C
  intro H locs la hR hS hl
  refine W.widen hc hs ?_
  exact W.fret hx hb hr  (fun t ht hW => ⟨⟨_, h, rfl, hp, by rw [ht]; exact hR, va_K.moved hW.alike hK⟩, hS.F ht⟩) hS.2.2 hdg (hlocks := hlkm)
theorem V_vret (C : Cx p s m meth c cc nL args Ts own D cA bs) {Post : Option Value → hE → Prop} {mc ms : Nat}  (hdg : decode cc pc = .ok (.return_, 1)) (hr : meth.sig.returnType = none)  (hp : Post none h) (hc : cells ≤ mc) (hs : slots ≤ ms) : V p l e R s m args below meth c D bs nL h cells slots (MQ below (hQ D cA bs Post) args s mc ms (fun q => bs ≤ q)) (pc) (ls) ([]) := by
  obtain ⟨⟨hx, hb, hml, hown, hts⟩, hK, hbs, hlkm⟩ := C
  intro H locs la hR hS hl
  refine W.widen hc hs ?_
  exact W.vret hx hb hr  (fun t ht hW => ⟨⟨_, h, rfl, hp, by rw [ht]; exact hR, va_K.moved hW.alike hK⟩, hS.F ht⟩) hS.2.2 hdg (hlocks := hlkm)
theorem V_aret (C : Cx p s m meth c cc nL args Ts own D cA bs) {Post : Option Value → hE → Prop} {mc ms : Nat} {v : Value} {ty : FieldType} (hdg : decode cc pc = .ok (.areturn, 1)) (hr : meth.sig.returnType = some ty) (hrt : (∃ n, ty = .object n) ∨ ∃ t, ty = .array t) (hv : v = .null ∨ ∃ a, v = .ref a) (hp : Post (some v) h) (hc : cells ≤ mc) (hs : slots ≤ ms) : V p l e R s m args below meth c D bs nL h cells slots (MQ below (hQ D cA bs Post) args s mc ms (fun q => bs ≤ q)) (pc) (ls) ([v]) := by
  obtain ⟨⟨hx, hb, hml, hown, hts⟩, hK, hbs, hlkm⟩ := C
  intro H locs la hR hS hl
  refine W.widen hc hs ?_
  exact W.aret hx hb hr hrt hv (fun t ht hW => ⟨⟨_, h, rfl, hp, by rw [ht]; exact hR, va_K.moved hW.alike hK⟩, hS.F ht⟩) hS.2.2 hdg (hlocks := hlkm)
theorem V_x {Qc : Array Value → State → Outcome → State → Prop} {XC : String → State → State → Prop} {mc ms : Nat} {free : Addr → Prop} {st : List Value} (k : V p l e R s m args below meth c D bs nL h cells slots (MQ below Qc args s mc ms free) (pc) (ls) (st)) : V p l e R s m args below meth c D bs nL h cells slots (vx_MQ below Qc XC args s mc ms free) (pc) (ls) (st) := fun H locs la hR hS hl => vx_ret (k H locs la hR hS hl)
/-- behind a call that returns -/
theorem V_back {mc ms : Nat} {Post : Option Value → hE → Prop} {H : Heap} {locs : List Loc} {la : Array Slot} {st0 : List Value} {a : Array Value} (hr : va_Run p l e R s m args below meth c H locs cells slots mc ms (F0 m pc la st0) rest (hQ D cA bs Post a) (fun q => bs ≤ q)) (hbs : bs ≤ s.heap.size) (hS : va_S (fun q => bs ≤ q) s.heap H locs) (hl : lvo la nL ls)
    (kk : ∀ (v : Option Value) (h2 : hE), Post v h2 → V p l e R s m args below meth c D bs nL h2 (cells + mc) (slots + ms) Q (pc + 3) (ls) (v.toList ++ rest)) : W p l e R s m args below meth c H locs cells slots Q (F0 m pc la st0) := by
  intro T hT X
  obtain ⟨v, st₀, t, T', L, h0, X', hL, e1, e2, ⟨⟨v2, h2, hv, hp, hR2, hK2⟩, hz, hk⟩, st⟩ := hr T hT X
  cases hv
  rw [h0] at hz hk
  obtain ⟨t2, a1, b1⟩ := kk v h2 hp T'.heap (locs ++ L) la (by rw [e1]; exact hR2) ⟨Nat.le_trans hS.1 (by rw [e1]; exact hz), fun q h1 h3 => by rw [e1, hk q (Nat.lt_of_lt_of_le h1 hS.1) h3]; exact hS.2.1 q h1 h3, fun q hq => by
      rcases List.mem_append.mp hq with h | h
      · exact hS.2.2 q h
      · exact hL q h⟩ hl T' rfl X'
  exact ⟨t2, st t2 a1, b1⟩
theorem V_callVg (C : Cx p s m meth c cc nL args Ts own D cA bs) {idx n maxL : Nat} {y : MethodName} {ws ws' : List Cond} {rm : Room} {bytes : ByteArray} {ret : Option FieldType} {As st : List Value} {Post : Option Value → hE → Prop} {b ci : Nat} {r : vw_C} {fs : List Value} (hM : Mt l D cA bs y ws rm (.ref b :: As) h Post) (hdg : decode cc pc = .ok (.invokevirtual idx, 3)) (hT : GoodIn Ts (wsV own idx r.1 y ws)) (hw : ws = Cond.code y bytes maxL ret :: ws') (hh : h b = some (.inr (ci, fs))) (hc : vwCl[ci]? = some r) (hd : y.cls = r.1 ∧ y.cls ≠ "java/lang/invoke/MethodHandle" ∧ y.cls ≠ "java/lang/invoke/VarHandle" ∧ (parseMethodDescriptor y.desc).map (fun d => d.parameters.length) = some n) (hn : As.length = n) (hst : As.reverse ++ .ref b :: rest = st) (hcat8 : (rest.map fun v => v.category).sum ≤ 8) (hf : cells + rm.cells ≤ R.cells ∧ slots + rm.slots ≤ R.slots) (hRm : rm.frames + 1 ≤ R.frames ∧ 8 + (maxL + 11) + rm.locals ≤ R.locals)
    (kk : ∀ (v : Option Value) (h2 : hE), Post v h2 → V p l e R s m args below meth c D bs nL h2 (cells + rm.cells) (slots + rm.slots) Q (pc + 3) (ls) (v.toList ++ rest)) : V p l e R s m args below meth c D bs nL h cells slots Q (pc) (ls) (st) := by
  obtain ⟨⟨hx, hb, hml, hown, hts⟩, hK, hbs, hlkm⟩ := C
  intro H locs la hR hS hl
  subst hst
  obtain ⟨ws9, w9, hPw, hDw⟩ := id hR
  obtain ⟨q0, hq⟩ := w9.at hh
  exact V_back (va_runV ⟨hx, hb, hml, hown, hts⟩ hM (cwV n hts hT hw rfl rfl hd hRm) ⟨hP.blind, va_recv hK hPw hc hq, fun U hU hW => ⟨rfl, by rw [hU]; exact Nat.le_trans hbs hS.1, by rw [hU]; exact hR, va_K.moved hW.alike hK⟩⟩ rfl hn (hl.1) rfl (lv_room hcat8) hdg hf) hbs hS hl kk
theorem V_callSg (C : Cx p s m meth c cc nL args Ts own D cA bs) {idx n maxL : Nat} {y : MethodName} {ws ws' : List Cond} {rm : Room} {bytes : ByteArray} {ret : Option FieldType} {As st : List Value} {Post : Option Value → hE → Prop} (hM : Mt l D cA bs y ws rm As h Post) (hdg : decode cc pc = .ok (.invokestatic idx, 3)) (hT : GoodIn Ts (va_wsS own idx y ws)) (hw : ws = Cond.code y bytes maxL ret :: ws') (hd : y.cls ≠ "java/lang/invoke/MethodHandle" ∧ y.cls ≠ "java/lang/invoke/VarHandle" ∧ (parseMethodDescriptor y.desc).map (fun d => d.parameters.length) = some n) (hn : As.length = n) (hst : As.reverse ++ rest = st) (hcat8 : (rest.map fun v => v.category).sum ≤ 8) (hf : cells + rm.cells ≤ R.cells ∧ slots + rm.slots ≤ R.slots) (hRm : rm.frames + 1 ≤ R.frames ∧ 8 + (maxL + 11) + rm.locals ≤ R.locals)
    (kk : ∀ (v : Option Value) (h2 : hE), Post v h2 → V p l e R s m args below meth c D bs nL h2 (cells + rm.cells) (slots + rm.slots) Q (pc + 3) (ls) (v.toList ++ rest)) : V p l e R s m args below meth c D bs nL h cells slots Q (pc) (ls) (st) := by
  obtain ⟨⟨hx, hb, hml, hown, hts⟩, hK, hbs, hlkm⟩ := C
  intro H locs la hR hS hl
  subst hst
  exact V_back (va_runS ⟨hx, hb, hml, hown, hts⟩ hM (va_cwS n hts hT hw rfl rfl hd hRm) ⟨hP.blind, fun U hU hW => ⟨rfl, by rw [hU]; exact Nat.le_trans hbs hS.1, by rw [hU]; exact hR, va_K.moved hW.alike hK⟩⟩ rfl hn (hl.1) rfl (lv_room hcat8) hdg hf) hbs hS hl kk
theorem V_callIg (C : Cx p s m meth c cc nL args Ts own D cA bs) {idx n maxL : Nat} {y : MethodName} {ws ws' : List Cond} {rm : Room} {bytes : ByteArray} {As st : List Value} {Post : Option Value → hE → Prop} {b : Nat} (hM : Mt l D cA bs y ws rm (.ref b :: As) h Post) (hdg : decode cc pc = .ok (.invokespecial idx, 3)) (hT : GoodIn Ts ws) (hw : ws = Cond.code y bytes maxL none :: ws') (hini : Cond.initialized y.cls ∈ Ts) (hlk2 : Cond.methodLink own idx y ∈ Ts) (hin2 : Cond.instanceMethod y ∈ Ts) (hy1 : y.name = "<init>") (hd : y.cls ≠ "java/lang/invoke/MethodHandle" ∧ y.cls ≠ "java/lang/invoke/VarHandle" ∧ (parseMethodDescriptor y.desc).map (fun d => d.parameters.length) = some n) (hn : As.length = n) (hst : As.reverse ++ .ref b :: rest = st) (hcat8 : (rest.map fun v => v.category).sum ≤ 8) (hf : cells + rm.cells ≤ R.cells ∧ slots + rm.slots ≤ R.slots) (hRm : rm.frames + 1 ≤ R.frames ∧ 8 + (maxL + 11) + rm.locals ≤ R.locals)
    (kk : ∀ (v : Option Value) (h2 : hE), Post v h2 → V p l e R s m args below meth c D bs nL h2 (cells + rm.cells) (slots + rm.slots) Q (pc + 3) (ls) (v.toList ++ rest)) : V p l e R s m args below meth c D bs nL h cells slots Q (pc) (ls) (st) := by
  obtain ⟨⟨hx, hb, hml, hown, hts⟩, hK, hbs, hlkm⟩ := C
  intro H locs la hR hS hl
  subst hst
  exact V_back (va_runI ⟨hx, hb, hml, hown, hts⟩ hM (cwI n hts hT hw rfl rfl (hts _ hini) (hts _ hlk2) (hts _ hin2) hy1 hd hRm) ⟨hP.blind, fun U hU hW => ⟨rfl, by rw [hU]; exact Nat.le_trans hbs hS.1, by rw [hU]; exact hR, va_K.moved hW.alike hK⟩⟩ rfl hn (hl.1) rfl (lv_room hcat8) hdg hf) hbs hS hl kk
theorem V_callINg (C : Cx p s m meth c cc nL args Ts own D cA bs) {idx n maxL : Nat} {y : MethodName} {ws ws' : List Cond} {rm : Room} {bytes : ByteArray} {As st : List Value} {Post : Option Value → hE → Prop} {b : Nat} {host : String} (hM : Mt l D cA bs y ws rm (.ref b :: As) h Post) (hdg : decode cc pc = .ok (.invokespecial idx, 3)) (hT : GoodIn Ts ws) (hw : ws = Cond.code y bytes maxL none :: ws') (hini : Cond.initialized y.cls ∈ Ts) (hlk2 : va_Nw (.methodLinkNest own idx y host) s) (hin2 : Cond.instanceMethod y ∈ Ts) (hy1 : y.name = "<init>") (hd : y.cls ≠ "java/lang/invoke/MethodHandle" ∧ y.cls ≠ "java/lang/invoke/VarHandle" ∧ (parseMethodDescriptor y.desc).map (fun d => d.parameters.length) = some n) (hn : As.length = n) (hst : As.reverse ++ .ref b :: rest = st) (hcat8 : (rest.map fun v => v.category).sum ≤ 8) (hf : cells + rm.cells ≤ R.cells ∧ slots + rm.slots ≤ R.slots) (hRm : rm.frames + 1 ≤ R.frames ∧ 8 + (maxL + 11) + rm.locals ≤ R.locals)
    (kk : ∀ (v : Option Value) (h2 : hE), Post v h2 → V p l e R s m args below meth c D bs nL h2 (cells + rm.cells) (slots + rm.slots) Q (pc + 3) (ls) (v.toList ++ rest)) : V p l e R s m args below meth c D bs nL h cells slots Q (pc) (ls) (st) := by
  obtain ⟨⟨hx, hb, hml, hown, hts⟩, hK, hbs, hlkm⟩ := C
  intro H locs la hR hS hl
  subst hst
  exact V_back (va_runIN ⟨hx, hb, hml, hown, hts⟩ hM ⟨va_cnB n hts hT hw rfl rfl hlk2 (hts _ hini) hd hRm, hy1, hts _ hin2⟩ ⟨hP.blind, fun U hU hW => ⟨rfl, by rw [hU]; exact Nat.le_trans hbs hS.1, by rw [hU]; exact hR, va_K.moved hW.alike hK⟩⟩ rfl hn (hl.1) rfl (lv_room hcat8) hdg hf) hbs hS hl kk
theorem V_objInit (C : Cx p s m meth c cc nL args Ts own D cA bs) {idx a : Nat} (hdg : decode cc pc = .ok (.invokespecial idx, 3)) (hlink : Cond.methodLink own idx Lib.objectInit ∈ Ts) (hinst : Cond.instanceMethod Lib.objectInit ∈ Ts) (hcode : Cond.code Lib.objectInit ⟨#[0xb1]⟩ 1 none ∈ Ts) (hfr : 1 ≤ R.frames) (hlo : (rest.map fun v => v.category).sum + 12 ≤ R.locals) (k : V p l e R s m args below meth c D bs nL h cells slots Q (pc + 3) (ls) (rest)) : V p l e R s m args below meth c D bs nL h cells slots Q (pc) (ls) (.ref a :: rest) := by
  obtain ⟨⟨hx, hb, hml, hown, hts⟩, hK, hbs, hlkm⟩ := C
  intro H locs la hR hS hl
  exact W.objInit hx hb hown (hts _ hlink) (hts _ hinst) (hts _ hcode) rfl (by rw [hml]; exact hl.1) rfl hdg hfr (by simpa [JFrame.monitorRoom] using hlo) (k H locs la hR hS hl)
/-- behind a call that may throw, whose throw goes on to the caller -/
theorem V_xback {mc ms mc1 ms1 : Nat} {Post : Option Value → hE → Prop} {PX PX1 : String → hE → Prop} {Qc : Array Value → State → Outcome → State → Prop} {H : Heap} {locs : List Loc} {la : Array Slot} {st0 : List Value} {a : Array Value} (hr : vx_Run p l e R s m args below meth c H locs cells slots mc ms (F0 m pc la st0) rest (hQ D cA bs Post a) (hXC D cA bs PX) (fun q => bs ≤ q)) (hbs : bs ≤ s.heap.size) (hS : va_S (fun q => bs ≤ q) s.heap H locs) (hl : lvo la nL ls) (hlk : meth.locks = false) (hex : ∀ x ∈ c.exceptionTable.toList, False) (hmc : cells + mc ≤ mc1) (hms : slots + ms ≤ ms1) (hK : va_K D vwCl (tyl cA) s)
    (hpx : ∀ (E : String) (h2 : hE), PX E h2 → PX1 E h2)
    (kk : ∀ (v : Option Value) (h2 : hE), Post v h2 → V p l e R s m args below meth c D bs nL h2 (cells + mc) (slots + ms) (vx_MQ below Qc (hXC D cA bs PX1) args s mc1 ms1 (fun q => bs ≤ q)) (pc + 3) (ls) (v.toList ++ rest)) : W p l e R s m args below meth c H locs cells slots (vx_MQ below Qc (hXC D cA bs PX1) args s mc1 ms1 (fun q => bs ≤ q)) (F0 m pc la st0) := by
  intro T hT X
  rcases hr T hT X with ⟨v, st₀, t, T', L, h0, X', hL, e1, e2, ⟨⟨v2, h2, hv, hp, hR2, hK2⟩, hF⟩, st⟩ | ⟨q, st₀, t, T', L, E, ce, h0, X', hL, e1, e2, ⟨⟨h2, hp, hR2, hK2⟩, hF⟩, hce, hcv, hcl, st⟩
  · cases hv
    obtain ⟨k1, k2, k3⟩ := vx_keep h0 e1 hS (fun _ _ z => z) (fun _ z => z) hL hF
    obtain ⟨t2, a1, b1⟩ := kk v h2 hp T'.heap (locs ++ L) la (by rw [e1]; exact hR2) k3 hl T' rfl X'
    exact ⟨t2, st t2 a1, b1⟩
  · obtain ⟨k1, k2, k3⟩ := vx_keep h0 e1 hS (fun _ _ z => z) (fun _ z => z) hL hF
    obtain ⟨t2, a1, b1⟩ := vx_out (XC := hXC D cA bs PX1) (Qc := Qc) (free := fun q => bs ≤ q) (pc := pc) (ls := la) (rest := rest) (q := q) (H := T'.heap) (locs := locs ++ L) (cells := cells + mc) (slots := slots + ms) (mc := mc1) (ms := ms1) (fun x hx => (hex x hx).elim) hlk (by rw [e1]; exact hce) hcv hcl (fun t9 ht9 hal => ⟨⟨h2, hpx E h2 hp, by rw [ht9, e1]; exact hR2, va_K.moved hal hK⟩, k3.F ht9⟩) k3.2.2 hmc hms T' rfl X'
    exact ⟨t2, st.trans a1, b1⟩
theorem V_xcallVg (C : Cx p s m meth c cc nL args Ts own D cA bs) {idx n maxL : Nat} {y : MethodName} {ws ws' : List Cond} {rm : Room} {bytes : ByteArray} {ret : Option FieldType} {As st : List Value} {Post : Option Value → hE → Prop} {PX PX1 : String → hE → Prop} {SZ : State → Prop} {Qc : Array Value → State → Outcome → State → Prop} {mc1 ms1 : Nat} {b ci : Nat} {r : vw_C} {fs : List Value} (hM : Mx l D cA bs SZ y ws rm (.ref b :: As) h Post PX) (hdg : decode cc pc = .ok (.invokevirtual idx, 3)) (hT : GoodIn Ts (wsV own idx r.1 y ws)) (hw : ws = Cond.code y bytes maxL ret :: ws') (hh : h b = some (.inr (ci, fs))) (hc : vwCl[ci]? = some r) (hd : y.cls = r.1 ∧ y.cls ≠ "java/lang/invoke/MethodHandle" ∧ y.cls ≠ "java/lang/invoke/VarHandle" ∧ (parseMethodDescriptor y.desc).map (fun d => d.parameters.length) = some n) (hn : As.length = n) (hst : As.reverse ++ .ref b :: rest = st) (hcat8 : (rest.map fun v => v.category).sum ≤ 8) (hf : cells + rm.cells ≤ R.cells ∧ slots + rm.slots ≤ R.slots) (hRm : rm.frames + 1 ≤ R.frames ∧ 8 + (maxL + 11) + rm.locals ≤ R.locals) (hmc : cells + rm.cells ≤ mc1) (hms : slots + rm.slots ≤ ms1) (hex : ∀ x ∈ c.exceptionTable.toList, False) (hz : hZ bs s s.heap) (hz1 : hSZ SZ) (hz2 : SZ s) (hpx : ∀ (E : String) (h2 : hE), PX E h2 → PX1 E h2)
    (kk : ∀ (v : Option Value) (h2 : hE), Post v h2 → V p l e R s m args below meth c D bs nL h2 (cells + rm.cells) (slots + rm.slots) (vx_MQ below Qc (hXC D cA bs PX1) args s mc1 ms1 (fun q => bs ≤ q)) (pc + 3) (ls) (v.toList ++ rest)) : V p l e R s m args below meth c D bs nL h cells slots (vx_MQ below Qc (hXC D cA bs PX1) args s mc1 ms1 (fun q => bs ≤ q)) (pc) (ls) (st) := by
  obtain ⟨⟨hx, hb, hml, hown, hts⟩, hK, hbs, hlkm⟩ := C
  intro H locs la hR hS hl
  subst hst
  obtain ⟨ws9, w9, hPw, hDw⟩ := id hR
  obtain ⟨q0, hq⟩ := w9.at hh
  exact V_xback (vx_runV ⟨hx, hb, hml, hown, hts⟩ hM (cwV n hts hT hw rfl rfl hd hRm) ⟨hPx.blind hz1, va_recv hK hPw hc hq, fun U hU hW => ⟨rfl, by rw [hU]; exact Nat.le_trans hbs hS.1, by rw [hU]; exact hR, va_K.moved hW.alike hK, by rw [hU]; exact hZ.moved hW.alike (hz.kept hS.2.1), hz1.2 s U hW hz2⟩⟩ rfl hn (hl.1) rfl (lv_room hcat8) hdg hf) hbs hS hl hlkm hex hmc hms hK hpx kk
theorem V_xcallSg (C : Cx p s m meth c cc nL args Ts own D cA bs) {idx n maxL : Nat} {y : MethodName} {ws ws' : List Cond} {rm : Room} {bytes : ByteArray} {ret : Option FieldType} {As st : List Value} {Post : Option Value → hE → Prop} {PX PX1 : String → hE → Prop} {SZ : State → Prop} {Qc : Array Value → State → Outcome → State → Prop} {mc1 ms1 : Nat} (hM : Mx l D cA bs SZ y ws rm As h Post PX) (hdg : decode cc pc = .ok (.invokestatic idx, 3)) (hT : GoodIn Ts (va_wsS own idx y ws)) (hw : ws = Cond.code y bytes maxL ret :: ws') (hd : y.cls ≠ "java/lang/invoke/MethodHandle" ∧ y.cls ≠ "java/lang/invoke/VarHandle" ∧ (parseMethodDescriptor y.desc).map (fun d => d.parameters.length) = some n) (hn : As.length = n) (hst : As.reverse ++ rest = st) (hcat8 : (rest.map fun v => v.category).sum ≤ 8) (hf : cells + rm.cells ≤ R.cells ∧ slots + rm.slots ≤ R.slots) (hRm : rm.frames + 1 ≤ R.frames ∧ 8 + (maxL + 11) + rm.locals ≤ R.locals) (hmc : cells + rm.cells ≤ mc1) (hms : slots + rm.slots ≤ ms1) (hex : ∀ x ∈ c.exceptionTable.toList, False) (hz : hZ bs s s.heap) (hz1 : hSZ SZ) (hz2 : SZ s) (hpx : ∀ (E : String) (h2 : hE), PX E h2 → PX1 E h2)
    (kk : ∀ (v : Option Value) (h2 : hE), Post v h2 → V p l e R s m args below meth c D bs nL h2 (cells + rm.cells) (slots + rm.slots) (vx_MQ below Qc (hXC D cA bs PX1) args s mc1 ms1 (fun q => bs ≤ q)) (pc + 3) (ls) (v.toList ++ rest)) : V p l e R s m args below meth c D bs nL h cells slots (vx_MQ below Qc (hXC D cA bs PX1) args s mc1 ms1 (fun q => bs ≤ q)) (pc) (ls) (st) := by
  obtain ⟨⟨hx, hb, hml, hown, hts⟩, hK, hbs, hlkm⟩ := C
  intro H locs la hR hS hl
  subst hst
  exact V_xback (vx_runS ⟨hx, hb, hml, hown, hts⟩ hM (va_cwS n hts hT hw rfl rfl hd hRm) ⟨hPx.blind hz1, fun U hU hW => ⟨rfl, by rw [hU]; exact Nat.le_trans hbs hS.1, by rw [hU]; exact hR, va_K.moved hW.alike hK, by rw [hU]; exact hZ.moved hW.alike (hz.kept hS.2.1), hz1.2 s U hW hz2⟩⟩ rfl hn (hl.1) rfl (lv_room hcat8) hdg hf) hbs hS hl hlkm hex hmc hms hK hpx kk
theorem V_throw (C : Cx p s m meth c cc nL args Ts own D cA bs) {Post : Option Value → hE → Prop} {PX : String → hE → Prop} {Qc : Array Value → State → Outcome → State → Prop} {mc ms : Nat} {cls text : String} {names : List String} {ik is ic : Nat} (hlt : l.stackTraces = false) (hcls : Bundle.fit cls = true) (hnames : ∀ n ∈ names, Bundle.fit n = true) (hk : Cond.classLink own ik cls ∈ Ts) (hini : Cond.initialized cls ∈ Ts) (hat : ∀ w ∈ vx_atS own ic cls names, w.before args s = true) (hgood : ∀ w ∈ Cond.classLink own ik cls :: Cond.initialized cls :: vx_atS own ic cls names, vx_ot w = true) (hz : hZ bs s s.heap) (hstr : ∃ sa, vk_R own is text sa s) (hex : ∀ x ∈ c.exceptionTable.toList, False)
    (d0 : decode cc pc = .ok (.new ik, 3)) (d3 : decode cc (pc + 3) = .ok (.dup, 1)) (d4 : decode cc (pc + 4) = .ok (.ldc is, 2)) (d6 : decode cc (pc + 6) = .ok (.invokespecial ic, 3)) (d9 : decode cc (pc + 9) = .ok (.athrow, 1)) (hRf : names.length + 3 < R.frames) (hRl : (rest.map fun v => v.category).sum + (13 * (names.length + 1) + 43) ≤ R.locals) (hRc : cells + 1 ≤ R.cells) (hRs : slots + 6 ≤ R.slots) (hp : PX cls h) (hc : cells + 1 ≤ mc) (hs : slots + 6 ≤ ms) : V p l e R s m args below meth c D bs nL h cells slots (vx_MQ below Qc (hXC D cA bs PX) args s mc ms (fun q => bs ≤ q)) (pc) (ls) (rest) := by
  obtain ⟨⟨hx, hb, hml, hown, hts⟩, hK, hbs, hlkm⟩ := C
  intro H locs la hR hS hl
  obtain ⟨sa, hstr⟩ := hstr
  refine vx_throwS hx hb hlt hown hcls hnames (hts _ hk) (hts _ hini) hstr hat hgood hz.1 hz.2 hS (by rw [hml]; exact hl.1) d0 d3 d4 d6 d9 (fun x hx => (hex x hx).elim) hRf hRl hRc hRs hlkm (fun t hal hsz hq => ⟨⟨h, hp, ?_, va_K.moved hal hK⟩, ?_⟩) hS.2.2 hc hs
  · obtain ⟨ws9, w9, hPw, hDw⟩ := hR
    exact ⟨ws9, w9, hPw.kept (fun k x hx => hq x.1 (hPw k x hx).lt), hDw⟩
  · exact ⟨Nat.le_trans hS.1 hsz, fun q h1 h2 => (hq q (Nat.lt_of_lt_of_le h1 hS.1)).trans (hS.2.1 q h1 h2)⟩
theorem V_callV (C : Cx p s m meth c cc nL args Ts own D cA bs) {idx n maxL : Nat} {y : MethodName} {ws ws' : List Cond} {k : Nat} {bytes : ByteArray} {ret : Option FieldType} {As st : List Value} {Post : Option Value → hE → Prop} {b ci : Nat} {r : vw_C} {fs : List Value} (hM : Mt l D cA bs y ws (rmk k 0 0) (.ref b :: As) h Post) (hdg : decode cc pc = .ok (.invokevirtual idx, 3)) (hT : GoodIn Ts (wsV own idx r.1 y ws)) (hw : ws = Cond.code y bytes maxL ret :: ws') (hh : h b = some (.inr (ci, fs))) (hc : vwCl[ci]? = some r) (hd : y.cls = r.1 ∧ y.cls ≠ "java/lang/invoke/MethodHandle" ∧ y.cls ≠ "java/lang/invoke/VarHandle" ∧ (parseMethodDescriptor y.desc).map (fun d => d.parameters.length) = some n) (hn : As.length = n) (hst : As.reverse ++ .ref b :: rest = st) (hcat8 : (rest.map fun v => v.category).sum ≤ 8) (hf : cells ≤ R.cells ∧ slots ≤ R.slots) (hRm : k + 1 ≤ R.frames ∧ 8 + (maxL + 11) + 40 * k ≤ R.locals)
    (kk : ∀ (v : Option Value) (h2 : hE), Post v h2 → V p l e R s m args below meth c D bs nL h2 (cells) (slots) Q (pc + 3) (ls) (v.toList ++ rest)) : V p l e R s m args below meth c D bs nL h cells slots Q (pc) (ls) (st) := V_callVg (rm := rmk k 0 0) C hM hdg hT hw hh hc hd hn hst hcat8 hf hRm kk
theorem V_callS (C : Cx p s m meth c cc nL args Ts own D cA bs) {idx n maxL : Nat} {y : MethodName} {ws ws' : List Cond} {k : Nat} {bytes : ByteArray} {ret : Option FieldType} {As st : List Value} {Post : Option Value → hE → Prop} (hM : Mt l D cA bs y ws (rmk k 0 0) As h Post) (hdg : decode cc pc = .ok (.invokestatic idx, 3)) (hT : GoodIn Ts (va_wsS own idx y ws)) (hw : ws = Cond.code y bytes maxL ret :: ws') (hd : y.cls ≠ "java/lang/invoke/MethodHandle" ∧ y.cls ≠ "java/lang/invoke/VarHandle" ∧ (parseMethodDescriptor y.desc).map (fun d => d.parameters.length) = some n) (hn : As.length = n) (hst : As.reverse ++ rest = st) (hcat8 : (rest.map fun v => v.category).sum ≤ 8) (hf : cells ≤ R.cells ∧ slots ≤ R.slots) (hRm : k + 1 ≤ R.frames ∧ 8 + (maxL + 11) + 40 * k ≤ R.locals)
    (kk : ∀ (v : Option Value) (h2 : hE), Post v h2 → V p l e R s m args below meth c D bs nL h2 (cells) (slots) Q (pc + 3) (ls) (v.toList ++ rest)) : V p l e R s m args below meth c D bs nL h cells slots Q (pc) (ls) (st) := V_callSg (rm := rmk k 0 0) C hM hdg hT hw hd hn hst hcat8 hf hRm kk
theorem V_callI (C : Cx p s m meth c cc nL args Ts own D cA bs) {idx n maxL : Nat} {y : MethodName} {ws ws' : List Cond} {k : Nat} {bytes : ByteArray} {As st : List Value} {Post : Option Value → hE → Prop} {b : Nat} (hM : Mt l D cA bs y ws (rmk k 0 0) (.ref b :: As) h Post) (hdg : decode cc pc = .ok (.invokespecial idx, 3)) (hT : GoodIn Ts ws) (hw : ws = Cond.code y bytes maxL none :: ws') (hini : Cond.initialized y.cls ∈ Ts) (hlk2 : Cond.methodLink own idx y ∈ Ts) (hin2 : Cond.instanceMethod y ∈ Ts) (hy1 : y.name = "<init>") (hd : y.cls ≠ "java/lang/invoke/MethodHandle" ∧ y.cls ≠ "java/lang/invoke/VarHandle" ∧ (parseMethodDescriptor y.desc).map (fun d => d.parameters.length) = some n) (hn : As.length = n) (hst : As.reverse ++ .ref b :: rest = st) (hcat8 : (rest.map fun v => v.category).sum ≤ 8) (hf : cells ≤ R.cells ∧ slots ≤ R.slots) (hRm : k + 1 ≤ R.frames ∧ 8 + (maxL + 11) + 40 * k ≤ R.locals)
    (kk : ∀ (v : Option Value) (h2 : hE), Post v h2 → V p l e R s m args below meth c D bs nL h2 (cells) (slots) Q (pc + 3) (ls) (v.toList ++ rest)) : V p l e R s m args below meth c D bs nL h cells slots Q (pc) (ls) (st) := V_callIg (rm := rmk k 0 0) C hM hdg hT hw hini hlk2 hin2 hy1 hd hn hst hcat8 hf hRm kk
theorem V_callIN (C : Cx p s m meth c cc nL args Ts own D cA bs) {idx n maxL : Nat} {y : MethodName} {ws ws' : List Cond} {k : Nat} {bytes : ByteArray} {As st : List Value} {Post : Option Value → hE → Prop} {b : Nat} {host : String} (hM : Mt l D cA bs y ws (rmk k 0 0) (.ref b :: As) h Post) (hdg : decode cc pc = .ok (.invokespecial idx, 3)) (hT : GoodIn Ts ws) (hw : ws = Cond.code y bytes maxL none :: ws') (hini : Cond.initialized y.cls ∈ Ts) (hlk2 : va_Nw (.methodLinkNest own idx y host) s) (hin2 : Cond.instanceMethod y ∈ Ts) (hy1 : y.name = "<init>") (hd : y.cls ≠ "java/lang/invoke/MethodHandle" ∧ y.cls ≠ "java/lang/invoke/VarHandle" ∧ (parseMethodDescriptor y.desc).map (fun d => d.parameters.length) = some n) (hn : As.length = n) (hst : As.reverse ++ .ref b :: rest = st) (hcat8 : (rest.map fun v => v.category).sum ≤ 8) (hf : cells ≤ R.cells ∧ slots ≤ R.slots) (hRm : k + 1 ≤ R.frames ∧ 8 + (maxL + 11) + 40 * k ≤ R.locals)
    (kk : ∀ (v : Option Value) (h2 : hE), Post v h2 → V p l e R s m args below meth c D bs nL h2 (cells) (slots) Q (pc + 3) (ls) (v.toList ++ rest)) : V p l e R s m args below meth c D bs nL h cells slots Q (pc) (ls) (st) := V_callINg (rm := rmk k 0 0) C hM hdg hT hw hini hlk2 hin2 hy1 hd hn hst hcat8 hf hRm kk
theorem V_xcallV (C : Cx p s m meth c cc nL args Ts own D cA bs) {idx n maxL : Nat} {y : MethodName} {ws ws' : List Cond} {k : Nat} {bytes : ByteArray} {ret : Option FieldType} {As st : List Value} {Post : Option Value → hE → Prop} {PX PX1 : String → hE → Prop} {SZ : State → Prop} {Qc : Array Value → State → Outcome → State → Prop} {mc1 ms1 : Nat} {b ci : Nat} {r : vw_C} {fs : List Value} (hM : Mx l D cA bs SZ y ws (rmk k 0 0) (.ref b :: As) h Post PX) (hdg : decode cc pc = .ok (.invokevirtual idx, 3)) (hT : GoodIn Ts (wsV own idx r.1 y ws)) (hw : ws = Cond.code y bytes maxL ret :: ws') (hh : h b = some (.inr (ci, fs))) (hc : vwCl[ci]? = some r) (hd : y.cls = r.1 ∧ y.cls ≠ "java/lang/invoke/MethodHandle" ∧ y.cls ≠ "java/lang/invoke/VarHandle" ∧ (parseMethodDescriptor y.desc).map (fun d => d.parameters.length) = some n) (hn : As.length = n) (hst : As.reverse ++ .ref b :: rest = st) (hcat8 : (rest.map fun v => v.category).sum ≤ 8) (hf : cells ≤ R.cells ∧ slots ≤ R.slots) (hRm : k + 1 ≤ R.frames ∧ 8 + (maxL + 11) + 40 * k ≤ R.locals) (hmc : cells ≤ mc1) (hms : slots ≤ ms1) (hex : ∀ x ∈ c.exceptionTable.toList, False) (hz : hZ bs s s.heap) (hz1 : hSZ SZ) (hz2 : SZ s) (hpx : ∀ (E : String) (h2 : hE), PX E h2 → PX1 E h2)
    (kk : ∀ (v : Option Value) (h2 : hE), Post v h2 → V p l e R s m args below meth c D bs nL h2 (cells) (slots) (vx_MQ below Qc (hXC D cA bs PX1) args s mc1 ms1 (fun q => bs ≤ q)) (pc + 3) (ls) (v.toList ++ rest)) : V p l e R s m args below meth c D bs nL h cells slots (vx_MQ below Qc (hXC D cA bs PX1) args s mc1 ms1 (fun q => bs ≤ q)) (pc) (ls) (st) := V_xcallVg (rm := rmk k 0 0) C hM hdg hT hw hh hc hd hn hst hcat8 hf hRm hmc hms hex hz hz1 hz2 hpx kk
theorem V_xcallS (C : Cx p s m meth c cc nL args Ts own D cA bs) {idx n maxL : Nat} {y : MethodName} {ws ws' : List Cond} {k : Nat} {bytes : ByteArray} {ret : Option FieldType} {As st : List Value} {Post : Option Value → hE → Prop} {PX PX1 : String → hE → Prop} {SZ : State → Prop} {Qc : Array Value → State → Outcome → State → Prop} {mc1 ms1 : Nat} (hM : Mx l D cA bs SZ y ws (rmk k 0 0) As h Post PX) (hdg : decode cc pc = .ok (.invokestatic idx, 3)) (hT : GoodIn Ts (va_wsS own idx y ws)) (hw : ws = Cond.code y bytes maxL ret :: ws') (hd : y.cls ≠ "java/lang/invoke/MethodHandle" ∧ y.cls ≠ "java/lang/invoke/VarHandle" ∧ (parseMethodDescriptor y.desc).map (fun d => d.parameters.length) = some n) (hn : As.length = n) (hst : As.reverse ++ rest = st) (hcat8 : (rest.map fun v => v.category).sum ≤ 8) (hf : cells ≤ R.cells ∧ slots ≤ R.slots) (hRm : k + 1 ≤ R.frames ∧ 8 + (maxL + 11) + 40 * k ≤ R.locals) (hmc : cells ≤ mc1) (hms : slots ≤ ms1) (hex : ∀ x ∈ c.exceptionTable.toList, False) (hz : hZ bs s s.heap) (hz1 : hSZ SZ) (hz2 : SZ s) (hpx : ∀ (E : String) (h2 : hE), PX E h2 → PX1 E h2)
    (kk : ∀ (v : Option Value) (h2 : hE), Post v h2 → V p l e R s m args below meth c D bs nL h2 (cells) (slots) (vx_MQ below Qc (hXC D cA bs PX1) args s mc1 ms1 (fun q => bs ≤ q)) (pc + 3) (ls) (v.toList ++ rest)) : V p l e R s m args below meth c D bs nL h cells slots (vx_MQ below Qc (hXC D cA bs PX1) args s mc1 ms1 (fun q => bs ≤ q)) (pc) (ls) (st) := V_xcallSg (rm := rmk k 0 0) C hM hdg hT hw hd hn hst hcat8 hf hRm hmc hms hex hz hz1 hz2 hpx kk
end VM2
