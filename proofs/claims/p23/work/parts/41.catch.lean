/-! the law's helpers: calls that may throw, caught; the array of the answer -/
/-- what the law's helpers need of the tables -/
def SZl (U : State) : Prop := SZr U ∧ va_Nc kIS kIA U ∧ va_Nc kIS kIO U ∧ va_Nc kIA kIO U
theorem SZl.moves : hSZ SZl := by
  refine ⟨fun u U hv z => ?_, fun u U hW z => ?_⟩
  · have ha : u.vm.Alike U.vm := by rw [hv]; exact Vm.Alike.refl _
    exact ⟨SZr.moves.1 u U hv z.1, z.2.1.moved ha, z.2.2.1.moved ha, z.2.2.2.moved ha⟩
  · have ha := hW.alike
    exact ⟨SZr.moves.2 u U hW z.1, z.2.1.moved ha, z.2.2.1.moved ha, z.2.2.2.moved ha⟩
def Mc (l : Launch) (D : va_G) (cA : Nat → ClassId) (bs : Nat) (SZ : State → Prop) (y : MethodName) (ws : List Cond) (rm : Room) (as : List Value) (h : hE) (Post : Option Value → hE → Prop) : Prop := Met l y ws rm (hPx D cA bs SZ h as) (hQ D cA bs Post) rm.cells rm.slots (fun q => bs ≤ q)
theorem Mc_of {l : Launch} {D : va_G} {cA : Nat → ClassId} {bs : Nat} {SZ : State → Prop} {y : MethodName} {ws ws' : List Cond} {rm : Room} {as : List Value} {h : hE} {Post : Option Value → hE → Prop} {cc : ByteArray} {maxL : Nat} {ret : Option FieldType} {own : String} {tb : List (Nat × Nat × Nat × Nat)} (ls0 : List (Option Value))
    (hw : ws = Cond.codeWith y cc maxL ret tb :: ws') (hy : plainName y.cls = true) (hown : y.cls = own) (hc : hcat as = true) (hlen : as.length ≤ maxL) (hls : as.map some ++ List.replicate (maxL - as.length) none = ls0)
    (body : ∀ (p : Program) (e : Env) (s : State) (m : MethodId) (args : Array Value) (below : List Frame) (meth : Method) (c : Code), Cx p s m meth c cc maxL args ws own D cA bs → meth.sig.returnType = ret → c.exceptionTable.toList = tableOf tb → hZ bs s s.heap → SZ s → V p l e rm s m args below meth c D bs maxL h 0 0 (MQ below (hQ D cA bs Post) args s rm.cells rm.slots (fun q => bs ≤ q)) 0 ls0 []) : Mc l D cA bs SZ y ws rm as h Post := by
  refine va_MetW (cc := cc) (maxL := maxL) (ret := ret) hy hw ?_
  intro p e s m args below meth c s₁ B hml hv
  obtain ⟨rfl, hbs, hR, hK, hz, hsz⟩ := hv
  have hown2 : s.vm.findClass own = some m.cls := by rw [← hown]; exact findClass_of_methodNamed B.named
  have hl := lvo_entry (nL := maxL) (hcat_of hc) hlen
  rw [hls] at hl
  rw [lg_entry_eq]
  exact body p e s m _ below meth c ⟨⟨B.exec, B.bytes, hml, hown2, atoms_spec (ws := ws) B.pre⟩, hK, hbs, B.notSynchronized⟩ B.returns (vx_table (x := y) B (atoms_spec (ws := ws) B.pre _ (by rw [hw]; exact List.mem_cons_self))) hz hsz s.heap [] _ hR va_S.rf hl
section VMC
variable {p : Program} {l : Launch} {e : Env} {R : Room} {s : State} {m : MethodId} {args : Array Value} {below : List Frame} {meth : Method} {c : Code} {D : va_G} {cA : Nat → ClassId} {bs nL : Nat} {h : hE} {cells slots : Nat} {Q : State → Prop} {pc : Nat} {ls : List (Option Value)} {rest : List Value} {cc : ByteArray} {Ts : List Cond} {own : String}
/-- a row of the table that takes E -/
def tks (s : State) (c : Code) (Ts : List Cond) (own : String) (pc : Nat) (E : String) (tgt : Nat) : Prop := ∃ (pre : List ExceptionTableEntry) (x : ExceptionTableEntry) (suf : List ExceptionTableEntry) (nm : String), c.exceptionTable.toList = pre ++ x :: suf ∧ (∀ z ∈ pre, z.catchType ≠ 0 ∧ ∃ n : String, Cond.classLink own z.catchType n ∈ Ts ∧ va_Nc E n s) ∧ covers x pc = true ∧ x.catchType ≠ 0 ∧ Cond.classLink own x.catchType nm ∈ Ts ∧ (Cond.castable E nm).before args s = true ∧ x.handlerPc = tgt
theorem V_tback {mc ms : Nat} {Post : Option Value → hE → Prop} {PX : String → hE → Prop} {H : Heap} {locs : List Loc} {la : Array Slot} {st0 : List Value} {a : Array Value} (hr : vx_Run p l e R s m args below meth c H locs cells slots mc ms (F0 m pc la st0) rest (hQ D cA bs Post a) (hXC D cA bs PX) (fun q => bs ≤ q)) (hbs : bs ≤ s.heap.size) (hS : va_S (fun q => bs ≤ q) s.heap H locs) (hl : lvo la nL ls) (hown : s.vm.findClass own = some m.cls) (hts : ∀ w ∈ Ts, w.before args s = true)
    (kx : ∀ (E : String) (h2 : hE), PX E h2 → ∃ tgt, tks (args := args) s c Ts own pc E tgt ∧ ∀ q : Nat, V p l e R s m args below meth c D bs nL h2 (cells + mc) (slots + ms) Q tgt (ls) ([.ref q]))
    (kk : ∀ (v : Option Value) (h2 : hE), Post v h2 → V p l e R s m args below meth c D bs nL h2 (cells + mc) (slots + ms) Q (pc + 3) (ls) (v.toList ++ rest)) : W p l e R s m args below meth c H locs cells slots Q (F0 m pc la st0) := by
  intro T hT X
  rcases hr T hT X with ⟨v, st₀, t, T', L, h0, X', hL, e1, e2, ⟨⟨v2, h2, hv, hp, hR2, hK2⟩, hF⟩, st⟩ | ⟨q, st₀, t, T', L, E, ce, h0, X', hL, e1, e2, ⟨⟨h2, hp, hR2, hK2⟩, hF⟩, hce, hcv, hcl, st⟩
  · cases hv
    obtain ⟨k1, k2, k3⟩ := vx_keep h0 e1 hS (fun _ _ z => z) (fun _ z => z) hL hF
    obtain ⟨t2, a1, b1⟩ := kk v h2 hp T'.heap (locs ++ L) la (by rw [e1]; exact hR2) k3 hl T' rfl X'
    exact ⟨t2, st t2 a1, b1⟩
  · obtain ⟨k1, k2, k3⟩ := vx_keep h0 e1 hS (fun _ _ z => z) (fun _ z => z) hL hF
    obtain ⟨tgt, ⟨pre, x, suf, nm, hsplit, hpass, hx, hx0, hlink, hcast, rfl⟩, kV⟩ := kx E h2 hp
    obtain ⟨t2, a1, b1⟩ := vx_catch (pc := pc) (ls := la) (rest := rest) (q := q) (H := T'.heap) (locs := locs ++ L) (cells := cells + mc) (slots := slots + ms) (Q := Q) hown pre x suf hsplit (fun z hz => Or.inr ⟨(hpass z hz).1, by obtain ⟨n, n1, n2⟩ := (hpass z hz).2; exact ⟨n, hts _ n1, n2⟩⟩) hx hx0 (hts _ hlink) hcast (by rw [e1]; exact hce) hcv hcl (kV q T'.heap (locs ++ L) la (by rw [e1]; exact hR2) k3 hl) T' rfl X'
    exact ⟨t2, st.trans a1, b1⟩
theorem V_tcallV (C : Cx p s m meth c cc nL args Ts own D cA bs) {idx n maxL : Nat} {y : MethodName} {ws ws' : List Cond} {rm : Room} {bytes : ByteArray} {ret : Option FieldType} {As st : List Value} {Post : Option Value → hE → Prop} {PX : String → hE → Prop} {SZ : State → Prop} {b ci : Nat} {r : vw_C} {fs : List Value} (hM : Mx l D cA bs SZ y ws rm (.ref b :: As) h Post PX) (hdg : decode cc pc = .ok (.invokevirtual idx, 3)) (hT : GoodIn Ts (wsV own idx r.1 y ws)) (hw : ws = Cond.code y bytes maxL ret :: ws') (hh : h b = some (.inr (ci, fs))) (hc : vwCl[ci]? = some r) (hd : y.cls = r.1 ∧ y.cls ≠ "java/lang/invoke/MethodHandle" ∧ y.cls ≠ "java/lang/invoke/VarHandle" ∧ (parseMethodDescriptor y.desc).map (fun d => d.parameters.length) = some n) (hn : As.length = n) (hst : As.reverse ++ .ref b :: rest = st) (hcat8 : (rest.map fun v => v.category).sum ≤ 8) (hf : cells + rm.cells ≤ R.cells ∧ slots + rm.slots ≤ R.slots) (hRm : rm.frames + 1 ≤ R.frames ∧ 8 + (maxL + 11) + rm.locals ≤ R.locals) (hz : hZ bs s s.heap) (hz1 : hSZ SZ) (hz2 : SZ s)
    (kx : ∀ (E : String) (h2 : hE), PX E h2 → ∃ tgt, tks (args := args) s c Ts own pc E tgt ∧ ∀ q : Nat, V p l e R s m args below meth c D bs nL h2 (cells + rm.cells) (slots + rm.slots) Q tgt (ls) ([.ref q]))
    (kk : ∀ (v : Option Value) (h2 : hE), Post v h2 → V p l e R s m args below meth c D bs nL h2 (cells + rm.cells) (slots + rm.slots) Q (pc + 3) (ls) (v.toList ++ rest)) : V p l e R s m args below meth c D bs nL h cells slots Q (pc) (ls) (st) := by
  obtain ⟨⟨hx, hb, hml, hown, hts⟩, hK, hbs, hlkm⟩ := C
  intro H locs la hR hS hl
  subst hst
  obtain ⟨ws9, w9, hPw, hDw⟩ := id hR
  obtain ⟨q0, hq⟩ := w9.at hh
  exact V_tback (Ts := Ts) (own := own) (vx_runV ⟨hx, hb, hml, hown, hts⟩ hM (cwV n hts hT hw rfl rfl hd hRm) ⟨hPx.blind hz1, va_recv hK hPw hc hq, fun U hU hW => ⟨rfl, by rw [hU]; exact Nat.le_trans hbs hS.1, by rw [hU]; exact hR, va_K.moved hW.alike hK, by rw [hU]; exact hZ.moved hW.alike (hz.kept hS.2.1), hz1.2 s U hW hz2⟩⟩ rfl hn (hl.1) rfl (lv_room hcat8) hdg hf) hbs hS hl hown hts kx kk
/-- a static call of a helper of the law -/
theorem V_ccallS (C : Cx p s m meth c cc nL args Ts own D cA bs) {idx n maxL : Nat} {y : MethodName} {ws ws' : List Cond} {rm : Room} {bytes : ByteArray} {ret : Option FieldType} {tb : List (Nat × Nat × Nat × Nat)} {As st : List Value} {Post : Option Value → hE → Prop} {SZ : State → Prop} (hM : Mc l D cA bs SZ y ws rm As h Post) (hdg : decode cc pc = .ok (.invokestatic idx, 3)) (hT : GoodIn Ts (va_wsS own idx y ws)) (hw : ws = Cond.codeWith y bytes maxL ret tb :: ws') (hd : y.cls ≠ "java/lang/invoke/MethodHandle" ∧ y.cls ≠ "java/lang/invoke/VarHandle" ∧ (parseMethodDescriptor y.desc).map (fun d => d.parameters.length) = some n) (hn : As.length = n) (hst : As.reverse ++ rest = st) (hcat8 : (rest.map fun v => v.category).sum ≤ 8) (hf : cells + rm.cells ≤ R.cells ∧ slots + rm.slots ≤ R.slots) (hRm : rm.frames + 1 ≤ R.frames ∧ 8 + (maxL + 11) + rm.locals ≤ R.locals) (hz : hZ bs s s.heap) (hz1 : hSZ SZ) (hz2 : SZ s)
    (kk : ∀ (v : Option Value) (h2 : hE), Post v h2 → V p l e R s m args below meth c D bs nL h2 (cells + rm.cells) (slots + rm.slots) Q (pc + 3) (ls) (v.toList ++ rest)) : V p l e R s m args below meth c D bs nL h cells slots Q (pc) (ls) (st) := by
  obtain ⟨⟨hx, hb, hml, hown, hts⟩, hK, hbs, hlkm⟩ := C
  intro H locs la hR hS hl
  subst hst
  exact V_back (vx_runSW ⟨hx, hb, hml, hown, hts⟩ hM (vx_cwSW n hts hT hw rfl rfl hd hRm) ⟨hPx.blind hz1, fun U hU hW => ⟨rfl, by rw [hU]; exact Nat.le_trans hbs hS.1, by rw [hU]; exact hR, va_K.moved hW.alike hK, by rw [hU]; exact hZ.moved hW.alike (hz.kept hS.2.1), hz1.2 s U hW hz2⟩⟩ rfl hn (hl.1) rfl (lv_room hcat8) hdg hf) hbs hS hl kk
/-- the script -/
theorem V_scr (C : Cx p s m meth c cc nL args Ts own D cA bs) {b L : Nat} {xs : Nat → Int32} {i v : Int32} {k : Nat} (hX : va_X b L xs s s.heap) (hbl : b < s.heap.size) (hbA : ¬ bs ≤ b) (hdg : decode cc pc = .ok (.iaload, 1)) (hi : i = nI k) (hk : k < L) (hL : L ≤ 2560) (hv : xs k = v)
    (kk : V p l e R s m args below meth c D bs nL h cells slots Q (pc + 1) (ls) (.int v :: rest)) : V p l e R s m args below meth c D bs nL h cells slots Q (pc) (ls) (.int i :: .ref b :: rest) := by
  obtain ⟨⟨hx, hb, hml, hown, hts⟩, hK, hbs, hlkm⟩ := C
  intro H locs la hR hS hl
  subst hi
  subst hv
  refine va_sld hx hb hX hbl hbA hS (vp_in_iff.mpr ⟨?_, ?_⟩) hdg ?_
  · rw [nI_toInt (by omega)]; omega
  · rw [nI_toInt (by omega)]; omega
  · rw [nI_clamp (by omega)]
    exact kk H locs la hR hS hl
theorem V_slen (C : Cx p s m meth c cc nL args Ts own D cA bs) {b L : Nat} {xs : Nat → Int32} (hX : va_X b L xs s s.heap) (hbl : b < s.heap.size) (hbA : ¬ bs ≤ b) (hdg : decode cc pc = .ok (.arraylength, 1))
    (kk : V p l e R s m args below meth c D bs nL h cells slots Q (pc + 1) (ls) (.int (nI L) :: rest)) : V p l e R s m args below meth c D bs nL h cells slots Q (pc) (ls) (.ref b :: rest) := by
  obtain ⟨⟨hx, hb, hml, hown, hts⟩, hK, hbs, hlkm⟩ := C
  intro H locs la hR hS hl
  exact va_slen hx hb hX hbl hbA hS hdg (kk H locs la hR hS hl)
end VMC
theorem SZr.cast {s : State} {args : Array Value} (z : SZr s) : (Cond.castable kIA kIA).before args s = true ∧ (Cond.castable kIS kIS).before args s = true ∧ (Cond.castable kIO kIO).before args s = true := by
  obtain ⟨q1, q2, q3, -, -, -⟩ := zWs_all z.2.1
  exact ⟨va_tabs rfl rfl q1, va_tabs rfl rfl q2, va_tabs rfl rfl q3⟩
theorem Mc_post {l : Launch} {D : va_G} {cA : Nat → ClassId} {bs : Nat} {SZ : State → Prop} {y : MethodName} {ws : List Cond} {rm : Room} {as : List Value} {h : hE} {P1 P2 : Option Value → hE → Prop} (h1 : Mc l D cA bs SZ y ws rm as h P1) (hp : ∀ (v : Option Value) (h2 : hE), P1 v h2 → P2 v h2) : Mc l D cA bs SZ y ws rm as h P2 := fun p e a b c s m args below hf ha hP hk => by
  obtain ⟨n, o, z1, z2, z3, ⟨⟨v, h2, e1, e2, e3, e4⟩, e5⟩, e6⟩ := h1 p e a b c s m args below hf ha hP hk
  exact ⟨n, o, z1, z2, z3, ⟨⟨v, h2, e1, hp v h2 e2, e3, e4⟩, e5⟩, e6⟩
/-- the same, of a method without a table -/
theorem Mc_of0 {l : Launch} {D : va_G} {cA : Nat → ClassId} {bs : Nat} {SZ : State → Prop} {y : MethodName} {ws ws' : List Cond} {rm : Room} {as : List Value} {h : hE} {Post : Option Value → hE → Prop} {cc : ByteArray} {maxL : Nat} {ret : Option FieldType} {own : String} (ls0 : List (Option Value))
    (hw : ws = Cond.code y cc maxL ret :: ws') (hy : plainName y.cls = true) (hown : y.cls = own) (hc : hcat as = true) (hlen : as.length ≤ maxL) (hls : as.map some ++ List.replicate (maxL - as.length) none = ls0)
    (body : ∀ (p : Program) (e : Env) (s : State) (m : MethodId) (args : Array Value) (below : List Frame) (meth : Method) (c : Code), Cx p s m meth c cc maxL args ws own D cA bs → meth.sig.returnType = ret → hZ bs s s.heap → SZ s → V p l e rm s m args below meth c D bs maxL h 0 0 (MQ below (hQ D cA bs Post) args s rm.cells rm.slots (fun q => bs ≤ q)) 0 ls0 []) : Mc l D cA bs SZ y ws rm as h Post := by
  refine Met.ofW (cc := cc) (maxL := maxL) (ret := ret) hy hw ?_
  intro p e s m args below meth c s₁ B hml hv
  obtain ⟨rfl, hbs, hR, hK, hz, hsz⟩ := hv
  have hown2 : s.vm.findClass own = some m.cls := by rw [← hown]; exact findClass_of_methodNamed B.named
  have hl := lvo_entry (nL := maxL) (hcat_of hc) hlen
  rw [hls] at hl
  rw [lg_entry_eq]
  exact body p e s m _ below meth c ⟨⟨B.exec, B.bytes, hml, hown2, atoms_spec (ws := ws) B.pre⟩, hK, hbs, B.notSynchronized⟩ B.returns hz hsz s.heap [] _ hR va_S.rf hl
/-- a method that reads the script -/
def hPd (D : va_G) (cA : Nat → ClassId) (bs b L : Nat) (xs : Nat → Int32) (h : hE) (as : List Value) : Array Value → State → Prop := va_Pc as (fun U => bs ≤ U.heap.size ∧ hRp D bs h U.heap ∧ va_K D vwCl (tyl cA) U ∧ va_X b L xs U U.heap ∧ b < U.heap.size ∧ ¬ bs ≤ b)
theorem hPd.blind {D : va_G} {cA : Nat → ClassId} {bs b L : Nat} {xs : Nat → Int32} {h : hE} {as : List Value} : FrameBlind (hPd D cA bs b L xs h as) := fun a U g mk q => by
  obtain ⟨q0, q1, q2, q3, q4, q5, q6⟩ := q
  exact ⟨q0, q1, q2, va_K.moved (u := U) (U := U.calling g mk a) (Vm.Alike.refl U.vm) q3, va_X.moved (u := U) (U := U.calling g mk a) (Vm.Alike.refl U.vm) q4, q5, q6⟩
def Md (l : Launch) (D : va_G) (cA : Nat → ClassId) (bs b L : Nat) (xs : Nat → Int32) (y : MethodName) (ws : List Cond) (rm : Room) (as : List Value) (h : hE) (Post : Option Value → hE → Prop) : Prop := Met l y ws rm (hPd D cA bs b L xs h as) (hQ D cA bs Post) rm.cells rm.slots (fun q => bs ≤ q)
theorem Md_of {l : Launch} {D : va_G} {cA : Nat → ClassId} {bs b L : Nat} {xs : Nat → Int32} {y : MethodName} {ws ws' : List Cond} {rm : Room} {as : List Value} {h : hE} {Post : Option Value → hE → Prop} {cc : ByteArray} {maxL : Nat} {ret : Option FieldType} {own : String} (ls0 : List (Option Value))
    (hw : ws = Cond.code y cc maxL ret :: ws') (hy : plainName y.cls = true) (hown : y.cls = own) (hc : hcat as = true) (hlen : as.length ≤ maxL) (hls : as.map some ++ List.replicate (maxL - as.length) none = ls0)
    (body : ∀ (p : Program) (e : Env) (s : State) (m : MethodId) (args : Array Value) (below : List Frame) (meth : Method) (c : Code), Cx p s m meth c cc maxL args ws own D cA bs → meth.sig.returnType = ret → va_X b L xs s s.heap → b < s.heap.size → ¬ bs ≤ b → V p l e rm s m args below meth c D bs maxL h 0 0 (MQ below (hQ D cA bs Post) args s rm.cells rm.slots (fun q => bs ≤ q)) 0 ls0 []) : Md l D cA bs b L xs y ws rm as h Post := by
  refine Met.ofW (cc := cc) (maxL := maxL) (ret := ret) hy hw ?_
  intro p e s m args below meth c s₁ B hml hv
  obtain ⟨rfl, hbs, hR, hK, hX, hbl, hbA⟩ := hv
  have hown2 : s.vm.findClass own = some m.cls := by rw [← hown]; exact findClass_of_methodNamed B.named
  have hl := lvo_entry (nL := maxL) (hcat_of hc) hlen
  rw [hls] at hl
  rw [lg_entry_eq]
  exact body p e s m _ below meth c ⟨⟨B.exec, B.bytes, hml, hown2, atoms_spec (ws := ws) B.pre⟩, hK, hbs, B.notSynchronized⟩ B.returns hX hbl hbA s.heap [] _ hR va_S.rf hl
section VMD
variable {p : Program} {l : Launch} {e : Env} {R : Room} {s : State} {m : MethodId} {args : Array Value} {below : List Frame} {meth : Method} {c : Code} {D : va_G} {cA : Nat → ClassId} {bs nL : Nat} {h : hE} {cells slots : Nat} {Q : State → Prop} {pc : Nat} {ls : List (Option Value)} {rest : List Value} {cc : ByteArray} {Ts : List Cond} {own : String}
theorem V_dcallS (C : Cx p s m meth c cc nL args Ts own D cA bs) {b L : Nat} {xs : Nat → Int32} {idx n maxL : Nat} {y : MethodName} {ws ws' : List Cond} {rm : Room} {bytes : ByteArray} {ret : Option FieldType} {As st : List Value} {Post : Option Value → hE → Prop} (hM : Md l D cA bs b L xs y ws rm As h Post) (hdg : decode cc pc = .ok (.invokestatic idx, 3)) (hT : GoodIn Ts (va_wsS own idx y ws)) (hw : ws = Cond.code y bytes maxL ret :: ws') (hd : y.cls ≠ "java/lang/invoke/MethodHandle" ∧ y.cls ≠ "java/lang/invoke/VarHandle" ∧ (parseMethodDescriptor y.desc).map (fun d => d.parameters.length) = some n) (hn : As.length = n) (hst : As.reverse ++ rest = st) (hcat8 : (rest.map fun v => v.category).sum ≤ 8) (hf : cells + rm.cells ≤ R.cells ∧ slots + rm.slots ≤ R.slots) (hRm : rm.frames + 1 ≤ R.frames ∧ 8 + (maxL + 11) + rm.locals ≤ R.locals) (hX : va_X b L xs s s.heap) (hbl : b < s.heap.size) (hbA : ¬ bs ≤ b)
    (kk : ∀ (v : Option Value) (h2 : hE), Post v h2 → V p l e R s m args below meth c D bs nL h2 (cells + rm.cells) (slots + rm.slots) Q (pc + 3) (ls) (v.toList ++ rest)) : V p l e R s m args below meth c D bs nL h cells slots Q (pc) (ls) (st) := by
  obtain ⟨⟨hx, hb, hml, hown, hts⟩, hK, hbs, hlkm⟩ := C
  intro H locs la hR hS hl
  subst hst
  exact V_back (va_runS ⟨hx, hb, hml, hown, hts⟩ hM (va_cwS n hts hT hw rfl rfl hd hRm) ⟨hPd.blind, fun U hU hW => ⟨rfl, by rw [hU]; exact Nat.le_trans hbs hS.1, by rw [hU]; exact hR, va_K.moved hW.alike hK, by rw [hU]; exact va_X.moved hW.alike (hX.kept (hS.2.1 b hbl hbA)), by rw [hU]; exact Nat.lt_of_lt_of_le hbl hS.1, hbA⟩⟩ rfl hn (hl.1) rfl (lv_room hcat8) hdg hf) hbs hS hl kk
/-- a static call of a method of the law that has no table -/
theorem V_pcallS (C : Cx p s m meth c cc nL args Ts own D cA bs) {idx n maxL : Nat} {y : MethodName} {ws ws' : List Cond} {rm : Room} {bytes : ByteArray} {ret : Option FieldType} {As st : List Value} {Post : Option Value → hE → Prop} {SZ : State → Prop} (hM : Mc l D cA bs SZ y ws rm As h Post) (hdg : decode cc pc = .ok (.invokestatic idx, 3)) (hT : GoodIn Ts (va_wsS own idx y ws)) (hw : ws = Cond.code y bytes maxL ret :: ws') (hd : y.cls ≠ "java/lang/invoke/MethodHandle" ∧ y.cls ≠ "java/lang/invoke/VarHandle" ∧ (parseMethodDescriptor y.desc).map (fun d => d.parameters.length) = some n) (hn : As.length = n) (hst : As.reverse ++ rest = st) (hcat8 : (rest.map fun v => v.category).sum ≤ 8) (hf : cells + rm.cells ≤ R.cells ∧ slots + rm.slots ≤ R.slots) (hRm : rm.frames + 1 ≤ R.frames ∧ 8 + (maxL + 11) + rm.locals ≤ R.locals) (hz : hZ bs s s.heap) (hz1 : hSZ SZ) (hz2 : SZ s)
    (kk : ∀ (v : Option Value) (h2 : hE), Post v h2 → V p l e R s m args below meth c D bs nL h2 (cells + rm.cells) (slots + rm.slots) Q (pc + 3) (ls) (v.toList ++ rest)) : V p l e R s m args below meth c D bs nL h cells slots Q (pc) (ls) (st) := by
  obtain ⟨⟨hx, hb, hml, hown, hts⟩, hK, hbs, hlkm⟩ := C
  intro H locs la hR hS hl
  subst hst
  exact V_back (va_runS ⟨hx, hb, hml, hown, hts⟩ hM (va_cwS n hts hT hw rfl rfl hd hRm) ⟨hPx.blind hz1, fun U hU hW => ⟨rfl, by rw [hU]; exact Nat.le_trans hbs hS.1, by rw [hU]; exact hR, va_K.moved hW.alike hK, by rw [hU]; exact hZ.moved hW.alike (hz.kept hS.2.1), hz1.2 s U hW hz2⟩⟩ rfl hn (hl.1) rfl (lv_room hcat8) hdg hf) hbs hS hl kk
end VMD
/-- two workshops in one heap -/
def TW (cA : Nat → ClassId) (x y : Nat) (A B : XS) (h : hE) : Prop := ∃ Za ta Zb tb, (XR cA Za A ta h ∧ tyv Za A ta ∧ Za 0 0 = x) ∧ (XR cA Zb B tb h ∧ tyv Zb B tb ∧ Zb 0 0 = y) ∧ (∀ a i b j, xvd A a i → xvd B b j → Za a i ≠ Zb b j) ∧ CI 0 A ∧ CI 0 B
def Wst (cA : Nat → ClassId) (Z : Nat → Nat → Nat) (X : XS) (h : hE) (sp : Sp) : Option Value → hE → Prop := fun v h2 => v = some (.int (an sp)) ∧ ∃ Z2 ta2, XR cA Z2 sp.2.2 ta2 h2 ∧ tyv Z2 sp.2.2 ta2 ∧ Z2 0 0 = Z 0 0 ∧ zfr Z X Z2 sp.2.2 h h2
theorem zfr.keep {cA : Nat → ClassId} {Za Z2 Zb : Nat → Nat → Nat} {A A2 B : XS} {tb : Nat → Nat → Option Nat} {h h2 : hE} (f : zfr Za A Z2 A2 h h2) (r : XR cA Zb B tb h) (hd : ∀ a i b j, xvd A a i → xvd B b j → Za a i ≠ Zb b j) : XR cA Zb B tb h2 ∧ ∀ a i b j, xvd A2 a i → xvd B b j → Z2 a i ≠ Zb b j := by
  refine ⟨⟨fun b j hv => f.1 _ _ (r.1 b j hv) (fun a i ha z => hd a i b j ha hv z.symm), r.2⟩, fun a i b j ha hv z => ?_⟩
  rcases f.2 a i ha with ⟨a2, i2, h3, h4⟩ | h3
  · exact hd a2 i2 b j h3 hv (h4.symm.trans z)
  · rw [z, r.1 b j hv] at h3
    cases h3
theorem TW.a {cA : Nat → ClassId} {Za Zb : Nat → Nat → Nat} {A B : XS} {sp : Sp} {tb : Nat → Nat → Option Nat} {h h2 : hE} {v : Option Value} (hw : Wst cA Za A h sp v h2) (r : XR cA Zb B tb h) (t : tyv Zb B tb) (hd : ∀ a i b j, xvd A a i → xvd B b j → Za a i ≠ Zb b j) (hA : CI 0 sp.2.2) (hB : CI 0 B) : TW cA (Za 0 0) (Zb 0 0) sp.2.2 B h2 := by
  obtain ⟨-, Z2, t2, r2, ty2, z2, f2⟩ := hw
  obtain ⟨k1, k2⟩ := f2.keep r hd
  exact ⟨Z2, t2, Zb, tb, ⟨r2, ty2, z2⟩, ⟨k1, t, rfl⟩, k2, hA, hB⟩
theorem TW.b {cA : Nat → ClassId} {Za Zb : Nat → Nat → Nat} {A B : XS} {sp : Sp} {ta : Nat → Nat → Option Nat} {h h2 : hE} {v : Option Value} (hw : Wst cA Zb B h sp v h2) (r : XR cA Za A ta h) (t : tyv Za A ta) (hd : ∀ a i b j, xvd A a i → xvd B b j → Za a i ≠ Zb b j) (hA : CI 0 A) (hB : CI 0 sp.2.2) : TW cA (Za 0 0) (Zb 0 0) A sp.2.2 h2 := by
  obtain ⟨-, Z2, t2, r2, ty2, z2, f2⟩ := hw
  obtain ⟨k1, k2⟩ := f2.keep r (fun b j a i hb ha z => hd a i b j ha hb z.symm)
  exact ⟨Za, ta, Z2, t2, ⟨k1, t, rfl⟩, ⟨r2, ty2, z2⟩, fun a i b j ha hb z => k2 b j a i hb ha z.symm, hA, hB⟩
theorem TW.ci {cA : Nat → ClassId} {x y : Nat} {A B : XS} {h : hE} (t : TW cA x y A B h) : CI 0 A ∧ CI 0 B := by
  obtain ⟨_, _, _, _, _, _, _, h1, h2⟩ := t
  exact ⟨h1, h2⟩
