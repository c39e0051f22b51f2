/-! the law's helpers: calls that may throw, caught; the array of the answer -/
/-- what the law's helpers need of the tables -/
def SZl (U : State) : Prop := SZr U ∧ va_Nc kIS kIA U ∧ va_Nc kIS kIO U ∧ va_Nc kIA kIO U
theorem SZl.moves : hSZ SZl := by
  refine ⟨fun u U hv z => ?_, fun u U hW z => ?_⟩
  · have ha : u.vm.Alike U.vm := by rw [hv]; exact Vm.Alike.refl _
    exact ⟨SZr.moves.1 u U hv z.1, z.2.1.moved ha, z.2.2.1.moved ha, z.2.2.2.moved ha⟩
  · have ha := hW.alike
    exact ⟨SZr.moves.2 u U hW z.1, z.2.1.moved ha, z.2.2.1.moved ha, z.2.2.2.moved ha⟩
def Mc (l : Launch) (D : va_G) (cA : Nat → ClassId) (bs : Nat) (SZ : State → Prop) (y : MethodName) (ws : List Cond) (rm : Room) (as : List Value) (h : hE) (Post : Option Value → hE → Prop) : Prop := Met l y ws rm (hPx D cA bs SZ h as) (hQ D cA bs Post) rm.cells rm.slots (fun q => bs ≤ q)
theorem Mc_of {l : Launch} {D : va_G} {cA : Nat → ClassId} {bs : Nat} {SZ : State → Prop} {y : MethodName} {ws ws' : List Cond} {rm : Room} {as : List Value} {h : hE} {Post : Option Value → hE → Prop} {cc : ByteArray} {maxL : Nat} {ret : Option FieldType} {own : String} {tb : List (Nat × Nat × Nat × Nat)} (ls0 : List (Option Value))
    (hw : ws = Cond.codeWith y cc maxL ret tb :: ws') (hy : plainName y.cls = true) (hown : y.cls = own) (hc : hcat as = true) (hlen : as.length ≤ maxL) (hls : as.map some ++ List.replicate (maxL - as.length) none = ls0)
    (body : ∀ (p : Program) (e : Env) (s : State) (m : MethodId) (args : Array Value) (below : List Frame) (meth : Method) (c : Code), Cx p s m meth c cc maxL args ws own D cA bs → meth.sig.returnType = ret → c.exceptionTable.toList = tableOf tb → hZ bs s s.heap → SZ s → V p l e rm s m args below meth c D bs maxL h 0 0 (MQ below (hQ D cA bs Post) args s rm.cells rm.slots (fun q => bs ≤ q)) 0 ls0 []) : Mc l D cA bs SZ y ws rm as h Post := by
  refine va_MetW (cc := cc) (maxL := maxL) (ret := ret) hy hw ?_
  intro p e s m args below meth c s₁ B hml hv
  obtain ⟨rfl, hbs, hR, hK, hz, hsz⟩ := hv
  have hown2 : s.vm.findClass own = some m.cls := by rw [← hown]; exact findClass_of_methodNamed B.named
  have hl := lvo_entry (nL := maxL) (hcat_of hc) hlen
  rw [hls] at hl
  rw [lg_entry_eq]
  exact body p e s m _ below meth c ⟨⟨B.exec, B.bytes, hml, hown2, atoms_spec (ws := ws) B.pre⟩, hK, hbs, B.notSynchronized⟩ B.returns (vx_table (x := y) B (atoms_spec (ws := ws) B.pre _ (by rw [hw]; exact List.mem_cons_self))) hz hsz s.heap [] _ hR va_S.rf hl
section VMC
variable {p : Program} {l : Launch} {e : Env} {R : Room} {s : State} {m : MethodId} {args : Array Value} {below : List Frame} {meth : Method} {c : Code} {D : va_G} {cA : Nat → ClassId} {bs nL : Nat} {h : hE} {cells slots : Nat} {Q : State → Prop} {pc : Nat} {ls : List (Option Value)} {rest : List Value} {cc : ByteArray} {Ts : List Cond} {own : String}
/-- a row of the table that takes E -/
def tks (s : State) (c : Code) (Ts : List Cond) (own : String) (pc : Nat) (E : String) (tgt : Nat) : Prop := ∃ (pre : List ExceptionTableEntry) (x : ExceptionTableEntry) (suf : List ExceptionTableEntry) (nm : String), c.exceptionTable.toList = pre ++ x :: suf ∧ (∀ z ∈ pre, z.catchType ≠ 0 ∧ ∃ n : String, Cond.classLink own z.catchType n ∈ Ts ∧ va_Nc E n s) ∧ covers x pc = true ∧ x.catchType ≠ 0 ∧ Cond.classLink own x.catchType nm ∈ Ts ∧ (Cond.castable E nm).before args s = true ∧ x.handlerPc = tgt
theorem V_tback {mc ms : Nat} {Post : Option Value → hE → Prop} {PX : String → hE → Prop} {H : Heap} {locs : List Loc} {la : Array Slot} {st0 : List Value} {a : Array Value} (hr : vx_Run p l e R s m args below meth c H locs cells slots mc ms (F0 m pc la st0) rest (hQ D cA bs Post a) (hXC D cA bs PX) (fun q => bs ≤ q)) (hbs : bs ≤ s.heap.size) (hS : va_S (fun q => bs ≤ q) s.heap H locs) (hl : lvo la nL ls) (hown : s.vm.findClass own = some m.cls) (hts : ∀ w ∈ Ts, w.before args s = true)
    (kx : ∀ (E : String) (h2 : hE), PX E h2 → ∃ tgt, tks (args := args) s c Ts own pc E tgt ∧ ∀ q : Nat, V p l e R s m args below meth c D bs nL h2 (cells + mc) (slots + ms) Q tgt (ls) ([.ref q]))
    (kk : ∀ (v : Option Value) (h2 : hE), Post v h2 → V p l e R s m args below meth c D bs nL h2 (cells + mc) (slots + ms) Q (pc + 3) (ls) (v.toList ++ rest)) : W p l e R s m args below meth c H locs cells slots Q (F0 m pc la st0) := by
  intro T hT X
  rcases hr T hT X with ⟨v, st₀, t, T', L, h0, X', hL, e1, e2, ⟨⟨v2, h2, hv, hp, hR2, hK2⟩, hF⟩, st⟩ | ⟨q, st₀, t, T', L, E, ce, h0, X', hL, e1, e2, ⟨⟨h2, hp, hR2, hK2⟩, hF⟩, hce, hcv, hcl, st⟩
  · cases hv
    obtain ⟨k1, k2, k3⟩ := vx_keep h0 e1 hS (fun _ _ z => z) (fun _ z => z) hL hF
    obtain ⟨t2, a1, b1⟩ := kk v h2 hp T'.heap (locs ++ L) la (by rw [e1]; exact hR2) k3 hl T' rfl X'
    exact ⟨t2, st t2 a1, b1⟩
  · obtain ⟨k1, k2, k3⟩ := vx_keep h0 e1 hS (fun _ _ z => z) (fun _ z => z) hL hF
    obtain ⟨tgt, ⟨pre, x, suf, nm, hsplit, hpass, hx, hx0, hlink, hcast, rfl⟩, kV⟩ := kx E h2 hp
    obtain ⟨t2, a1, b1⟩ := vx_catch (pc := pc) (ls := la) (rest := rest) (q := q) (H := T'.heap) (locs := locs ++ L) (cells := cells + mc) (slots := slots + ms) (Q := Q) hown pre x suf hsplit (fun z hz => Or.inr ⟨(hpass z hz).1, by obtain ⟨n, n1, n2⟩ := (hpass z hz).2; exact ⟨n, hts _ n1, n2⟩⟩) hx hx0 (hts _ hlink) hcast (by rw [e1]; exact hce) hcv hcl (kV q T'.heap (locs ++ L) la (by rw [e1]; exact hR2) k3 hl) T' rfl X'
    exact ⟨t2, st.trans a1, b1⟩
theorem V_tcallV (C : Cx p s m meth c cc nL args Ts own D cA bs) {idx n maxL : Nat} {y : MethodName} {ws ws' : List Cond} {rm : Room} {bytes : ByteArray} {ret : Option FieldType} {As st : List Value} {Post : Option Value → hE → Prop} {PX : String → hE → Prop} {SZ : State → Prop} {b ci : Nat} {r : vw_C} {fs : List Value} (hM : Mx l D cA bs SZ y ws rm (.ref b :: As) h Post PX) (hdg : decode cc pc = .ok (.invokevirtual idx, 3)) (hT : GoodIn Ts (wsV own idx r.1 y ws)) (hw : ws = Cond.code y bytes maxL ret :: ws') (hh : h b = some (.inr (ci, fs))) (hc : vwCl[ci]? = some r) (hd : y.cls = r.1 ∧ y.cls ≠ "java/lang/invoke/MethodHandle" ∧ y.cls ≠ "java/lang/invoke/VarHandle" ∧ (parseMethodDescriptor y.desc).map (fun d => d.parameters.length) = some n) (hn : As.length = n) (hst : As.reverse ++ .ref b :: rest = st) (hcat8 : (rest.map fun v => v.category).sum ≤ 8) (hf : cells + rm.cells ≤ R.cells ∧ slots + rm.slots ≤ R.slots) (hRm : rm.frames + 1 ≤ R.frames ∧ 8 + (maxL + 11) + rm.locals ≤ R.locals) (hz : hZ bs s s.heap) (hz1 : hSZ SZ) (hz2 : SZ s)
    (kx : ∀ (E : String) (h2 : hE), PX E h2 → ∃ tgt, tks (args := args) s c Ts own pc E tgt ∧ ∀ q : Nat, V p l e R s m args below meth c D bs nL h2 (cells + rm.cells) (slots + rm.slots) Q tgt (ls) ([.ref q]))
    (kk : ∀ (v : Option Value) (h2 : hE), Post v h2 → V p l e R s m args below meth c D bs nL h2 (cells + rm.cells) (slots + rm.slots) Q (pc + 3) (ls) (v.toList ++ rest)) : V p l e R s m args below meth c D bs nL h cells slots Q (pc) (ls) (st) := by
  obtain ⟨⟨hx, hb, hml, hown, hts⟩, hK, hbs, hlkm⟩ := C
  intro H locs la hR hS hl
  subst hst
  obtain ⟨ws9, w9, hPw, hDw⟩ := id hR
  obtain ⟨q0, hq⟩ := w9.at hh
  exact V_tback (Ts := Ts) (own := own) (vx_runV ⟨hx, hb, hml, hown, hts⟩ hM (cwV n hts hT hw rfl rfl hd hRm) ⟨hPx.blind hz1, va_recv hK hPw hc hq, fun U hU hW => ⟨rfl, by rw [hU]; exact Nat.le_trans hbs hS.1, by rw [hU]; exact hR, va_K.moved hW.alike hK, by rw [hU]; exact hZ.moved hW.alike (hz.kept hS.2.1), hz1.2 s U hW hz2⟩⟩ rfl hn (hl.1) rfl (lv_room hcat8) hdg hf) hbs hS hl hown hts kx kk
/-- a static call of a helper of the law -/
theorem V_ccallS (C : Cx p s m meth c cc nL args Ts own D cA bs) {idx n maxL : Nat} {y : MethodName} {ws ws' : List Cond} {rm : Room} {bytes : ByteArray} {ret : Option FieldType} {tb : List (Nat × Nat × Nat × Nat)} {As st : List Value} {Post : Option Value → hE → Prop} {SZ : State → Prop} (hM : Mc l D cA bs SZ y ws rm As h Post) (hdg : decode cc pc = .ok (.invokestatic idx, 3)) (hT : GoodIn Ts (va_wsS own idx y ws)) (hw : ws = Cond.codeWith y bytes maxL ret tb :: ws') (hd : y.cls ≠ "java/lang/invoke/MethodHandle" ∧ y.cls ≠ "java/lang/invoke/VarHandle" ∧ (parseMethodDescriptor y.desc).map (fun d => d.parameters.length) = some n) (hn : As.length = n) (hst : As.reverse ++ rest = st) (hcat8 : (rest.map fun v => v.category).sum ≤ 8) (hf : cells + rm.cells ≤ R.cells ∧ slots + rm.slots ≤ R.slots) (hRm : rm.frames + 1 ≤ R.frames ∧ 8 + (maxL + 11) + rm.locals ≤ R.locals) (hz : hZ bs s s.heap) (hz1 : hSZ SZ) (hz2 : SZ s)
    (kk : ∀ (v : Option Value) (h2 : hE), Post v h2 → V p l e R s m args below meth c D bs nL h2 (cells + rm.cells) (slots + rm.slots) Q (pc + 3) (ls) (v.toList ++ rest)) : V p l e R s m args below meth c D bs nL h cells slots Q (pc) (ls) (st) := by
  obtain ⟨⟨hx, hb, hml, hown, hts⟩, hK, hbs, hlkm⟩ := C
  intro H locs la hR hS hl
  subst hst
  exact V_back (vx_runSW ⟨hx, hb, hml, hown, hts⟩ hM (vx_cwSW n hts hT hw rfl rfl hd hRm) ⟨hPx.blind hz1, fun U hU hW => ⟨rfl, by rw [hU]; exact Nat.le_trans hbs hS.1, by rw [hU]; exact hR, va_K.moved hW.alike hK, by rw [hU]; exact hZ.moved hW.alike (hz.kept hS.2.1), hz1.2 s U hW hz2⟩⟩ rfl hn (hl.1) rfl (lv_room hcat8) hdg hf) hbs hS hl kk
/-- the script -/
theorem V_scr (C : Cx p s m meth c cc nL args Ts own D cA bs) {b L : Nat} {xs : Nat → Int32} {i v : Int32} {k : Nat} (hX : va_X b L xs s s.heap) (hbl : b < s.heap.size) (hbA : ¬ bs ≤ b) (hdg : decode cc pc = .ok (.iaload, 1)) (hi : i = nI k) (hk : k < L) (hL : L ≤ 2560) (hv : xs k = v)
    (kk : V p l e R s m args below meth c D bs nL h cells slots Q (pc + 1) (ls) (.int v :: rest)) : V p l e R s m args below meth c D bs nL h cells slots Q (pc) (ls) (.int i :: .ref b :: rest) := by
  obtain ⟨⟨hx, hb, hml, hown, hts⟩, hK, hbs, hlkm⟩ := C
  intro H locs la hR hS hl
  subst hi
  subst hv
  refine va_sld hx hb hX hbl hbA hS (vp_in_iff.mpr ⟨?_, ?_⟩) hdg ?_
  · rw [nI_toInt (by omega)]; omega
  · rw [nI_toInt (by omega)]; omega
  · rw [nI_clamp (by omega)]
    exact kk H locs la hR hS hl
theorem V_slen (C : Cx p s m meth c cc nL args Ts own D cA bs) {b L : Nat} {xs : Nat → Int32} (hX : va_X b L xs s s.heap) (hbl : b < s.heap.size) (hbA : ¬ bs ≤ b) (hdg : decode cc pc = .ok (.arraylength, 1))
    (kk : V p l e R s m args below meth c D bs nL h cells slots Q (pc + 1) (ls) (.int (nI L) :: rest)) : V p l e R s m args below meth c D bs nL h cells slots Q (pc) (ls) (.ref b :: rest) := by
  obtain ⟨⟨hx, hb, hml, hown, hts⟩, hK, hbs, hlkm⟩ := C
  intro H locs la hR hS hl
  exact va_slen hx hb hX hbl hbA hS hdg (kk H locs la hR hS hl)
end VMC
/-- the array of the answer -/
abbrev lar (cl : ClassId) (f : Nat → Int64) : va_E := .inl (cl, 1, .inr (.inl f))
def ofr (o : Nat) (h h2 : hE) : Prop := ∀ q e, h q = some e → fgn e → q ≠ o → h2 q = some e
section WST
variable {cA : Nat → ClassId} {Z : Nat → Nat → Nat} {A : Nat → Nat} {X : XS} {ta : Nat → Nat → Option Nat} {h h2 : hE} {o : Nat} {f : Nat → Int64} {I : MI} {F : MF} {n : MN}
theorem XR.lar (r : XR cA Z X ta h) (ho : h o = some (lar (cA 3) f)) (e : va_E) : XR cA Z X ta (hset h o e) := ⟨fun a i hv => by
  rw [hset_n (Ne.symm (r.notf ho trivial a i hv))]
  exact r.1 a i hv, r.2⟩
theorem mct_fgn {j : Nat} : fgn (mct cA A I F n j) := by
  unfold mct
  split
  · exact (rfl : (5 : Nat) = 5)
  · unfold marr
    split
    · trivial
    · trivial
def ltag (e : va_E) : Nat := match e with
  | .inl (_, _, .inr (.inl _)) => 1
  | _ => 0
theorem mct_ne {j : Nat} {cl : ClassId} : mct cA A I F n j ≠ lar cl f := by
  unfold mct
  split
  · exact fun z => absurd (show (0 : Nat) = 1 from congrArg ltag z) (by decide)
  · unfold marr
    split
    · exact fun z => absurd (show (0 : Nat) = 1 from congrArg ltag z) (by decide)
    · exact fun z => absurd (show (0 : Nat) = 1 from congrArg ltag z) (by decide)
theorem MR.ofr (r : MR cA A I F n h) (ho : h o = some (lar (cA 3) f)) (k : ofr o h h2) : MR cA A I F n h2 := ⟨fun j hv => k _ _ (r.1 j hv) mct_fgn (fun z => by
  have h1 := r.1 j hv
  rw [z, ho] at h1
  exact mct_ne (Option.some.inj h1).symm), r.2⟩
theorem xct_nr {a i : Nat} : ¬ rgn (xct cA Z X ta a i) := by
  match a with
  | 0 => match i with
    | 0 => exact (by decide : ¬ (4 : Nat) = 5)
    | 1 => exact fun z => z
    | 2 => exact fun z => z
    | i + 3 => exact fun z => z
  | 1 => exact (by decide : ¬ (2 : Nat) = 5)
  | 2 => exact (by decide : ¬ (3 : Nat) = 5)
  | 3 => exact fun z => z
  | 4 => exact (by decide : ¬ (1 : Nat) = 5)
  | 5 => exact fun z => z
  | p + 6 => exact (by decide : ¬ (0 : Nat) = 5)
theorem XR.mfr (r : XR cA Z X ta h) (k : mfr h h2) : XR cA Z X ta h2 := ⟨fun a i hv => k _ _ (r.1 a i hv) xct_nr, r.2⟩
theorem lar_mfr (ho : h o = some (lar (cA 3) f)) (k : mfr h h2) : h2 o = some (lar (cA 3) f) := k _ _ ho (fun z => z)
end WST
def Wst (cA : Nat → ClassId) (Z : Nat → Nat → Nat) (o : Nat) (c1 c2 : String) (h : hE) (sp : Sp) : Option Value → hE → Prop := fun v h2 => v = some (.int (cod c1 c2 sp.1)) ∧ (∃ Z2 ta2, XR cA Z2 sp.2.2 ta2 h2 ∧ tyv Z2 sp.2.2 ta2 ∧ Z2 0 0 = Z 0 0) ∧ (∃ f, h2 o = some (lar (cA 3) f) ∧ (sp.1 = none → f 0 = sp.2.1.toInt64)) ∧ ofr o h h2
