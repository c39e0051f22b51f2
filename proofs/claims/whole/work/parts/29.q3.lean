/-! the reference's calls: send, crew, tray, load, and those that only tell -/
section VRAW
variable {p : Program} {l : Launch} {e : Env} {R : Room} {s : State} {m : MethodId} {args : Array Value} {below : List Frame} {meth : Method} {c : Code} {D : va_G} {cA : Nat → ClassId} {bs nL : Nat} {h : hE} {cells slots : Nat} {Q : State → Prop} {pc : Nat} {ls : List (Option Value)} {rest : List Value} {cc : ByteArray} {Ts : List Cond} {own : String}
theorem V_rawbits (C : Cx p s m meth c cc nL args Ts own D cA bs) {index : Nat} {b : UInt32} (hdg : decode cc pc = .ok (.invokestatic index, 3)) (hlk : Cond.methodLink own index ⟨"java/lang/Float", "floatToRawIntBits", "(F)I"⟩ ∈ Ts) (hnat : Cond.native ⟨"java/lang/Float", "floatToRawIntBits", "(F)I"⟩ ∈ Ts) (hstat : Cond.static ⟨"java/lang/Float", "floatToRawIntBits", "(F)I"⟩ ∈ Ts) (hini : Cond.initialized "java/lang/Float" ∈ Ts) (hfr : 1 ≤ R.frames) (hlo : (rest.map fun v => v.category).sum + 15 ≤ R.locals)
    (k : V p l e R s m args below meth c D bs nL h cells slots Q (pc + 3) ls (.int b.toInt32 :: rest)) : V p l e R s m args below meth c D bs nL h cells slots Q pc ls (.float b :: rest) := by
  obtain ⟨⟨hx, hb, hml, hown, hts⟩, hK, hbs, hlkm⟩ := C
  intro H locs la hR hS hl
  exact vn_f2i hx hb (by rw [hml]; exact hl.1.symm) hown (hts _ hlk) (hts _ hnat) (hts _ hstat) (hts _ hini) hfr hlo hdg (k H locs la hR hS hl)
end VRAW
theorem Met_ofWF {l : Launch} {y : MethodName} {ws ws' : List Cond} {rm : Room} {Pc : Array Value → State → Prop} {Qc : Array Value → State → Outcome → State → Prop} {mc ms : Nat} {free : Addr → Prop} {cc : ByteArray} {maxL : Nat} {ret : Option FieldType}
    (hy : plainFor y = true) (hw : ws = Cond.code y cc maxL ret :: ws')
    (body : ∀ p e s m args below meth c s₁, BodyLoose p l y (headSpec ws rm) cc maxL ret e s m args below meth c s₁ → c.maxLocals = maxL → Pc args s →
      W p l e (headSpec ws rm).room s m args below meth c s.heap [] 0 0 (MQ below Qc args s mc ms free) (entryFrame m args maxL)) : Met l y ws rm Pc Qc mc ms free := by
  refine MetFree.of_bodySF (code := cc) (maxLocals := maxL) (ret := ret) hy ?_ ?_
  · intro args s m h hn
    obtain ⟨meth, c, h1, h2, h3, h4, h5, h6, -, -⟩ := Cond.code_spec hn (atoms_spec (ws := ws) h _ (by rw [hw]; exact List.mem_cons_self))
    exact ⟨meth, c, h1, h2, h3, h4, h5, h6⟩
  · intro p e s m args below meth c s₁ B hml hP _
    have hh0 : s₁.heap = s.heap := by rw [B.state]; rfl
    obtain ⟨t, a1, o, b1, b2, b3⟩ := body p e s m args below meth c s₁ B hml hP s₁ hh0 (Stand.of_body B)
    exact ⟨t, o, a1, b1, b2, ⟨b3.1, b3.2⟩⟩
theorem Mt_ofF {l : Launch} {D : va_G} {cA : Nat → ClassId} {bs : Nat} {y : MethodName} {ws ws' : List Cond} {rm : Room} {as : List Value} {h : hE} {Post : Option Value → hE → Prop} {cc : ByteArray} {maxL : Nat} {ret : Option FieldType} {own : String} (ls0 : List (Option Value))
    (hw : ws = Cond.code y cc maxL ret :: ws') (hy : plainFor y = true) (hown : y.cls = own) (hc : hcat as = true) (hlen : as.length ≤ maxL) (hls : as.map some ++ List.replicate (maxL - as.length) none = ls0)
    (body : ∀ (p : Program) (e : Env) (s : State) (m : MethodId) (args : Array Value) (below : List Frame) (meth : Method) (c : Code), Cx p s m meth c cc maxL args ws own D cA bs → meth.sig.returnType = ret → meth.name = y.name → V p l e rm s m args below meth c D bs maxL h 0 0 (MQ below (hQ D cA bs Post) args s rm.cells rm.slots (fun q => bs ≤ q)) 0 ls0 []) : Mt l D cA bs y ws rm as h Post := by
  refine Met_ofWF (cc := cc) (maxL := maxL) (ret := ret) hy hw ?_
  intro p e s m args below meth c s₁ B hml hv
  obtain ⟨rfl, hbs, hR, hK⟩ := hv
  have hown2 : s.vm.findClass own = some m.cls := by rw [← hown]; exact findClass_of_methodNamed B.named
  have hl := lvo_entry (nL := maxL) (hcat_of hc) hlen
  rw [hls] at hl
  rw [lg_entry_eq]
  exact body p e s m _ below meth c ⟨⟨B.exec, B.bytes, hml, hown2, atoms_spec (ws := ws) B.pre⟩, hK, hbs, B.notSynchronized⟩ B.returns (name_of_methodNamed B.named B.method).1 s.heap [] _ hR va_S.rf hl
section RPUB3
variable {l : Launch} {D : va_G} {cA : Nat → ClassId} {bs : Nat} {A : Nat → Nat} {I : MI} {F : MF} {h : hE} {X : XS} {th : Int32} {M : Nat}
set_option maxHeartbeats 4000000 in
set_option maxRecDepth 100000 in
theorem j_isNaN {x : UInt32} (hx : FP.Core.val32 x ≠ .nan) : Mt l D cA bs yJxf58ca_isNaN_12338 wsJxf58ca_isNaN_12338 (rmk 0 0 0) [.float x] h (fun v h2 => v = some (.int 0) ∧ h2 = h) := by
  have hc := FP.Core.fcmp_self hx
  refine Mt_ofF (cc := cJxf58ca_isNaN_12338) (maxL := 1) (ret := (some .boolean)) (own := RJxf58ca) [some (.float x)] rfl (by decide +kernel) rfl rfl (by exact Nat.le_of_ble_eq_true rfl) rfl ?_
  intro p9 e9 s9 m9 args9 below9 meth9 c9 C hr hnm
  refine V_fload_n (i := 0) C dJxf58ca_isNaN_12338_0 rfl rfl ?_
  refine V_fload_n (i := 0) C dJxf58ca_isNaN_12338_1 rfl rfl ?_
  refine V_fcmp C dJxf58ca_isNaN_12338_2 ?_
  refine V_if_eq (tgt := 10) C dJxf58ca_isNaN_12338_3 (by decide) (fun _ => ?_) (fun z9 => absurd (cv_l0.mpr hc) z9)
  refine V_iconst (v := 0) C dJxf58ca_isNaN_12338_10 (by decide) ?_
  exact V_zret C dJxf58ca_isNaN_12338_11 hr (by rfl) ⟨rfl, rfl⟩ (by exact Nat.le_of_ble_eq_true rfl) (by exact Nat.le_of_ble_eq_true rfl)
set_option maxHeartbeats 4000000 in
set_option maxRecDepth 100000 in
theorem j_bits {x : UInt32} (hx : FP.Core.val32 x ≠ .nan) : Mt l D cA bs yJxf58ca_floatToIntBits_5c35a wsJxf58ca_floatToIntBits_5c35a (rmk 1 0 0) [.float x] h (fun v h2 => v = some (.int x.toInt32) ∧ h2 = h) := by
  refine Mt_ofF (cc := cJxf58ca_floatToIntBits_5c35a) (maxL := 1) (ret := (some .int)) (own := RJxf58ca) [some (.float x)] rfl (by decide +kernel) rfl rfl (by exact Nat.le_of_ble_eq_true rfl) rfl ?_
  intro p9 e9 s9 m9 args9 below9 meth9 c9 C hr hnm
  refine V_fload_n (i := 0) C dJxf58ca_floatToIntBits_5c35a_0 rfl rfl ?_
  refine V_callS (n := 1) C (j_isNaN hx) dJxf58ca_floatToIntBits_5c35a_1 gJxf58ca_floatToIntBits_5c35a_Jxf58ca_isNaN_12338 rfl (by decide +kernel) rfl rfl (by exact Nat.le_of_ble_eq_true rfl) ⟨Nat.le_of_ble_eq_true rfl, Nat.le_of_ble_eq_true rfl⟩ ⟨Nat.le_of_ble_eq_true rfl, Nat.le_of_ble_eq_true rfl⟩ (fun v9 h9 hr9 => ?_)
  obtain ⟨rfl, z9⟩ := hr9
  have z9 := z9.symm
  subst z9
  refine V_if_ne (tgt := 12) C dJxf58ca_floatToIntBits_5c35a_4 (by decide) (fun z9 => absurd rfl z9) (fun _ => ?_)
  refine V_fload_n (i := 0) C dJxf58ca_floatToIntBits_5c35a_7 rfl rfl ?_
  refine V_rawbits C dJxf58ca_floatToIntBits_5c35a_8 (by decide +kernel) (by decide +kernel) (by decide +kernel) (by decide +kernel) (by exact Nat.le_of_ble_eq_true rfl) (by exact Nat.le_of_ble_eq_true rfl) ?_
  exact V_iret C dJxf58ca_floatToIntBits_5c35a_11 hr ⟨rfl, rfl⟩ (by exact Nat.le_of_ble_eq_true rfl) (by exact Nat.le_of_ble_eq_true rfl)
set_option maxHeartbeats 4000000 in
set_option maxRecDepth 100000 in
theorem q_hour (r : MR cA A I F (mnn X th) h) (hP : PR X I F) : Mt l D cA bs yX5_hour wsX5_hour (rmk 0 0 0) [.ref (A 0)] h (Rst cA A kIO kIA (sp_hour X) h) := by
  have m0 := r.m0
  refine Mt_of (cc := cX5_hour) (maxL := 1) (ret := (some .int)) (own := RX5) [some (.ref (A 0))] rfl (by decide +kernel) rfl rfl (by exact Nat.le_of_ble_eq_true rfl) rfl ?_
  intro p9 e9 s9 m9 args9 below9 meth9 c9 C hr hnm
  refine V_aload_n (i := 0) C dX5_hour_0 rfl rfl ?_
  refine V_iconst (v := 0) C dX5_hour_1 (by decide) ?_
  refine V_put (ci := 5) (CN := RX5) (T := TX5) (N := 26) (ty := (tyX5 0)) C dX5_hour_2 (by first | assumption | exact hset_s _ _ _) rfl tyX5 tyX5_ok nmX5 0 (by decide) flX5_hour_78 wiX5_hour_X5 rfl (tyX5_ok 0 (by decide)) (by rfl) (by rfl) (by exact Nat.le_of_ble_eq_true rfl) ?_
  have r2 := r.setN (0, (mnn X th).2)
  refine V_aload_n (i := 0) C dX5_hour_5 rfl rfl ?_
  refine V_get (ci := 5) (CN := RX5) (T := TX5) (N := 26) C dX5_hour_6 (by first | assumption | exact hset_s _ _ _) rfl 1 (by decide) flX5_hour_150 wiX5_hour_X5 (by rfl) ?_
  exact V_iret C dX5_hour_9 hr ⟨⟨_, rfl, fun _ => rfl⟩, ⟨I, F, r2, hP⟩, r.f0 _⟩ (by exact Nat.le_of_ble_eq_true rfl) (by exact Nat.le_of_ble_eq_true rfl)
set_option maxHeartbeats 4000000 in
set_option maxRecDepth 100000 in
theorem q_send (r : MR cA A I F (mnn X th) h) (hd : xdim X) (hP : PR X I F) {c x : Int32} : Mt l D cA bs yX5_send wsX5_send (rmk 3 0 0) [.ref (A 0), .int c, .int x] h (Rst cA A kIO kIA (sp_send X c x) h) := by
  have m0 := r.m0
  by_cases hc : crewN c ∧ (x = -1 ∨ picN X x)
  · obtain ⟨k, hk, rfl, ek⟩ := crewN_of hc.1
    obtain ⟨q1, q2, q3, q4, q5, q6, q7⟩ := hP.2.2.2.2.2.2 k hk
    have e : sp_send X (nI k) x = (none, olI (rpc (xcr X k)), setR X k (rrt (xcr X k), rdy (xcr X k), (if x = -1 then none else some (tN x)), rmt (xcr X k), rtr (xcr X k), rld (xcr X k))) := by unfold sp_send; rw [if_pos hc, ek]
    rw [e]
    have hx : x = olI (if x = -1 then none else some (tN x)) := by
      by_cases hm : x = -1
      · rw [if_pos hm, hm]; rfl
      · rw [if_neg hm]
        obtain ⟨q, hq, rfl, eq⟩ := picN_of hd (hc.2.resolve_left hm)
        rw [eq]
        rfl
    refine Mt_of (cc := cX5_send) (maxL := 4) (ret := (some .int)) (own := RX5) [some (.ref (A 0)), some (.int (nI k)), some (.int x), none] rfl (by decide +kernel) rfl rfl (by exact Nat.le_of_ble_eq_true rfl) rfl ?_
    intro p9 e9 s9 m9 args9 below9 meth9 c9 C hr hnm
    refine V_join 26 (fun h2 ls2 st2 => h2 = h ∧ ls2 = [some (.ref (A 0)), some (.int (nI k)), some (.int x), none] ∧ st2 = [.int 1, .ref (A 0)]) ?_ (fun hj => ?_)
    · rintro h2 ls2 st2 ⟨z9, rfl, rfl⟩
      have z9 := z9.symm
      subst z9
      refine V_callV (n := 1) C (r_asked1 (P := True) r rfl) dX5_send_26 gX5_send_X5_asked rfl (by first | assumption | exact hset_s _ _ _) rfl (by decide +kernel) rfl rfl (by exact Nat.le_of_ble_eq_true rfl) ⟨Nat.le_of_ble_eq_true rfl, Nat.le_of_ble_eq_true rfl⟩ ⟨Nat.le_of_ble_eq_true rfl, Nat.le_of_ble_eq_true rfl⟩ (fun v9 h9 hr9 => ?_)
      obtain ⟨rfl, r2, f2⟩ := hr9
      rw [if_pos trivial] at r2
      have m0 := r2.m0
      have m20 := r2.m20
      refine V_if_ne (tgt := 34) C dX5_send_29 (by decide) (fun _ => ?_) (fun z9 => absurd z9 (by decide))
      refine V_aload_n (i := 0) C dX5_send_34 rfl rfl ?_
      refine V_get (ci := 5) (CN := RX5) (T := TX5) (N := 26) C dX5_send_35 (by first | assumption | exact hset_s _ _ _) rfl 20 (by decide) flX5_send_60 wiX5_send_X5 (by rfl) ?_
      refine V_iload_n (i := 1) C dX5_send_38 rfl rfl ?_
      refine V_ialdK C dX5_send_39 (by first | assumption | exact hset_s _ _ _) rfl hk (by decide) q1 ?_
      refine V_istore3 C dX5_send_40 (by decide) ?_
      refine V_aload_n (i := 0) C dX5_send_41 rfl rfl ?_
      refine V_get (ci := 5) (CN := RX5) (T := TX5) (N := 26) C dX5_send_42 (by first | assumption | exact hset_s _ _ _) rfl 20 (by decide) flX5_send_60 wiX5_send_X5 (by rfl) ?_
      refine V_iload_n (i := 1) C dX5_send_45 rfl rfl ?_
      refine V_iload_n (i := 2) C dX5_send_46 rfl rfl ?_
      refine V_iastK C dX5_send_47 (by first | assumption | exact hset_s _ _ _) rfl hk (by decide) ?_
      refine V_iload_n (i := 3) C dX5_send_48 rfl rfl ?_
      exact V_iret C dX5_send_49 hr ⟨⟨_, rfl, fun _ => rfl⟩, ⟨_, F, r2.s20 (fset (I 20) k x), hP.crew (c := k) (fun j hj => fset_n (by omega)) ⟨by show fset (I 20) k x k = _; rw [fset_s]; exact hx, q2, q3, q4, q5, q6, q7⟩ (fun c2 hc2 hn hp => ⟨(fset_n hn).trans hp.1, hp.2⟩)⟩, f2.tr (r2.f20 _)⟩ (by exact Nat.le_of_ble_eq_true rfl) (by exact Nat.le_of_ble_eq_true rfl)
    · refine V_aload_n (i := 0) C dX5_send_0 rfl rfl ?_
      refine V_iload_n (i := 1) C dX5_send_1 rfl rfl ?_
      refine V_callS (n := 1) C (r_isCrewX) dX5_send_2 gX5_send_X5_isCrew rfl (by decide +kernel) rfl rfl (by exact Nat.le_of_ble_eq_true rfl) ⟨Nat.le_of_ble_eq_true rfl, Nat.le_of_ble_eq_true rfl⟩ ⟨Nat.le_of_ble_eq_true rfl, Nat.le_of_ble_eq_true rfl⟩ (fun v9 h9 hr9 => ?_)
      rw [if_pos hc.1] at hr9
      obtain ⟨rfl, z9⟩ := hr9
      have z9 := z9.symm
      subst z9
      refine V_if_eq (tgt := 25) C dX5_send_5 (by decide) (fun z9 => absurd z9 (by decide)) (fun _ => ?_)
      refine V_iload_n (i := 2) C dX5_send_8 rfl rfl ?_
      refine V_iconst (v := (-1)) C dX5_send_9 (by decide) ?_
      refine V_icmp_eq (tgt := 21) C dX5_send_10 (by decide) (fun c10 => ?_) (fun c10 => ?_)
      · refine V_iconst (v := 1) C dX5_send_21 (by decide) ?_
        refine V_goto (tgt := 26) C dX5_send_22 (by decide) ?_
        exact hj _ _ _ ⟨rfl, rfl, rfl⟩
      · have c10 : ¬ x = -1 := c10
        refine V_aload_n (i := 0) C dX5_send_13 rfl rfl ?_
        refine V_iload_n (i := 2) C dX5_send_14 rfl rfl ?_
        refine V_callV (n := 1) C (r_isPicX r hd) dX5_send_15 gX5_send_X5_isPicture rfl (by first | assumption | exact hset_s _ _ _) rfl (by decide +kernel) rfl rfl (by exact Nat.le_of_ble_eq_true rfl) ⟨Nat.le_of_ble_eq_true rfl, Nat.le_of_ble_eq_true rfl⟩ ⟨Nat.le_of_ble_eq_true rfl, Nat.le_of_ble_eq_true rfl⟩ (fun v9 h9 hr9 => ?_)
        rw [if_pos (hc.2.resolve_left c10)] at hr9
        obtain ⟨rfl, z9⟩ := hr9
        have z9 := z9.symm
        subst z9
        refine V_if_eq (tgt := 25) C dX5_send_18 (by decide) (fun z9 => absurd z9 (by decide)) (fun _ => ?_)
        refine V_iconst (v := 1) C dX5_send_21 (by decide) ?_
        refine V_goto (tgt := 26) C dX5_send_22 (by decide) ?_
        exact hj _ _ _ ⟨rfl, rfl, rfl⟩
  · have e : sp_send X c x = (some kIO, 0, X) := by unfold sp_send; rw [if_neg hc]
    rw [e]
    refine Mt_of (cc := cX5_send) (maxL := 4) (ret := (some .int)) (own := RX5) [some (.ref (A 0)), some (.int c), some (.int x), none] rfl (by decide +kernel) rfl rfl (by exact Nat.le_of_ble_eq_true rfl) rfl ?_
    intro p9 e9 s9 m9 args9 below9 meth9 c9 C hr hnm
    refine V_join 26 (fun h2 ls2 st2 => h2 = h ∧ ls2 = [some (.ref (A 0)), some (.int c), some (.int x), none] ∧ st2 = [.int 0, .ref (A 0)]) ?_ (fun hj => ?_)
    · rintro h2 ls2 st2 ⟨z9, rfl, rfl⟩
      have z9 := z9.symm
      subst z9
      refine V_callV (n := 1) C (r_asked1 (P := False) r rfl) dX5_send_26 gX5_send_X5_asked rfl (by first | assumption | exact hset_s _ _ _) rfl (by decide +kernel) rfl rfl (by exact Nat.le_of_ble_eq_true rfl) ⟨Nat.le_of_ble_eq_true rfl, Nat.le_of_ble_eq_true rfl⟩ ⟨Nat.le_of_ble_eq_true rfl, Nat.le_of_ble_eq_true rfl⟩ (fun v9 h9 hr9 => ?_)
      obtain ⟨rfl, r2, f2⟩ := hr9
      rw [if_neg (fun z => z)] at r2
      refine V_if_ne (tgt := 34) C dX5_send_29 (by decide) (fun z9 => absurd rfl z9) (fun _ => ?_)
      refine V_iconst (v := 0) C dX5_send_32 (by decide) ?_
      exact V_iret C dX5_send_33 hr (Rst_x r2 hP f2 (by decide +kernel)) (by exact Nat.le_of_ble_eq_true rfl) (by exact Nat.le_of_ble_eq_true rfl)
    · refine V_aload_n (i := 0) C dX5_send_0 rfl rfl ?_
      refine V_iload_n (i := 1) C dX5_send_1 rfl rfl ?_
      refine V_callS (n := 1) C (r_isCrewX) dX5_send_2 gX5_send_X5_isCrew rfl (by decide +kernel) rfl rfl (by exact Nat.le_of_ble_eq_true rfl) ⟨Nat.le_of_ble_eq_true rfl, Nat.le_of_ble_eq_true rfl⟩ ⟨Nat.le_of_ble_eq_true rfl, Nat.le_of_ble_eq_true rfl⟩ (fun v9 h9 hr9 => ?_)
      obtain ⟨rfl, z9⟩ := hr9
      have z9 := z9.symm
      subst z9
      refine V_if_eq (tgt := 25) C dX5_send_5 (by decide) (fun c5 => ?_) (fun c5 => ?_)
      · have c5 := ite0.mp c5
        refine V_iconst (v := 0) C dX5_send_25 (by decide) ?_
        exact hj _ _ _ ⟨rfl, rfl, rfl⟩
      · have c5 := Classical.not_not.mp (fun z => c5 (ite0.mpr z))
        refine V_iload_n (i := 2) C dX5_send_8 rfl rfl ?_
        refine V_iconst (v := (-1)) C dX5_send_9 (by decide) ?_
        refine V_icmp_eq (tgt := 21) C dX5_send_10 (by decide) (fun c10 => ?_) (fun c10 => ?_)
        · exact absurd ⟨c5, Or.inl c10⟩ hc
          skip
        · refine V_aload_n (i := 0) C dX5_send_13 rfl rfl ?_
          refine V_iload_n (i := 2) C dX5_send_14 rfl rfl ?_
          refine V_callV (n := 1) C (r_isPicX r hd) dX5_send_15 gX5_send_X5_isPicture rfl (by first | assumption | exact hset_s _ _ _) rfl (by decide +kernel) rfl rfl (by exact Nat.le_of_ble_eq_true rfl) ⟨Nat.le_of_ble_eq_true rfl, Nat.le_of_ble_eq_true rfl⟩ ⟨Nat.le_of_ble_eq_true rfl, Nat.le_of_ble_eq_true rfl⟩ (fun v9 h9 hr9 => ?_)
          obtain ⟨rfl, z9⟩ := hr9
          have z9 := z9.symm
          subst z9
          refine V_if_eq (tgt := 25) C dX5_send_18 (by decide) (fun c18 => ?_) (fun c18 => ?_)
          · have c18 := ite0.mp c18
            refine V_iconst (v := 0) C dX5_send_25 (by decide) ?_
            exact hj _ _ _ ⟨rfl, rfl, rfl⟩
          · exact absurd ⟨c5, Or.inr (Classical.not_not.mp (fun z => c18 (ite0.mpr z)))⟩ hc
            skip
set_option maxHeartbeats 4000000 in
set_option maxRecDepth 100000 in
theorem q_crew (r : MR cA A I F (mnn X th) h) (hP : PR X I F) {c a b : Int32} : Mt l D cA bs yX5_crew wsX5_crew (rmk 3 0 0) [.ref (A 0), .int c, .int a, .int b] h (Rst cA A kIO kIA (sp_crew X c a b) h) := by
  have m0 := r.m0
  have esp : sp_crew X c a b = if crewN c then (if okR a 1 9 ∧ okR b 0 9 then (none, rrt (xcr X (tN c)), setR X (tN c) (a, b, rpc (xcr X (tN c)), rmt (xcr X (tN c)), rtr (xcr X (tN c)), rld (xcr X (tN c)))) else (some kIA, 0, X)) else (some kIO, 0, X) := rfl
  refine Mt_of (cc := cX5_crew) (maxL := 5) (ret := (some .int)) (own := RX5) [some (.ref (A 0)), some (.int c), some (.int a), some (.int b), none] rfl (by decide +kernel) rfl rfl (by exact Nat.le_of_ble_eq_true rfl) rfl ?_
  intro p9 e9 s9 m9 args9 below9 meth9 c9 C hr hnm
  refine V_join 30 (fun h2 ls2 st2 => h2 = h ∧ ls2 = [some (.ref (A 0)), some (.int c), some (.int a), some (.int b), none] ∧ ∃ y, y = (if okR a 1 9 ∧ okR b 0 9 then (1 : Int32) else 0) ∧ st2 = [.int y, .int (if crewN c then 1 else 0), .ref (A 0)]) ?_ (fun hj => ?_)
  · rintro h2 ls2 st2 ⟨z9, rfl, y, hy, rfl⟩
    have z9 := z9.symm
    subst z9
    refine V_callV (n := 2) C (r_asked2 r rfl (fun _ => hy)) dX5_crew_30 gX5_crew_X5_asked_ rfl (by first | assumption | exact hset_s _ _ _) rfl (by decide +kernel) rfl rfl (by exact Nat.le_of_ble_eq_true rfl) ⟨Nat.le_of_ble_eq_true rfl, Nat.le_of_ble_eq_true rfl⟩ ⟨Nat.le_of_ble_eq_true rfl, Nat.le_of_ble_eq_true rfl⟩ (fun v9 h9 hr9 => ?_)
    obtain ⟨rfl, r2, f2⟩ := hr9
    refine V_if_ne (tgt := 38) C dX5_crew_33 (by decide) (fun c33 => ?_) (fun c33 => ?_)
    · have c33 := Classical.not_not.mp (fun z => c33 (ite0.mpr z))
      obtain ⟨k, hk, rfl, ek⟩ := crewN_of c33.1
      obtain ⟨q1, q2, q3, q4, q5, q6, q7⟩ := hP.2.2.2.2.2.2 k hk
      rw [if_pos c33.1, if_pos c33.2] at r2
      rw [if_pos c33.1, if_pos c33.2, ek] at esp
      rw [esp]
      have m0 := r2.m0
      have m21 := r2.m21
      refine V_aload_n (i := 0) C dX5_crew_38 rfl rfl ?_
      refine V_get (ci := 5) (CN := RX5) (T := TX5) (N := 26) C dX5_crew_39 (by first | assumption | exact hset_s _ _ _) rfl 21 (by decide) flX5_crew_63 wiX5_crew_X5 (by rfl) ?_
      refine V_iload_n (i := 1) C dX5_crew_42 rfl rfl ?_
      refine V_ialdK C dX5_crew_43 (by first | assumption | exact hset_s _ _ _) rfl hk (by decide) q2 ?_
      refine V_istore4 C dX5_crew_44 (by decide) ?_
      refine V_aload_n (i := 0) C dX5_crew_46 rfl rfl ?_
      refine V_get (ci := 5) (CN := RX5) (T := TX5) (N := 26) C dX5_crew_47 (by first | assumption | exact hset_s _ _ _) rfl 21 (by decide) flX5_crew_63 wiX5_crew_X5 (by rfl) ?_
      refine V_iload_n (i := 1) C dX5_crew_50 rfl rfl ?_
      refine V_iload_n (i := 2) C dX5_crew_51 rfl rfl ?_
      refine V_iastK C dX5_crew_52 (by first | assumption | exact hset_s _ _ _) rfl hk (by decide) ?_
      have r3 := r2.s21 (fset (I 21) k a)
      have f3 := f2.tr (r2.f21 (iarr (cA 0) 3 (fset (I 21) k a)))
      have m0 := r3.m0
      have m22 := r3.m22
      refine V_aload_n (i := 0) C dX5_crew_53 rfl rfl ?_
      refine V_get (ci := 5) (CN := RX5) (T := TX5) (N := 26) C dX5_crew_54 (by first | assumption | exact hset_s _ _ _) rfl 22 (by decide) flX5_crew_66 wiX5_crew_X5 (by rfl) ?_
      refine V_iload_n (i := 1) C dX5_crew_57 rfl rfl ?_
      refine V_iload_n (i := 3) C dX5_crew_58 rfl rfl ?_
      refine V_iastK C dX5_crew_59 (by first | assumption | exact hset_s _ _ _) rfl hk (by decide) ?_
      refine V_iload C dX5_crew_60 rfl ?_
      exact V_iret C dX5_crew_62 hr ⟨⟨_, rfl, fun _ => rfl⟩, ⟨_, F, r3.s22 (fset (I 22) k b), hP.crew (c := k) (fun j hj => by rw [fset_n (by omega), fset_n (by omega)]) ⟨q1, fset_s _ _ _, fset_s _ _ _, q4, q5, q6, q7⟩ (fun c2 hc2 hn hp => ⟨hp.1, (fset_n hn).trans hp.2.1, (fset_n hn).trans hp.2.2.1, hp.2.2.2⟩)⟩, f3.tr (r3.f22 _)⟩ (by exact Nat.le_of_ble_eq_true rfl) (by exact Nat.le_of_ble_eq_true rfl)
    · have c33 := ite0.mp c33
      refine V_iconst (v := 0) C dX5_crew_36 (by decide) ?_
      exact V_iret C dX5_crew_37 hr (by
        by_cases h1 : crewN c
        · have h2 : ¬ (okR a 1 9 ∧ okR b 0 9) := fun z => c33 ⟨h1, z⟩
          rw [if_pos h1, if_neg h2] at r2
          rw [if_pos h1, if_neg h2] at esp
          rw [esp]
          exact Rst_x r2 hP f2 (by decide +kernel)
        · rw [if_neg h1] at r2
          rw [if_neg h1] at esp
          rw [esp]
          exact Rst_x r2 hP f2 (by decide +kernel)) (by exact Nat.le_of_ble_eq_true rfl) (by exact Nat.le_of_ble_eq_true rfl)
  · refine V_aload_n (i := 0) C dX5_crew_0 rfl rfl ?_
    refine V_iload_n (i := 1) C dX5_crew_1 rfl rfl ?_
    refine V_callS (n := 1) C (r_isCrewX) dX5_crew_2 gX5_crew_X5_isCrew rfl (by decide +kernel) rfl rfl (by exact Nat.le_of_ble_eq_true rfl) ⟨Nat.le_of_ble_eq_true rfl, Nat.le_of_ble_eq_true rfl⟩ ⟨Nat.le_of_ble_eq_true rfl, Nat.le_of_ble_eq_true rfl⟩ (fun v9 h9 hr9 => ?_)
    obtain ⟨rfl, z9⟩ := hr9
    have z9 := z9.symm
    subst z9
    refine V_iload_n (i := 2) C dX5_crew_5 rfl rfl ?_
    refine V_iconst (v := 1) C dX5_crew_6 (by decide) ?_
    refine V_bipush (v := 9) C dX5_crew_7 (by decide) ?_
    refine V_callS (n := 3) C (r_in) dX5_crew_9 gX5_crew_X5_in rfl (by decide +kernel) rfl rfl (by exact Nat.le_of_ble_eq_true rfl) ⟨Nat.le_of_ble_eq_true rfl, Nat.le_of_ble_eq_true rfl⟩ ⟨Nat.le_of_ble_eq_true rfl, Nat.le_of_ble_eq_true rfl⟩ (fun v9 h9 hr9 => ?_)
    obtain ⟨rfl, z9⟩ := hr9
    have z9 := z9.symm
    subst z9
    refine V_if_eq (tgt := 29) C dX5_crew_12 (by decide) (fun c12 => ?_) (fun c12 => ?_)
    · have c12 := ite0.mp c12
      have e9 : ¬ (okR a 1 9 ∧ okR b 0 9) := fun z => c12 z.1
      refine V_iconst (v := 0) C dX5_crew_29 (by decide) ?_
      exact hj _ _ _ ⟨rfl, rfl, _, by first | exact (if_pos e9).symm | exact (if_neg e9).symm, rfl⟩
    · have c12 := Classical.not_not.mp (fun z => c12 (ite0.mpr z))
      refine V_iload_n (i := 3) C dX5_crew_15 rfl rfl ?_
      refine V_iconst (v := 0) C dX5_crew_16 (by decide) ?_
      refine V_bipush (v := 9) C dX5_crew_17 (by decide) ?_
      refine V_callS (n := 3) C (r_in) dX5_crew_19 gX5_crew_X5_in rfl (by decide +kernel) rfl rfl (by exact Nat.le_of_ble_eq_true rfl) ⟨Nat.le_of_ble_eq_true rfl, Nat.le_of_ble_eq_true rfl⟩ ⟨Nat.le_of_ble_eq_true rfl, Nat.le_of_ble_eq_true rfl⟩ (fun v9 h9 hr9 => ?_)
      obtain ⟨rfl, z9⟩ := hr9
      have z9 := z9.symm
      subst z9
      refine V_if_eq (tgt := 29) C dX5_crew_22 (by decide) (fun c22 => ?_) (fun c22 => ?_)
      · have c22 := ite0.mp c22
        have e9 : ¬ (okR a 1 9 ∧ okR b 0 9) := fun z => c22 z.2
        refine V_iconst (v := 0) C dX5_crew_29 (by decide) ?_
        exact hj _ _ _ ⟨rfl, rfl, _, by first | exact (if_pos e9).symm | exact (if_neg e9).symm, rfl⟩
      · have c22 := Classical.not_not.mp (fun z => c22 (ite0.mpr z))
        have e9 : okR a 1 9 ∧ okR b 0 9 := ⟨c12, c22⟩
        refine V_iconst (v := 1) C dX5_crew_25 (by decide) ?_
        refine V_goto (tgt := 30) C dX5_crew_26 (by decide) ?_
        exact hj _ _ _ ⟨rfl, rfl, _, by first | exact (if_pos e9).symm | exact (if_neg e9).symm, rfl⟩
set_option maxHeartbeats 4000000 in
set_option maxRecDepth 100000 in
theorem q_tray (r : MR cA A I F (mnn X th) h) (hd : xdim X) (hP : PR X I F) (ht : ∀ c, c < 3 → ∀ b, b ∈ rtr (xcr X c) → b < xnl X) {c a : Int32} : Mt l D cA bs yX5_tray wsX5_tray (rmk 3 0 0) [.ref (A 0), .int c, .int a] h (Rst cA A kIO kIA (sp_tray X c a) h) := by
  have m0 := r.m0
  have hnl := hd.1
  have esp : sp_tray X c a = if crewN c then (if okR a 0 1 then (none, nI (rtr (xcr X (tN c))).length, setR X (tN c) (rrt (xcr X (tN c)), rdy (xcr X (tN c)), rpc (xcr X (tN c)), a, [], rld (xcr X (tN c)))) else (some kIA, 0, X)) else (some kIO, 0, X) := rfl
  by_cases c14 : ¬ (crewN c ∧ okR a 0 1)
  · refine Mt_of (cc := cX5_tray) (maxL := 5) (ret := (some .int)) (own := RX5) [some (.ref (A 0)), some (.int c), some (.int a), none, none] rfl (by decide +kernel) rfl rfl (by exact Nat.le_of_ble_eq_true rfl) rfl ?_
    intro p9 e9 s9 m9 args9 below9 meth9 c9 C hr hnm
    refine V_aload_n (i := 0) C dX5_tray_0 rfl rfl ?_
    refine V_iload_n (i := 1) C dX5_tray_1 rfl rfl ?_
    refine V_callS (n := 1) C (r_isCrewX) dX5_tray_2 gX5_tray_X5_isCrew rfl (by decide +kernel) rfl rfl (by exact Nat.le_of_ble_eq_true rfl) ⟨Nat.le_of_ble_eq_true rfl, Nat.le_of_ble_eq_true rfl⟩ ⟨Nat.le_of_ble_eq_true rfl, Nat.le_of_ble_eq_true rfl⟩ (fun v9 h9 hr9 => ?_)
    obtain ⟨rfl, z9⟩ := hr9
    have z9 := z9.symm
    subst z9
    refine V_iload_n (i := 2) C dX5_tray_5 rfl rfl ?_
    refine V_iconst (v := 0) C dX5_tray_6 (by decide) ?_
    refine V_iconst (v := 1) C dX5_tray_7 (by decide) ?_
    refine V_callS (n := 3) C (r_in) dX5_tray_8 gX5_tray_X5_in rfl (by decide +kernel) rfl rfl (by exact Nat.le_of_ble_eq_true rfl) ⟨Nat.le_of_ble_eq_true rfl, Nat.le_of_ble_eq_true rfl⟩ ⟨Nat.le_of_ble_eq_true rfl, Nat.le_of_ble_eq_true rfl⟩ (fun v9 h9 hr9 => ?_)
    obtain ⟨rfl, z9⟩ := hr9
    have z9 := z9.symm
    subst z9
    refine V_callV (n := 2) C (r_asked2 r rfl (fun _ => rfl)) dX5_tray_11 gX5_tray_X5_asked_ rfl (by first | assumption | exact hset_s _ _ _) rfl (by decide +kernel) rfl rfl (by exact Nat.le_of_ble_eq_true rfl) ⟨Nat.le_of_ble_eq_true rfl, Nat.le_of_ble_eq_true rfl⟩ ⟨Nat.le_of_ble_eq_true rfl, Nat.le_of_ble_eq_true rfl⟩ (fun v9 h9 hr9 => ?_)
    obtain ⟨rfl, r2, f2⟩ := hr9
    refine V_if_ne (tgt := 19) C dX5_tray_14 (by decide) (fun z9 => absurd (if_neg c14) z9) (fun _ => ?_)
    refine V_iconst (v := 0) C dX5_tray_17 (by decide) ?_
    exact V_iret C dX5_tray_18 hr (by
      by_cases h1 : crewN c
      · have h2 : ¬ okR a 0 1 := fun z => c14 ⟨h1, z⟩
        rw [if_pos h1, if_neg h2] at r2
        rw [if_pos h1, if_neg h2] at esp
        rw [esp]
        exact Rst_x r2 hP f2 (by decide +kernel)
      · rw [if_neg h1] at r2
        rw [if_neg h1] at esp
        rw [esp]
        exact Rst_x r2 hP f2 (by decide +kernel)) (by exact Nat.le_of_ble_eq_true rfl) (by exact Nat.le_of_ble_eq_true rfl)
  have c14 := Classical.not_not.mp c14
  refine Mt_of (cc := cX5_tray) (maxL := 5) (ret := (some .int)) (own := RX5) [some (.ref (A 0)), some (.int c), some (.int a), none, none] rfl (by decide +kernel) rfl rfl (by exact Nat.le_of_ble_eq_true rfl) rfl ?_
  intro p9 e9 s9 m9 args9 below9 meth9 c9 C hr hnm
  refine V_aload_n (i := 0) C dX5_tray_0 rfl rfl ?_
  refine V_iload_n (i := 1) C dX5_tray_1 rfl rfl ?_
  refine V_callS (n := 1) C (r_isCrewX) dX5_tray_2 gX5_tray_X5_isCrew rfl (by decide +kernel) rfl rfl (by exact Nat.le_of_ble_eq_true rfl) ⟨Nat.le_of_ble_eq_true rfl, Nat.le_of_ble_eq_true rfl⟩ ⟨Nat.le_of_ble_eq_true rfl, Nat.le_of_ble_eq_true rfl⟩ (fun v9 h9 hr9 => ?_)
  obtain ⟨rfl, z9⟩ := hr9
  have z9 := z9.symm
  subst z9
  refine V_iload_n (i := 2) C dX5_tray_5 rfl rfl ?_
  refine V_iconst (v := 0) C dX5_tray_6 (by decide) ?_
  refine V_iconst (v := 1) C dX5_tray_7 (by decide) ?_
  refine V_callS (n := 3) C (r_in) dX5_tray_8 gX5_tray_X5_in rfl (by decide +kernel) rfl rfl (by exact Nat.le_of_ble_eq_true rfl) ⟨Nat.le_of_ble_eq_true rfl, Nat.le_of_ble_eq_true rfl⟩ ⟨Nat.le_of_ble_eq_true rfl, Nat.le_of_ble_eq_true rfl⟩ (fun v9 h9 hr9 => ?_)
  obtain ⟨rfl, z9⟩ := hr9
  have z9 := z9.symm
  subst z9
  refine V_callV (n := 2) C (r_asked2 r rfl (fun _ => rfl)) dX5_tray_11 gX5_tray_X5_asked_ rfl (by first | assumption | exact hset_s _ _ _) rfl (by decide +kernel) rfl rfl (by exact Nat.le_of_ble_eq_true rfl) ⟨Nat.le_of_ble_eq_true rfl, Nat.le_of_ble_eq_true rfl⟩ ⟨Nat.le_of_ble_eq_true rfl, Nat.le_of_ble_eq_true rfl⟩ (fun v9 h9 hr9 => ?_)
  obtain ⟨rfl, r2, f2⟩ := hr9
  refine V_if_ne (tgt := 19) C dX5_tray_14 (by decide) (fun _ => ?_) (fun z9 => absurd z9 (by rw [if_pos c14]; decide))
  obtain ⟨k, hk, rfl, ek⟩ := crewN_of c14.1
  have hrk := hP.2.2.2.2.2.2 k hk
  obtain ⟨q1, q2, q3, q4, q5, q6, q7⟩ := id hrk
  rw [if_pos c14.1, if_pos c14.2] at r2
  rw [if_pos c14.1, if_pos c14.2, ek] at esp
  rw [esp]
  have m0 := r2.m0
  refine V_aload_n (i := 0) C dX5_tray_19 rfl rfl ?_
  refine V_iload_n (i := 1) C dX5_tray_20 rfl rfl ?_
  refine V_callV (n := 1) C (r_onTray r2 hk hrk (fun b hb => Nat.lt_of_lt_of_le (ht k hk b hb) hnl)) dX5_tray_21 gX5_tray_X5_onTray rfl (by first | assumption | exact hset_s _ _ _) rfl (by decide +kernel) rfl rfl (by exact Nat.le_of_ble_eq_true rfl) ⟨Nat.le_of_ble_eq_true rfl, Nat.le_of_ble_eq_true rfl⟩ ⟨Nat.le_of_ble_eq_true rfl, Nat.le_of_ble_eq_true rfl⟩ (fun v9 h9 hr9 => ?_)
  obtain ⟨rfl, z9⟩ := hr9
  have z9 := z9.symm
  subst z9
  have m23 := r2.m23
  refine V_istore3 C dX5_tray_24 (by decide) ?_
  refine V_aload_n (i := 0) C dX5_tray_25 rfl rfl ?_
  refine V_get (ci := 5) (CN := RX5) (T := TX5) (N := 26) C dX5_tray_26 (by first | assumption | exact hset_s _ _ _) rfl 23 (by decide) flX5_tray_69 wiX5_tray_X5 (by rfl) ?_
  refine V_iload_n (i := 1) C dX5_tray_29 rfl rfl ?_
  refine V_iload_n (i := 2) C dX5_tray_30 rfl rfl ?_
  refine V_iastK C dX5_tray_31 (by first | assumption | exact hset_s _ _ _) rfl hk (by decide) ?_
  have r3 := r2.s23 (fset (I 23) k a)
  have f3 := f2.tr (r2.f23 (iarr (cA 0) 3 (fset (I 23) k a)))
  refine V_iconst (v := 0) C dX5_tray_32 (by decide) ?_
  refine V_istore4 C dX5_tray_33 (by decide) ?_
  refine V_for 12 (fun j h4 ls4 => (∃ f, MR cA A (fset (fset I 23 (fset (I 23) k a)) 24 f) F (0, (mnn X th).2) h4 ∧ (∀ i, i < j → f (12 * k + i) = 0) ∧ ∀ i, (i < 12 * k ∨ 12 * k + 12 ≤ i) → f i = I 24 i) ∧ mfr h h4 ∧ ls4 = [some (.ref (A 0)), some (.int (nI k)), some (.int a), some (.int (nI (rtr (xcr X k)).length)), some (.int (nI j))]) ?_ ?_ 0 (by decide) ⟨⟨I 24, by rw [show fset (fset I 23 (fset (I 23) k a)) 24 (I 24) = fset I 23 (fset (I 23) k a) from fset_id rfl]; exact r3, fun i hi => absurd hi (Nat.not_lt_zero i), fun i _ => rfl⟩, f3, rfl⟩
  · rintro j h4 ls4 hj ⟨⟨f, r4, hf1, hf2⟩, f4, rfl⟩ ih
    have m0 := r4.m0
    have m24 := r4.m24
    have hix : (12 : Int32) * nI k + nI j = nI (12 * k + j) := by rw [show (12 : Int32) = nI 12 from rfl, pk_mul, nI_add]
    refine V_iload C dX5_tray_35 rfl ?_
    refine V_bipush (v := 12) C dX5_tray_37 (by decide) ?_
    refine V_icmp_ge (tgt := 61) C dX5_tray_39 (by decide) (fun z9 => absurd z9 (nI_ge (b := 12) hj (by decide))) (fun _ => ?_)
    refine V_aload_n (i := 0) C dX5_tray_42 rfl rfl ?_
    refine V_get (ci := 5) (CN := RX5) (T := TX5) (N := 26) C dX5_tray_43 (by first | assumption | exact hset_s _ _ _) rfl 24 (by decide) flX5_tray_72 wiX5_tray_X5 (by rfl) ?_
    refine V_bipush (v := 12) C dX5_tray_46 (by decide) ?_
    refine V_iload_n (i := 1) C dX5_tray_48 rfl rfl ?_
    refine V_imul C dX5_tray_49 ?_
    refine V_iload C dX5_tray_50 rfl ?_
    refine V_iadd C dX5_tray_52 ?_
    refine V_iconst (v := 0) C dX5_tray_53 (by decide) ?_
    refine V_zastK C dX5_tray_54 (by first | assumption | exact hset_s _ _ _) hix (by omega) (by decide) (Or.inl rfl) ?_
    have r5 := r4.s24 (fset f (12 * k + j) 0)
    rw [fset_fset] at r5
    refine V_iinc4 (v := nI (j + 1)) C dX5_tray_55 (nI_1 _) (by decide) ?_
    refine V_goto (tgt := 35) C dX5_tray_58 (by decide) ?_
    exact V_wk (by simp [lle]) (ih _ _ ⟨⟨fset f (12 * k + j) 0, r5, fun i hi => by
      by_cases hij : i = j
      · subst hij; exact fset_s _ _ _
      · rw [fset_n (by omega)]; exact hf1 i (by omega), fun i hi => by rw [fset_n (by omega)]; exact hf2 i hi⟩, f4.tr (r4.f24 _), rfl⟩)
  · rintro h4 ls4 ⟨⟨f, r4, hf1, hf2⟩, f4, rfl⟩
    refine V_iload C dX5_tray_35 rfl ?_
    refine V_bipush (v := 12) C dX5_tray_37 (by decide) ?_
    refine V_icmp_ge (tgt := 61) C dX5_tray_39 (by decide) (fun _ => ?_) (fun z9 => absurd (by decide) z9)
    refine V_iload_n (i := 3) C dX5_tray_61 rfl rfl ?_
    exact V_iret C dX5_tray_62 hr ⟨⟨_, rfl, fun _ => rfl⟩, ⟨_, F, r4, hP.crew (c := k) (fun j hj => by rw [fset_n (by omega), fset_n (by omega)]) ⟨q1, q2, q3, fset_s _ _ _, q5, fun j hj => by show f (12 * k + j) = if j ∈ ([] : List Nat) then 1 else 0; rw [hf1 j hj, if_neg List.not_mem_nil], List.nodup_nil⟩ (fun c2 hc2 hn hp => ⟨hp.1, hp.2.1, hp.2.2.1, (fset_n hn).trans hp.2.2.2.1, hp.2.2.2.2.1, fun j hj => by show f (12 * c2 + j) = _; rw [hf2 _ (by omega)]; exact hp.2.2.2.2.2.1 j hj, hp.2.2.2.2.2.2⟩)⟩, f4⟩ (by exact Nat.le_of_ble_eq_true rfl) (by exact Nat.le_of_ble_eq_true rfl)
end RPUB3
