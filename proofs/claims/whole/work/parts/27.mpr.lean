/-! the reference's rows when something changes; its calls: lot, comes, cell, old, send, crew, tray, load -/
def cod (a b : String) (o : Option String) : Int32 := match o with
  | none => 0
  | some E => if E = a then 1 else if E = b then 2 else 3
def Rst (cA : Nat → ClassId) (A : Nat → Nat) (c1 c2 : String) (sp : Sp) (h : hE) : Option Value → hE → Prop := fun v h2 => (∃ b, v = some (.int b) ∧ (sp.1 = none → b = sp.2.1)) ∧ MW cA A sp.2.2 (cod c1 c2 sp.1) h2 ∧ mfr h h2
/-- cells alike but for what is of use within one call -/
def ceq (d e : Cd) : Prop := d.1 = e.1 ∧ clt d = clt e ∧ cwn d = cwn e ∧ cam d = cam e ∧ cla d = cla e ∧ cdr d = cdr e
theorem ceq.rf (d : Cd) : ceq d d := ⟨rfl, rfl, rfl, rfl, rfl, rfl⟩
theorem ceq.tr {a b c : Cd} (h : ceq a b) (k : ceq b c) : ceq a c := ⟨h.1.trans k.1, h.2.1.trans k.2.1, h.2.2.1.trans k.2.2.1, h.2.2.2.1.trans k.2.2.2.1, h.2.2.2.2.1.trans k.2.2.2.2.1, h.2.2.2.2.2.trans k.2.2.2.2.2⟩
theorem PRc.eq {I : MI} {F : MF} {c : Nat} {d e : Cd} (h : PRc I F c d) (q : ceq d e) : PRc I F c e := by
  obtain ⟨q1, q2, q3, q4, q5, q6⟩ := q
  obtain ⟨h1, h2, h3, h4, h5, h6⟩ := h
  exact ⟨h1.trans q3, h2.trans q1, h3.trans (by rw [q2]), h4.trans q4, h5.trans (by rw [q1, q5]), fun z => (h6 (q1.trans z)).trans q6⟩
theorem PR.ceq {X : XS} {I : MI} {F : MF} {p : Nat} {L : Nat → Ld} {G G2 : Nat → Cd} (h : PR (xpl X p L G) I F) (q : ∀ k, k < xN X p → ceq (G k) (G2 k)) : PR (xpl X p L G2) I F := by
  obtain ⟨h1, h2, h3, h4, h5, h6, h7⟩ := h
  refine ⟨h1, h2, h3, fun p2 hp2 k hk => ?_, h5, h6, h7⟩
  have h8 := h4 p2 hp2 k hk
  have h8 : PRc I F (cx (xwd X p2) p2 k) (fset (xg X) p G p2 k) := h8
  show PRc I F (cx (xwd X p2) p2 k) (fset (xg X) p G2 p2 k)
  by_cases hpp : p2 = p
  · subst hpp
    rw [fset_s] at h8 ⊢
    exact h8.eq (q k hk)
  · rw [fset_n hpp] at h8 ⊢
    exact h8
/-- rows of the pictures and crews, and places that a change of one cell leaves -/
def psame (I I' : MI) : Prop := I' 10 = I 10 ∧ I' 11 = I 11 ∧ I' 20 = I 20 ∧ I' 21 = I 21 ∧ I' 22 = I 22 ∧ I' 23 = I 23 ∧ I' 24 = I 24 ∧ I' 25 = I 25
theorem PRr.same {I I' : MI} (h : psame I I') {c : Nat} {d : Rw} (q : PRr I c d) : PRr I' c d := by
  obtain ⟨a1, a2, a3, a4, a5, a6, a7, a8⟩ := h
  obtain ⟨q1, q2, q3, q4, q5, q6, q7⟩ := q
  exact ⟨by rw [a3]; exact q1, by rw [a4]; exact q2, by rw [a5]; exact q3, by rw [a6]; exact q4, by rw [a8]; exact q5, by rw [a7]; exact q6, q7⟩
theorem PR.upd {X : XS} (hd : xdim X) {I I' : MI} {F F' : MF} {p k : Nat} {L L' : Nat → Ld} {G : Nat → Cd} {d : Cd} (h : PR (xpl X p L G) I F) (hp : p < xnp X) (hk : k < xN X p) (hL : ∀ j, j < xnl X → PRl I' F' j (L' j)) (hL2 : ∀ j, xnl X ≤ j → j < 12 → I' 7 j = 0 ∧ I' 8 j = 0) (hs : psame I I') (hc : PRc I' F' (cx (xwd X p) p k) d)
    (ho : ∀ c, c ≠ cx (xwd X p) p k → I' 12 c = I 12 c ∧ I' 13 c = I 13 c ∧ I' 14 c = I 14 c ∧ I' 16 c = I 16 c ∧ I' 17 c = I 17 c ∧ F' 15 c = F 15 c) : PR (xpl X p L' (fset G k d)) I' F' := by
  obtain ⟨h1, h2, h3, h4, h5, h6, h7⟩ := h
  refine ⟨hL, hL2, fun q hq => ?_, fun q hq j hj => ?_, fun c hc1 hc2 => ?_, fun c hc1 hc2 => ?_, fun c hc => (h7 c hc).same hs⟩
  · rw [hs.1, hs.2.1]
    exact h3 q hq
  · have h8 : PRc I F (cx (xwd X q) q j) (fset (xg X) p G q j) := h4 q hq j hj
    show PRc I' F' (cx (xwd X q) q j) (fset (xg X) p (fset G k d) q j)
    obtain ⟨⟨w1, w2⟩, g1, g2⟩ := hd.2.2 p hp
    obtain ⟨⟨w3, w4⟩, g3, g4⟩ := hd.2.2 q hq
    by_cases hqp : q = p
    · subst hqp
      rw [fset_s] at h8 ⊢
      by_cases hjk : j = k
      · subst hjk
        rw [fset_s]
        exact hc
      · rw [fset_n hjk]
        obtain ⟨o1, o2, o3, o4, o5, o6⟩ := ho (cx (xwd X q) q j) (fun z => hjk (cx_inj1 w1 w2 g2 hj hk z))
        obtain ⟨q1, q2, q3, q4, q5, q6⟩ := h8
        exact ⟨o1.trans q1, o2.trans q2, o3.trans q3, o6.trans q4, o4.trans q5, fun z => by rw [o4, o5]; exact q6 z⟩
    · rw [fset_n hqp] at h8 ⊢
      obtain ⟨o1, o2, o3, o4, o5, o6⟩ := ho (cx (xwd X q) q j) (fun z => hqp (cx_inj w3 w4 g4 hj w1 w2 g2 hk z).1)
      obtain ⟨q1, q2, q3, q4, q5, q6⟩ := h8
      exact ⟨o1.trans q1, o2.trans q2, o3.trans q3, o6.trans q4, o4.trans q5, fun z => by rw [o4, o5]; exact q6 z⟩
  · by_cases hcc : c = cx (xwd X p) p k
    · exact ⟨p, hp, k, hk, hcc⟩
    · rw [(ho c hcc).2.1] at hc2
      exact h5 c hc1 hc2
  · have hnc : c ≠ cx (xwd X p) p k := by
      intro z
      obtain ⟨⟨w1, w2⟩, g1, g2⟩ := hd.2.2 p hp
      have := (cx_in (p := p) w1 w2 g2 hk).2
      have hc1 : 64 * xnp X ≤ c := hc1
      omega
    rw [(ho c hnc).2.2.2.2.2]
    exact h6 c hc1 hc2
/-- one lot's rows change -/
theorem PRl.put {X : XS} {I I' : MI} {F F' : MF} {L : Nat → Ld} {b : Nat} {d : Ld} (h : ∀ j, j < xnl X → PRl I F j (L j)) (hb : PRl I' F' b d) (ho : ∀ j, j ≠ b → F' 3 j = F 3 j ∧ I' 4 j = I 4 j ∧ I' 5 j = I 5 j ∧ I' 6 j = I 6 j ∧ I' 7 j = I 7 j ∧ I' 8 j = I 8 j) : ∀ j, j < xnl X → PRl I' F' j (fset L b d j) := by
  intro j hj
  by_cases hjb : j = b
  · subst hjb
    rw [fset_s]
    exact hb
  · rw [fset_n hjb]
    obtain ⟨o1, o2, o3, o4, o5, o6⟩ := ho j hjb
    obtain ⟨q1, q2, q3, q4, q5, q6⟩ := h j hj
    exact ⟨o1.trans q1, o3.trans q2, o4.trans q3, o5.trans q4, o6.trans q5, by rw [o2, o5, o6]; exact q6⟩
/-- a crew's rows change -/
theorem PR.crew {X : XS} {I I' : MI} {F : MF} {c : Nat} {d : Rw} (h : PR X I F) (hs : ∀ j, j < 20 → I' j = I j) (hc : PRr I' c d) (ho : ∀ c2, c2 < 3 → c2 ≠ c → PRr I c2 (xcr X c2) → PRr I' c2 (xcr X c2)) : PR (setR X c d) I' F := by
  obtain ⟨h1, h2, h3, h4, h5, h6, h7⟩ := h
  have e4 := hs 4 (by decide)
  have e5 := hs 5 (by decide)
  have e6 := hs 6 (by decide)
  have e7 := hs 7 (by decide)
  have e8 := hs 8 (by decide)
  have e10 := hs 10 (by decide)
  have e11 := hs 11 (by decide)
  have e12 := hs 12 (by decide)
  have e13 := hs 13 (by decide)
  have e14 := hs 14 (by decide)
  have e16 := hs 16 (by decide)
  have e17 := hs 17 (by decide)
  refine ⟨fun k hk => ?_, fun k hk1 hk2 => ?_, fun p hp => ?_, fun p hp k hk => ?_, fun c hc1 hc2 => ?_, h6, fun c2 hc2 => ?_⟩
  · obtain ⟨q1, q2, q3, q4, q5, q6⟩ := h1 k hk
    exact ⟨q1, by rw [e5]; exact q2, by rw [e6]; exact q3, by rw [e7]; exact q4, by rw [e8]; exact q5, by rw [e4, e7, e8]; exact q6⟩
  · rw [e7, e8]
    exact h2 k hk1 hk2
  · rw [e10, e11]
    exact h3 p hp
  · obtain ⟨q1, q2, q3, q4, q5, q6⟩ := h4 p hp k hk
    exact ⟨by rw [e12]; exact q1, by rw [e13]; exact q2, by rw [e14]; exact q3, q4, by rw [e16]; exact q5, by rw [e16, e17]; exact q6⟩
  · rw [e13] at hc2
    exact h5 c hc1 hc2
  · show PRr I' c2 (fset (xcr X) c d c2)
    by_cases hcc : c2 = c
    · subst hcc
      rw [fset_s]
      exact hc
    · rw [fset_n hcc]
      exact ho c2 hc2 hcc (h7 c2 hc2)
theorem fsetN {α : Type} {f : Nat → Nat → α} {a b : Nat} {g : Nat → α} (h : (b == a) = false) : fset f a g b = f b := fset_n (by simpa using h)
section RPUB1
variable {l : Launch} {D : va_G} {cA : Nat → ClassId} {bs : Nat} {A : Nat → Nat} {I : MI} {F : MF} {h : hE} {X : XS} {th : Int32} {M : Nat}
/-- nothing changed but what was thrown -/
theorem Rst_x {c1 c2 E : String} {h2 : hE} {t2 : Int32} (r : MR cA A I F (t2, (mnn X th).2) h2) (hP : PR X I F) (f : mfr h h2) (h4 : cod c1 c2 (some E) = t2) : Rst cA A c1 c2 (some E, 0, X) h (some (.int 0)) h2 := ⟨⟨0, rfl, fun z => by cases z⟩, ⟨I, F, by show MR cA A I F (cod c1 c2 (some E), _) h2; rw [h4]; exact r, hP⟩, f⟩
theorem addL_PR {d : Ld} {I' : MI} {F' : MF} (hP : PR X I F) (hn : xnl X < 12) (h0 : PRl I' F' (xnl X) d) (hi : ∀ j, j ≠ 4 → j ≠ 5 → j ≠ 6 → I' j = I j) (hf : ∀ j, j ≠ 3 → F' j = F j) (ho : ∀ j, j ≠ xnl X → F' 3 j = F 3 j ∧ I' 4 j = I 4 j ∧ I' 5 j = I 5 j ∧ I' 6 j = I 6 j) : PR (addL X d) I' F' := by
  obtain ⟨h1, h2, h3, h4, h5, h6, h7⟩ := hP
  refine ⟨fun k hk => ?_, fun k hk1 hk2 => ?_, fun p hp => ?_, fun p hp k hk => ?_, fun c hc1 hc2 => ?_, fun c hc1 hc2 => ?_, fun c hc => ?_⟩
  · show PRl I' F' k (fset (xlo X) (xnl X) d k)
    by_cases hkn : k = xnl X
    · subst hkn
      rw [fset_s]
      exact h0
    · have hk : k < xnl X + 1 := hk
      rw [fset_n hkn]
      obtain ⟨o1, o2, o3, o4⟩ := ho k hkn
      obtain ⟨q1, q2, q3, q4, q5, q6⟩ := h1 k (by omega)
      have e7 := hi 7 (by decide) (by decide) (by decide)
      have e8 := hi 8 (by decide) (by decide) (by decide)
      exact ⟨o1.trans q1, o3.trans q2, o4.trans q3, by rw [e7]; exact q4, by rw [e8]; exact q5, by rw [o2, e7, e8]; exact q6⟩
  · have hk1 : xnl X + 1 ≤ k := hk1
    rw [hi 7 (by decide) (by decide) (by decide), hi 8 (by decide) (by decide) (by decide)]
    exact h2 k (by omega) hk2
  · rw [hi 10 (by decide) (by decide) (by decide), hi 11 (by decide) (by decide) (by decide)]
    exact h3 p hp
  · obtain ⟨q1, q2, q3, q4, q5, q6⟩ := h4 p hp k hk
    have e12 := hi 12 (by decide) (by decide) (by decide)
    have e13 := hi 13 (by decide) (by decide) (by decide)
    have e14 := hi 14 (by decide) (by decide) (by decide)
    have e16 := hi 16 (by decide) (by decide) (by decide)
    have e17 := hi 17 (by decide) (by decide) (by decide)
    have f15 := hf 15 (by decide)
    exact ⟨by rw [e12]; exact q1, by rw [e13]; exact q2, by rw [e14]; exact q3, by rw [f15]; exact q4, by rw [e16]; exact q5, by rw [e16, e17]; exact q6⟩
  · rw [hi 13 (by decide) (by decide) (by decide)] at hc2
    exact h5 c hc1 hc2
  · rw [hf 15 (by decide)]
    exact h6 c hc1 hc2
  · exact (h7 c hc).same ⟨hi 10 (by decide) (by decide) (by decide), hi 11 (by decide) (by decide) (by decide), hi 20 (by decide) (by decide) (by decide), hi 21 (by decide) (by decide) (by decide), hi 22 (by decide) (by decide) (by decide), hi 23 (by decide) (by decide) (by decide), hi 24 (by decide) (by decide) (by decide), hi 25 (by decide) (by decide) (by decide)⟩
set_option maxHeartbeats 4000000 in
set_option maxRecDepth 100000 in
theorem q_lot (r : MR cA A I F (mnn X th) h) (hd : xdim X) (hP : PR X I F) {a b c d : Int32} (hd01 : d = 0 ∨ d = 1) : Mt l D cA bs yX5_lot wsX5_lot (rmk 3 0 0) [.ref (A 0), .int a, .int b, .int c, .int d] h (Rst cA A kIA kIS (sp_lot X a b c d) h) := by
  have m0 := r.m0
  have hnl := hd.1
  refine Mt_of (cc := cX5_lot) (maxL := 5) (ret := (some .int)) (own := RX5) [some (.ref (A 0)), some (.int a), some (.int b), some (.int c), some (.int d)] rfl (by decide +kernel) rfl rfl (by exact Nat.le_of_ble_eq_true rfl) rfl ?_
  intro p9 e9 s9 m9 args9 below9 meth9 c9 C hr hnm
  refine V_join 37 (fun h2 ls2 st2 => h2 = h ∧ ls2 = [some (.ref (A 0)), some (.int a), some (.int b), some (.int c), some (.int d)] ∧ ∃ x, x = (if okR a 0 25500 ∧ okR b 1 500 ∧ okR c 0 1 then (1 : Int32) else 0) ∧ st2 = [.int x, .ref (A 0)]) ?_ (fun hj => ?_)
  · rintro h2 ls2 st2 ⟨z9, rfl, x, hx, rfl⟩
    have z9 := z9.symm
    subst z9
    refine V_join 51 (fun h2 ls2 st2 => h2 = h ∧ ls2 = [some (.ref (A 0)), some (.int a), some (.int b), some (.int c), some (.int d)] ∧ ∃ y, y = (if xnl X < 12 then (1 : Int32) else 0) ∧ st2 = [.int y, .int x, .ref (A 0)]) ?_ (fun hj2 => ?_)
    · rintro h2 ls2 st2 ⟨z9, rfl, y, hy, rfl⟩
      have z9 := z9.symm
      subst z9
      refine V_callV (n := 2) C (r_asked2 r hx (fun _ => hy)) dX5_lot_51 gX5_lot_X5_asked_ rfl (by first | assumption | exact hset_s _ _ _) rfl (by decide +kernel) rfl rfl (by exact Nat.le_of_ble_eq_true rfl) ⟨Nat.le_of_ble_eq_true rfl, Nat.le_of_ble_eq_true rfl⟩ ⟨Nat.le_of_ble_eq_true rfl, Nat.le_of_ble_eq_true rfl⟩ (fun v9 h9 hr9 => ?_)
      obtain ⟨rfl, r2, f2⟩ := hr9
      refine V_if_ne (tgt := 59) C dX5_lot_54 (by decide) (fun c54 => ?_) (fun c54 => ?_)
      · have c54 := Classical.not_not.mp (fun z => c54 (ite0.mpr z))
        obtain ⟨h1, h2⟩ := c54
        rw [if_pos h1, if_pos h2] at r2
        have e : sp_lot X a b c d = (none, nI (xnl X), addL X (FP.fdiv (FP.i2f a) 1120403456, c, d, b, 0, 0)) := by unfold sp_lot; rw [if_pos h1, if_pos h2]
        rw [e]
        obtain ⟨ka, hka, ea, -⟩ := okR_of (b := 25500) (by decide) h1.1
        have hdv : vf_n32 (FP.fdiv (FP.i2f a) 1120403456) := by rw [ea]; exact fb_n32 (fp_tone hka).1
        have m0 := r2.m0
        have m3 := r2.m3
        refine V_aload_n (i := 0) C dX5_lot_59 rfl rfl ?_
        refine V_get (ci := 5) (CN := RX5) (T := TX5) (N := 26) C dX5_lot_60 (by first | assumption | exact hset_s _ _ _) rfl 3 (by decide) flX5_lot_7 wiX5_lot_X5 (by rfl) ?_
        refine V_aload_n (i := 0) C dX5_lot_63 rfl rfl ?_
        refine V_get (ci := 5) (CN := RX5) (T := TX5) (N := 26) C dX5_lot_64 (by first | assumption | exact hset_s _ _ _) rfl 2 (by decide) flX5_lot_82 wiX5_lot_X5 (by rfl) ?_
        refine V_iload_n (i := 1) C dX5_lot_67 rfl rfl ?_
        refine V_i2f C dX5_lot_68 ?_
        refine V_ldcf (v := 1120403456) C dX5_lot_69 (by decide +kernel) ?_
        refine V_fdiv C dX5_lot_71 (by assumption) ?_
        refine V_fastK C dX5_lot_72 (by first | assumption | exact hset_s _ _ _) rfl h2 (by decide) ?_
        have r3 := r2.s3 (fset (F 3) (xnl X) (FP.fdiv (FP.i2f a) 1120403456))
        have f3 := f2.tr (r2.f3 (farr (cA 1) 12 (fset (F 3) (xnl X) (FP.fdiv (FP.i2f a) 1120403456))))
        have m0 := r3.m0
        have m4 := r3.m4
        refine V_aload_n (i := 0) C dX5_lot_73 rfl rfl ?_
        refine V_get (ci := 5) (CN := RX5) (T := TX5) (N := 26) C dX5_lot_74 (by first | assumption | exact hset_s _ _ _) rfl 4 (by decide) flX5_lot_13 wiX5_lot_X5 (by rfl) ?_
        refine V_aload_n (i := 0) C dX5_lot_77 rfl rfl ?_
        refine V_get (ci := 5) (CN := RX5) (T := TX5) (N := 26) C dX5_lot_78 (by first | assumption | exact hset_s _ _ _) rfl 2 (by decide) flX5_lot_82 wiX5_lot_X5 (by rfl) ?_
        refine V_iload_n (i := 2) C dX5_lot_81 rfl rfl ?_
        refine V_iastK C dX5_lot_82 (by first | assumption | exact hset_s _ _ _) rfl h2 (by decide) ?_
        have r4 := r3.s4 (fset (I 4) (xnl X) b)
        have f4 := f3.tr (r3.f4 (iarr (cA 0) 12 (fset (I 4) (xnl X) b)))
        have m0 := r4.m0
        have m5 := r4.m5
        refine V_aload_n (i := 0) C dX5_lot_83 rfl rfl ?_
        refine V_get (ci := 5) (CN := RX5) (T := TX5) (N := 26) C dX5_lot_84 (by first | assumption | exact hset_s _ _ _) rfl 5 (by decide) flX5_lot_17 wiX5_lot_X5 (by rfl) ?_
        refine V_aload_n (i := 0) C dX5_lot_87 rfl rfl ?_
        refine V_get (ci := 5) (CN := RX5) (T := TX5) (N := 26) C dX5_lot_88 (by first | assumption | exact hset_s _ _ _) rfl 2 (by decide) flX5_lot_82 wiX5_lot_X5 (by rfl) ?_
        refine V_iload_n (i := 3) C dX5_lot_91 rfl rfl ?_
        refine V_iastK C dX5_lot_92 (by first | assumption | exact hset_s _ _ _) rfl h2 (by decide) ?_
        have r5 := r4.s5 (fset (I 5) (xnl X) c)
        have f5 := f4.tr (r4.f5 (iarr (cA 0) 12 (fset (I 5) (xnl X) c)))
        have m0 := r5.m0
        have m6 := r5.m6
        refine V_aload_n (i := 0) C dX5_lot_93 rfl rfl ?_
        refine V_get (ci := 5) (CN := RX5) (T := TX5) (N := 26) C dX5_lot_94 (by first | assumption | exact hset_s _ _ _) rfl 6 (by decide) flX5_lot_20 wiX5_lot_X5 (by rfl) ?_
        refine V_aload_n (i := 0) C dX5_lot_97 rfl rfl ?_
        refine V_get (ci := 5) (CN := RX5) (T := TX5) (N := 26) C dX5_lot_98 (by first | assumption | exact hset_s _ _ _) rfl 2 (by decide) flX5_lot_82 wiX5_lot_X5 (by rfl) ?_
        refine V_iload C dX5_lot_101 rfl ?_
        refine V_zastK C dX5_lot_103 (by first | assumption | exact hset_s _ _ _) rfl h2 (by decide) hd01 ?_
        have r6 := r5.s6 (fset (I 6) (xnl X) d)
        have f6 := f5.tr (r5.f6 (iarr (cA 2) 12 (fset (I 6) (xnl X) d)))
        have m0 := r6.m0
        refine V_aload_n (i := 0) C dX5_lot_104 rfl rfl ?_
        refine V_dup C dX5_lot_105 rfl ?_
        refine V_get (ci := 5) (CN := RX5) (T := TX5) (N := 26) C dX5_lot_106 (by first | assumption | exact hset_s _ _ _) rfl 2 (by decide) flX5_lot_82 wiX5_lot_X5 (by rfl) ?_
        refine V_iconst (v := 1) C dX5_lot_109 (by decide) ?_
        refine V_iadd C dX5_lot_110 ?_
        rw [nI_1]
        refine V_put (ci := 5) (CN := RX5) (T := TX5) (N := 26) (ty := (tyX5 2)) C dX5_lot_111 (by first | assumption | exact hset_s _ _ _) rfl tyX5 tyX5_ok nmX5 2 (by decide) flX5_lot_82 wiX5_lot_X5 rfl (tyX5_ok 2 (by decide)) (by rfl) (by rfl) (by exact Nat.le_of_ble_eq_true rfl) ?_
        have r7 := r6.setN (0, xnw X, nI (xnl X + 1), nI (xnp X))
        have f7 := f6.tr (r6.f0 (modO A 0 (xnw X) (nI (xnl X + 1)) (nI (xnp X))))
        refine V_aload_n (i := 0) C dX5_lot_114 rfl rfl ?_
        refine V_get (ci := 5) (CN := RX5) (T := TX5) (N := 26) C dX5_lot_115 (by first | assumption | exact hset_s _ _ _) rfl 2 (by decide) flX5_lot_82 wiX5_lot_X5 (by rfl) ?_
        refine V_iconst (v := 1) C dX5_lot_118 (by decide) ?_
        refine V_isub C dX5_lot_119 ?_
        rw [nI_pred]
        exact V_iret C dX5_lot_120 hr ⟨⟨_, rfl, fun _ => rfl⟩, ⟨_, _, r7, addL_PR hP h2 ⟨fset_s _ _ _, fset_s _ _ _, fset_s _ _ _, (hP.2.1 _ (Nat.le_refl _) h2).1, (hP.2.1 _ (Nat.le_refl _) h2).2, by show fset (I 4) (xnl X) b (xnl X) - I 7 (xnl X) - I 8 (xnl X) = b; rw [fset_s, (hP.2.1 _ (Nat.le_refl _) h2).1, (hP.2.1 _ (Nat.le_refl _) h2).2, Int32.sub_zero, Int32.sub_zero]⟩ (fun j j4 j5 j6 => by rw [fset_n j6, fset_n j5, fset_n j4]) (fun j j3 => fset_n j3) (fun j hj => ⟨fset_n hj, fset_n hj, fset_n hj, fset_n hj⟩)⟩, f7⟩ (by exact Nat.le_of_ble_eq_true rfl) (by exact Nat.le_of_ble_eq_true rfl)
      · have c54 := ite0.mp c54
        refine V_iconst (v := 0) C dX5_lot_57 (by decide) ?_
        exact V_iret C dX5_lot_58 hr (by
          by_cases h1 : okR a 0 25500 ∧ okR b 1 500 ∧ okR c 0 1
          · have h2 : ¬ xnl X < 12 := fun z => c54 ⟨h1, z⟩
            rw [if_pos h1, if_neg h2] at r2
            have e : sp_lot X a b c d = (some kIS, 0, X) := by unfold sp_lot; rw [if_pos h1, if_neg h2]
            rw [e]
            exact Rst_x r2 hP f2 (by decide +kernel)
          · rw [if_neg h1] at r2
            have e : sp_lot X a b c d = (some kIA, 0, X) := by unfold sp_lot; rw [if_neg h1]
            rw [e]
            exact Rst_x r2 hP f2 (by decide +kernel)) (by exact Nat.le_of_ble_eq_true rfl) (by exact Nat.le_of_ble_eq_true rfl)
    · refine V_aload_n (i := 0) C dX5_lot_37 rfl rfl ?_
      refine V_get (ci := 5) (CN := RX5) (T := TX5) (N := 26) C dX5_lot_38 (by first | assumption | exact hset_s _ _ _) rfl 2 (by decide) flX5_lot_82 wiX5_lot_X5 (by rfl) ?_
      refine V_bipush (v := 12) C dX5_lot_41 (by decide) ?_
      refine V_icmp_ge (tgt := 50) C dX5_lot_43 (by decide) (fun c43 => ?_) (fun c43 => ?_)
      · have c43 : ¬ xnl X < 12 := fun z => nI_ge (b := 12) z (by decide) c43
        refine V_iconst (v := 0) C dX5_lot_50 (by decide) ?_
        exact hj2 _ _ _ ⟨rfl, rfl, _, by first | exact (if_pos c43).symm | exact (if_neg c43).symm, rfl⟩
      · have c43 : xnl X < 12 := by rcases Nat.lt_or_ge (xnl X) 12 with z | z; exact z; exact absurd (nI_le (a := 12) z (by omega)) c43
        refine V_iconst (v := 1) C dX5_lot_46 (by decide) ?_
        refine V_goto (tgt := 51) C dX5_lot_47 (by decide) ?_
        exact hj2 _ _ _ ⟨rfl, rfl, _, by first | exact (if_pos c43).symm | exact (if_neg c43).symm, rfl⟩
  · refine V_aload_n (i := 0) C dX5_lot_0 rfl rfl ?_
    refine V_iload_n (i := 1) C dX5_lot_1 rfl rfl ?_
    refine V_iconst (v := 0) C dX5_lot_2 (by decide) ?_
    refine V_sipush (v := 25500) C dX5_lot_3 (by decide) ?_
    refine V_callS (n := 3) C (r_in) dX5_lot_6 gX5_lot_X5_in rfl (by decide +kernel) rfl rfl (by exact Nat.le_of_ble_eq_true rfl) ⟨Nat.le_of_ble_eq_true rfl, Nat.le_of_ble_eq_true rfl⟩ ⟨Nat.le_of_ble_eq_true rfl, Nat.le_of_ble_eq_true rfl⟩ (fun v9 h9 hr9 => ?_)
    obtain ⟨rfl, z9⟩ := hr9
    have z9 := z9.symm
    subst z9
    refine V_if_eq (tgt := 36) C dX5_lot_9 (by decide) (fun c9 => ?_) (fun c9 => ?_)
    · have c9 := ite0.mp c9
      have e9 : ¬ (okR a 0 25500 ∧ okR b 1 500 ∧ okR c 0 1) := fun z => c9 z.1
      refine V_iconst (v := 0) C dX5_lot_36 (by decide) ?_
      exact hj _ _ _ ⟨rfl, rfl, _, by first | exact (if_pos e9).symm | exact (if_neg e9).symm, rfl⟩
    · have c9 := Classical.not_not.mp (fun z => c9 (ite0.mpr z))
      refine V_iload_n (i := 2) C dX5_lot_12 rfl rfl ?_
      refine V_iconst (v := 1) C dX5_lot_13 (by decide) ?_
      refine V_sipush (v := 500) C dX5_lot_14 (by decide) ?_
      refine V_callS (n := 3) C (r_in) dX5_lot_17 gX5_lot_X5_in rfl (by decide +kernel) rfl rfl (by exact Nat.le_of_ble_eq_true rfl) ⟨Nat.le_of_ble_eq_true rfl, Nat.le_of_ble_eq_true rfl⟩ ⟨Nat.le_of_ble_eq_true rfl, Nat.le_of_ble_eq_true rfl⟩ (fun v9 h9 hr9 => ?_)
      obtain ⟨rfl, z9⟩ := hr9
      have z9 := z9.symm
      subst z9
      refine V_if_eq (tgt := 36) C dX5_lot_20 (by decide) (fun c20 => ?_) (fun c20 => ?_)
      · have c20 := ite0.mp c20
        have e9 : ¬ (okR a 0 25500 ∧ okR b 1 500 ∧ okR c 0 1) := fun z => c20 z.2.1
        refine V_iconst (v := 0) C dX5_lot_36 (by decide) ?_
        exact hj _ _ _ ⟨rfl, rfl, _, by first | exact (if_pos e9).symm | exact (if_neg e9).symm, rfl⟩
      · have c20 := Classical.not_not.mp (fun z => c20 (ite0.mpr z))
        refine V_iload_n (i := 3) C dX5_lot_23 rfl rfl ?_
        refine V_iconst (v := 0) C dX5_lot_24 (by decide) ?_
        refine V_iconst (v := 1) C dX5_lot_25 (by decide) ?_
        refine V_callS (n := 3) C (r_in) dX5_lot_26 gX5_lot_X5_in rfl (by decide +kernel) rfl rfl (by exact Nat.le_of_ble_eq_true rfl) ⟨Nat.le_of_ble_eq_true rfl, Nat.le_of_ble_eq_true rfl⟩ ⟨Nat.le_of_ble_eq_true rfl, Nat.le_of_ble_eq_true rfl⟩ (fun v9 h9 hr9 => ?_)
        obtain ⟨rfl, z9⟩ := hr9
        have z9 := z9.symm
        subst z9
        refine V_if_eq (tgt := 36) C dX5_lot_29 (by decide) (fun c29 => ?_) (fun c29 => ?_)
        · have c29 := ite0.mp c29
          have e9 : ¬ (okR a 0 25500 ∧ okR b 1 500 ∧ okR c 0 1) := fun z => c29 z.2.2
          refine V_iconst (v := 0) C dX5_lot_36 (by decide) ?_
          exact hj _ _ _ ⟨rfl, rfl, _, by first | exact (if_pos e9).symm | exact (if_neg e9).symm, rfl⟩
        · have c29 := Classical.not_not.mp (fun z => c29 (ite0.mpr z))
          have e9 : okR a 0 25500 ∧ okR b 1 500 ∧ okR c 0 1 := ⟨c9, c20, c29⟩
          refine V_iconst (v := 1) C dX5_lot_32 (by decide) ?_
          refine V_goto (tgt := 37) C dX5_lot_33 (by decide) ?_
          exact hj _ _ _ ⟨rfl, rfl, _, by first | exact (if_pos e9).symm | exact (if_neg e9).symm, rfl⟩
end RPUB1
