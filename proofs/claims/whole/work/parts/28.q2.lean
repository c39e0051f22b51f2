/-! the reference's calls: comes, cell, old, send, crew, tray, load -/
section RPUB2
variable {l : Launch} {D : va_G} {cA : Nat → ClassId} {bs : Nat} {A : Nat → Nat} {I : MI} {F : MF} {h : hE} {X : XS} {th : Int32} {M : Nat}
theorem PR.lotw (hP : PR X I F) {I' : MI} {L' : Nat → Ld} (hL : ∀ j, j < xnl X → PRl I' F j (L' j)) (hL2 : ∀ j, xnl X ≤ j → j < 12 → I' 7 j = 0 ∧ I' 8 j = 0) (hs : psame I I') (ho : I' 12 = I 12 ∧ I' 13 = I 13 ∧ I' 14 = I 14 ∧ I' 16 = I 16 ∧ I' 17 = I 17) : PR (wlo X L') I' F := by
  obtain ⟨h1, h2, h3, h4, h5, h6, h7⟩ := hP
  obtain ⟨o1, o2, o3, o4, o5⟩ := ho
  refine ⟨hL, hL2, fun q hq => ?_, fun q hq j hj => ?_, fun c hc1 hc2 => ?_, h6, fun c hc => (h7 c hc).same hs⟩
  · rw [hs.1, hs.2.1]
    exact h3 q hq
  · obtain ⟨q1, q2, q3, q4, q5, q6⟩ := h4 q hq j hj
    exact ⟨by rw [o1]; exact q1, by rw [o2]; exact q2, by rw [o3]; exact q3, q4, by rw [o4]; exact q5, by rw [o4, o5]; exact q6⟩
  · rw [o2] at hc2
    exact h5 c hc1 hc2
set_option maxHeartbeats 4000000 in
set_option maxRecDepth 100000 in
theorem q_comes (r : MR cA A I F (mnn X th) h) (hI : CI M X) (hP : PR X I F) {x : Int32} : Mt l D cA bs yX5_comes wsX5_comes (rmk 3 0 0) [.ref (A 0), .int x] h (Rst cA A kIO kIS (sp_comes X x) h) := by
  have m0 := r.m0
  have hd := hI.1.1
  have hnl := hd.1
  by_cases ha : lotN X x
  · obtain ⟨k, hk, rfl, ek⟩ := lotN_of hd ha
    obtain ⟨q1, q2, q3, q4, q5, q6⟩ := hP.1 k hk
    have m6 := r.m6
    by_cases ht : lth (xlo X k) = 0
    · have e : sp_comes X (nI k) = (none, llf (xlo X k), wlo X (fset (xlo X) k (ldT (xlo X k)))) := by unfold sp_comes; rw [if_pos ha, ek, if_pos ht]
      rw [e]
      refine Mt_of (cc := cX5_comes) (maxL := 3) (ret := (some .int)) (own := RX5) [some (.ref (A 0)), some (.int (nI k)), none] rfl (by decide +kernel) rfl rfl (by exact Nat.le_of_ble_eq_true rfl) rfl ?_
      intro p9 e9 s9 m9 args9 below9 meth9 c9 C hr hnm
      refine V_aload_n (i := 0) C dX5_comes_0 rfl rfl ?_
      refine V_iload_n (i := 1) C dX5_comes_1 rfl rfl ?_
      refine V_callV (n := 1) C (r_isLotX r hd) dX5_comes_2 gX5_comes_X5_isLot rfl (by first | assumption | exact hset_s _ _ _) rfl (by decide +kernel) rfl rfl (by exact Nat.le_of_ble_eq_true rfl) ⟨Nat.le_of_ble_eq_true rfl, Nat.le_of_ble_eq_true rfl⟩ ⟨Nat.le_of_ble_eq_true rfl, Nat.le_of_ble_eq_true rfl⟩ (fun v9 h9 hr9 => ?_)
      rw [if_pos ha] at hr9
      obtain ⟨rfl, z9⟩ := hr9
      have z9 := z9.symm
      subst z9
      refine V_istore2 C dX5_comes_5 (by decide) ?_
      refine V_aload_n (i := 0) C dX5_comes_6 rfl rfl ?_
      refine V_iload_n (i := 2) C dX5_comes_7 rfl rfl ?_
      refine V_iload_n (i := 2) C dX5_comes_8 rfl rfl ?_
      refine V_if_eq (tgt := 25) C dX5_comes_9 (by decide) (fun z9 => absurd z9 (by decide)) (fun _ => ?_)
      refine V_aload_n (i := 0) C dX5_comes_12 rfl rfl ?_
      refine V_get (ci := 5) (CN := RX5) (T := TX5) (N := 26) C dX5_comes_13 (by first | assumption | exact hset_s _ _ _) rfl 6 (by decide) flX5_comes_20 wiX5_comes_X5 (by rfl) ?_
      refine V_iload_n (i := 1) C dX5_comes_16 rfl rfl ?_
      refine V_zaldK C dX5_comes_17 (by first | assumption | exact hset_s _ _ _) rfl (by omega) (by decide) q3 ?_
      refine V_if_ne (tgt := 25) C dX5_comes_18 (by decide) (fun z9 => absurd ht z9) (fun _ => ?_)
      refine V_iconst (v := 1) C dX5_comes_21 (by decide) ?_
      refine V_goto (tgt := 26) C dX5_comes_22 (by decide) ?_
      refine V_callV (n := 2) C (r_asked2 (P := True) (Q := True) r rfl (fun _ => rfl)) dX5_comes_26 gX5_comes_X5_asked_ rfl (by first | assumption | exact hset_s _ _ _) rfl (by decide +kernel) rfl rfl (by exact Nat.le_of_ble_eq_true rfl) ⟨Nat.le_of_ble_eq_true rfl, Nat.le_of_ble_eq_true rfl⟩ ⟨Nat.le_of_ble_eq_true rfl, Nat.le_of_ble_eq_true rfl⟩ (fun v9 h9 hr9 => ?_)
      obtain ⟨rfl, r2, f2⟩ := hr9
      have m0 := r2.m0
      have m6 := r2.m6
      refine V_if_ne (tgt := 34) C dX5_comes_29 (by decide) (fun _ => ?_) (fun z9 => absurd z9 (by decide))
      refine V_aload_n (i := 0) C dX5_comes_34 rfl rfl ?_
      refine V_get (ci := 5) (CN := RX5) (T := TX5) (N := 26) C dX5_comes_35 (by first | assumption | exact hset_s _ _ _) rfl 6 (by decide) flX5_comes_20 wiX5_comes_X5 (by rfl) ?_
      refine V_iload_n (i := 1) C dX5_comes_38 rfl rfl ?_
      refine V_iconst (v := 1) C dX5_comes_39 (by decide) ?_
      refine V_zastK C dX5_comes_40 (by first | assumption | exact hset_s _ _ _) rfl (show k < 12 by omega) (by decide) (Or.inr rfl) ?_
      have r3 := r2.s6 (fset (I 6) k 1)
      have f3 := f2.tr (r2.f6 (iarr (cA 2) 12 (fset (I 6) k 1)))
      have m0 := r3.m0
      refine V_aload_n (i := 0) C dX5_comes_41 rfl rfl ?_
      refine V_iload_n (i := 1) C dX5_comes_42 rfl rfl ?_
      refine V_callV (n := 1) C (r_left r3 (show k < 12 by omega)) dX5_comes_43 gX5_comes_X5_left rfl (by first | assumption | exact hset_s _ _ _) rfl (by decide +kernel) rfl rfl (by exact Nat.le_of_ble_eq_true rfl) ⟨Nat.le_of_ble_eq_true rfl, Nat.le_of_ble_eq_true rfl⟩ ⟨Nat.le_of_ble_eq_true rfl, Nat.le_of_ble_eq_true rfl⟩ (fun v9 h9 hr9 => ?_)
      obtain ⟨rfl, z9⟩ := hr9
      have z9 := z9.symm
      subst z9
      exact V_iret C dX5_comes_46 hr ⟨⟨_, rfl, fun _ => q6⟩, ⟨_, F, r3, hP.lotw (PRl.put (L := xlo X) (b := k) (I := I) (F := F) hP.1 ⟨q1, q2, fset_s _ _ _, q4, q5, q6⟩ (fun j hj => ⟨rfl, rfl, rfl, fset_n hj, rfl, rfl⟩)) hP.2.1 ⟨rfl, rfl, rfl, rfl, rfl, rfl, rfl, rfl⟩ ⟨rfl, rfl, rfl, rfl, rfl⟩⟩, f3⟩ (by exact Nat.le_of_ble_eq_true rfl) (by exact Nat.le_of_ble_eq_true rfl)
    · have e : sp_comes X (nI k) = (some kIS, 0, X) := by unfold sp_comes; rw [if_pos ha, ek, if_neg ht]
      rw [e]
      refine Mt_of (cc := cX5_comes) (maxL := 3) (ret := (some .int)) (own := RX5) [some (.ref (A 0)), some (.int (nI k)), none] rfl (by decide +kernel) rfl rfl (by exact Nat.le_of_ble_eq_true rfl) rfl ?_
      intro p9 e9 s9 m9 args9 below9 meth9 c9 C hr hnm
      refine V_aload_n (i := 0) C dX5_comes_0 rfl rfl ?_
      refine V_iload_n (i := 1) C dX5_comes_1 rfl rfl ?_
      refine V_callV (n := 1) C (r_isLotX r hd) dX5_comes_2 gX5_comes_X5_isLot rfl (by first | assumption | exact hset_s _ _ _) rfl (by decide +kernel) rfl rfl (by exact Nat.le_of_ble_eq_true rfl) ⟨Nat.le_of_ble_eq_true rfl, Nat.le_of_ble_eq_true rfl⟩ ⟨Nat.le_of_ble_eq_true rfl, Nat.le_of_ble_eq_true rfl⟩ (fun v9 h9 hr9 => ?_)
      rw [if_pos ha] at hr9
      obtain ⟨rfl, z9⟩ := hr9
      have z9 := z9.symm
      subst z9
      refine V_istore2 C dX5_comes_5 (by decide) ?_
      refine V_aload_n (i := 0) C dX5_comes_6 rfl rfl ?_
      refine V_iload_n (i := 2) C dX5_comes_7 rfl rfl ?_
      refine V_iload_n (i := 2) C dX5_comes_8 rfl rfl ?_
      refine V_if_eq (tgt := 25) C dX5_comes_9 (by decide) (fun z9 => absurd z9 (by decide)) (fun _ => ?_)
      refine V_aload_n (i := 0) C dX5_comes_12 rfl rfl ?_
      refine V_get (ci := 5) (CN := RX5) (T := TX5) (N := 26) C dX5_comes_13 (by first | assumption | exact hset_s _ _ _) rfl 6 (by decide) flX5_comes_20 wiX5_comes_X5 (by rfl) ?_
      refine V_iload_n (i := 1) C dX5_comes_16 rfl rfl ?_
      refine V_zaldK C dX5_comes_17 (by first | assumption | exact hset_s _ _ _) rfl (by omega) (by decide) q3 ?_
      refine V_if_ne (tgt := 25) C dX5_comes_18 (by decide) (fun _ => ?_) (fun z9 => absurd z9 ht)
      refine V_iconst (v := 0) C dX5_comes_25 (by decide) ?_
      refine V_callV (n := 2) C (r_asked2 (P := True) (Q := False) r rfl (fun _ => rfl)) dX5_comes_26 gX5_comes_X5_asked_ rfl (by first | assumption | exact hset_s _ _ _) rfl (by decide +kernel) rfl rfl (by exact Nat.le_of_ble_eq_true rfl) ⟨Nat.le_of_ble_eq_true rfl, Nat.le_of_ble_eq_true rfl⟩ ⟨Nat.le_of_ble_eq_true rfl, Nat.le_of_ble_eq_true rfl⟩ (fun v9 h9 hr9 => ?_)
      obtain ⟨rfl, r2, f2⟩ := hr9
      refine V_if_ne (tgt := 34) C dX5_comes_29 (by decide) (fun z9 => absurd rfl z9) (fun _ => ?_)
      refine V_iconst (v := 0) C dX5_comes_32 (by decide) ?_
      exact V_iret C dX5_comes_33 hr (Rst_x r2 hP f2 (by decide +kernel)) (by exact Nat.le_of_ble_eq_true rfl) (by exact Nat.le_of_ble_eq_true rfl)
  · have e : sp_comes X x = (some kIO, 0, X) := by unfold sp_comes; rw [if_neg ha]
    rw [e]
    refine Mt_of (cc := cX5_comes) (maxL := 3) (ret := (some .int)) (own := RX5) [some (.ref (A 0)), some (.int x), none] rfl (by decide +kernel) rfl rfl (by exact Nat.le_of_ble_eq_true rfl) rfl ?_
    intro p9 e9 s9 m9 args9 below9 meth9 c9 C hr hnm
    refine V_aload_n (i := 0) C dX5_comes_0 rfl rfl ?_
    refine V_iload_n (i := 1) C dX5_comes_1 rfl rfl ?_
    refine V_callV (n := 1) C (r_isLotX r hd) dX5_comes_2 gX5_comes_X5_isLot rfl (by first | assumption | exact hset_s _ _ _) rfl (by decide +kernel) rfl rfl (by exact Nat.le_of_ble_eq_true rfl) ⟨Nat.le_of_ble_eq_true rfl, Nat.le_of_ble_eq_true rfl⟩ ⟨Nat.le_of_ble_eq_true rfl, Nat.le_of_ble_eq_true rfl⟩ (fun v9 h9 hr9 => ?_)
    rw [if_neg ha] at hr9
    obtain ⟨rfl, z9⟩ := hr9
    have z9 := z9.symm
    subst z9
    refine V_istore2 C dX5_comes_5 (by decide) ?_
    refine V_aload_n (i := 0) C dX5_comes_6 rfl rfl ?_
    refine V_iload_n (i := 2) C dX5_comes_7 rfl rfl ?_
    refine V_iload_n (i := 2) C dX5_comes_8 rfl rfl ?_
    refine V_if_eq (tgt := 25) C dX5_comes_9 (by decide) (fun _ => ?_) (fun z9 => absurd rfl z9)
    refine V_iconst (v := 0) C dX5_comes_25 (by decide) ?_
    refine V_callV (n := 2) C (r_asked2 (P := False) (Q := False) r rfl (fun z => z.elim)) dX5_comes_26 gX5_comes_X5_asked_ rfl (by first | assumption | exact hset_s _ _ _) rfl (by decide +kernel) rfl rfl (by exact Nat.le_of_ble_eq_true rfl) ⟨Nat.le_of_ble_eq_true rfl, Nat.le_of_ble_eq_true rfl⟩ ⟨Nat.le_of_ble_eq_true rfl, Nat.le_of_ble_eq_true rfl⟩ (fun v9 h9 hr9 => ?_)
    obtain ⟨rfl, r2, f2⟩ := hr9
    refine V_if_ne (tgt := 34) C dX5_comes_29 (by decide) (fun z9 => absurd rfl z9) (fun _ => ?_)
    refine V_iconst (v := 0) C dX5_comes_32 (by decide) ?_
    exact V_iret C dX5_comes_33 hr (Rst_x r2 hP f2 (by decide +kernel)) (by exact Nat.le_of_ble_eq_true rfl) (by exact Nat.le_of_ble_eq_true rfl)
theorem PR.cellw (hP : PR X I F) (hd : xdim X) {I' : MI} {p k : Nat} {d : Cd} (hp : p < xnp X) (hk : k < xN X p) (hl : I' 4 = I 4 ∧ I' 5 = I 5 ∧ I' 6 = I 6 ∧ I' 7 = I 7 ∧ I' 8 = I 8) (hs : psame I I') (hc : PRc I' F (cx (xwd X p) p k) d)
    (ho : ∀ c, c ≠ cx (xwd X p) p k → I' 12 c = I 12 c ∧ I' 13 c = I 13 c ∧ I' 14 c = I 14 c ∧ I' 16 c = I 16 c ∧ I' 17 c = I 17 c ∧ F 15 c = F 15 c) : PR (setG X p k d) I' F := by
  have h1 : PR (xpl X p (xlo X) (xg X p)) I F := by rw [xpl_id]; exact hP
  obtain ⟨a1, a2, a3, a4, a5⟩ := hl
  exact h1.upd hd hp hk (fun j hj => by
    obtain ⟨q1, q2, q3, q4, q5, q6⟩ := hP.1 j hj
    exact ⟨q1, by rw [a2]; exact q2, by rw [a3]; exact q3, by rw [a4]; exact q4, by rw [a5]; exact q5, by rw [a1, a4, a5]; exact q6⟩) (fun j h1 h2 => by rw [a4, a5]; exact hP.2.1 j h1 h2) hs hc ho
set_option maxHeartbeats 4000000 in
set_option maxRecDepth 100000 in
theorem q_cell (r : MR cA A I F (mnn X th) h) (hI : CI M X) (hP : PR X I F) {a b c d : Int32} : Mt l D cA bs yX5_cell wsX5_cell (rmk 4 0 0) [.ref (A 0), .int a, .int b, .int c, .int d] h (Rst cA A kIO kIA (sp_cell X a b c d) h) := by
  have m0 := r.m0
  have m13 := r.m13
  have hd := hI.1.1
  have hnp := hd.2.1
  by_cases hx : celN X a b c
  · obtain ⟨p, i, j, hp, hi, hj, rfl, rfl, rfl, ep, ec⟩ := celN_of hd hx
    have hk := at_lt hi hj
    obtain ⟨⟨w1, w2⟩, g1, g2⟩ := hd.2.2 p hp
    have hcl := cx_lt (p := p) w1 w2 g2 (by omega) hk
    obtain ⟨q1, q2, q3, q4, q5, q6⟩ := hP.2.2.2.1 p hp _ hk
    have hok := (hI.2.1 p hp _ hk).1
    have esp : sp_cell X (nI p) (nI i) (nI j) d = if okR d 0 255 then (if dn (xg X p (j * xwd X p + i)) then (some kIS, 0, X) else (none, cwn (xg X p (j * xwd X p + i)), setG X p (j * xwd X p + i) (cdW (xg X p (j * xwd X p + i)) d))) else (some kIA, 0, X) := by unfold sp_cell; rw [if_pos hx, ep, ec]
    refine Mt_of (cc := cX5_cell) (maxL := 8) (ret := (some .int)) (own := RX5) [some (.ref (A 0)), some (.int (nI p)), some (.int (nI i)), some (.int (nI j)), some (.int d), none, none, none] rfl (by decide +kernel) rfl rfl (by exact Nat.le_of_ble_eq_true rfl) rfl ?_
    intro p9 e9 s9 m9 args9 below9 meth9 c9 C hr hnm
    refine V_join 69 (fun h2 ls2 st2 => h2 = h ∧ ls2 = [some (.ref (A 0)), some (.int (nI p)), some (.int (nI i)), some (.int (nI j)), some (.int d), some (.int 1), some (.int (nI (cx (xwd X p) p (j * xwd X p + i)))), none] ∧ ∃ y, y = (if ¬ dn (xg X p (j * xwd X p + i)) then (1 : Int32) else 0) ∧ st2 = [.int y, .int (if okR d 0 255 then 1 else 0), .int 1, .ref (A 0)]) ?_ (fun hj2 => ?_)
    · rintro h2 ls2 st2 ⟨z9, rfl, y, hy, rfl⟩
      have z9 := z9.symm
      subst z9
      refine V_callV (n := 3) C (r_asked3 (P := True) r rfl (fun _ => rfl) (fun _ => hy)) dX5_cell_69 gX5_cell_X5_asked__ rfl (by first | assumption | exact hset_s _ _ _) rfl (by decide +kernel) rfl rfl (by exact Nat.le_of_ble_eq_true rfl) ⟨Nat.le_of_ble_eq_true rfl, Nat.le_of_ble_eq_true rfl⟩ ⟨Nat.le_of_ble_eq_true rfl, Nat.le_of_ble_eq_true rfl⟩ (fun v9 h9 hr9 => ?_)
      obtain ⟨rfl, r2, f2⟩ := hr9
      refine V_if_ne (tgt := 77) C dX5_cell_72 (by decide) (fun c72 => ?_) (fun c72 => ?_)
      · have c72 := Classical.not_not.mp (fun z => c72 (ite0.mpr z))
        rw [if_pos trivial, if_pos c72.2.1, if_pos c72.2.2] at r2
        rw [if_pos c72.2.1, if_neg c72.2.2] at esp
        rw [esp]
        have m0 := r2.m0
        have m12 := r2.m12
        refine V_aload_n (i := 0) C dX5_cell_77 rfl rfl ?_
        refine V_get (ci := 5) (CN := RX5) (T := TX5) (N := 26) C dX5_cell_78 (by first | assumption | exact hset_s _ _ _) rfl 12 (by decide) flX5_cell_36 wiX5_cell_X5 (by rfl) ?_
        refine V_iload C dX5_cell_81 rfl ?_
        refine V_ialdK C dX5_cell_83 (by first | assumption | exact hset_s _ _ _) rfl hcl (by decide) q1 ?_
        refine V_istore7 C dX5_cell_84 (by decide) ?_
        refine V_aload_n (i := 0) C dX5_cell_86 rfl rfl ?_
        refine V_get (ci := 5) (CN := RX5) (T := TX5) (N := 26) C dX5_cell_87 (by first | assumption | exact hset_s _ _ _) rfl 12 (by decide) flX5_cell_36 wiX5_cell_X5 (by rfl) ?_
        refine V_iload C dX5_cell_90 rfl ?_
        refine V_iload C dX5_cell_92 rfl ?_
        refine V_iastK C dX5_cell_94 (by first | assumption | exact hset_s _ _ _) rfl hcl (by decide) ?_
        have r3 := r2.s12 (fset (I 12) (cx (xwd X p) p (j * xwd X p + i)) d)
        have f3 := f2.tr (r2.f12 (iarr (cA 0) 320 (fset (I 12) (cx (xwd X p) p (j * xwd X p + i)) d)))
        refine V_iload C dX5_cell_95 rfl ?_
        exact V_iret C dX5_cell_97 hr ⟨⟨_, rfl, fun _ => rfl⟩, ⟨_, F, r3, hP.cellw hd hp hk ⟨rfl, rfl, rfl, rfl, rfl⟩ ⟨rfl, rfl, rfl, rfl, rfl, rfl, rfl, rfl⟩ ⟨fset_s _ _ _, q2, q3, q4, q5, q6⟩ (fun c hc => ⟨fset_n hc, rfl, rfl, rfl, rfl, rfl⟩)⟩, f3⟩ (by exact Nat.le_of_ble_eq_true rfl) (by exact Nat.le_of_ble_eq_true rfl)
      · have c72 := ite0.mp c72
        refine V_iconst (v := 0) C dX5_cell_75 (by decide) ?_
        exact V_iret C dX5_cell_76 hr (by
          by_cases h1 : okR d 0 255
          · have h2 : dn (xg X p (j * xwd X p + i)) := Classical.not_not.mp (fun z => c72 ⟨trivial, h1, z⟩)
            rw [if_pos trivial, if_pos h1, if_neg (fun z => z h2)] at r2
            rw [if_pos h1, if_pos h2] at esp
            rw [esp]
            exact Rst_x r2 hP f2 (by decide +kernel)
          · rw [if_pos trivial, if_neg h1] at r2
            rw [if_neg h1] at esp
            rw [esp]
            exact Rst_x r2 hP f2 (by decide +kernel)) (by exact Nat.le_of_ble_eq_true rfl) (by exact Nat.le_of_ble_eq_true rfl)
    · refine V_aload_n (i := 0) C dX5_cell_0 rfl rfl ?_
      refine V_iload_n (i := 1) C dX5_cell_1 rfl rfl ?_
      refine V_iload_n (i := 2) C dX5_cell_2 rfl rfl ?_
      refine V_iload_n (i := 3) C dX5_cell_3 rfl rfl ?_
      refine V_callV (n := 3) C (r_isCell r hd hP) dX5_cell_4 gX5_cell_X5_isCell rfl (by first | assumption | exact hset_s _ _ _) rfl (by decide +kernel) rfl rfl (by exact Nat.le_of_ble_eq_true rfl) ⟨Nat.le_of_ble_eq_true rfl, Nat.le_of_ble_eq_true rfl⟩ ⟨Nat.le_of_ble_eq_true rfl, Nat.le_of_ble_eq_true rfl⟩ (fun v9 h9 hr9 => ?_)
      rw [if_pos hx] at hr9
      obtain ⟨rfl, z9⟩ := hr9
      have z9 := z9.symm
      subst z9
      refine V_istore5 C dX5_cell_7 (by decide) ?_
      refine V_iload C dX5_cell_9 rfl ?_
      refine V_if_eq (tgt := 23) C dX5_cell_11 (by decide) (fun z9 => absurd z9 (by decide)) (fun _ => ?_)
      refine V_iload_n (i := 1) C dX5_cell_14 rfl rfl ?_
      refine V_iload_n (i := 2) C dX5_cell_15 rfl rfl ?_
      refine V_iload_n (i := 3) C dX5_cell_16 rfl rfl ?_
      refine V_callS (n := 3) C (r_cellOf) dX5_cell_17 gX5_cell_X5_cellOf rfl (by decide +kernel) rfl rfl (by exact Nat.le_of_ble_eq_true rfl) ⟨Nat.le_of_ble_eq_true rfl, Nat.le_of_ble_eq_true rfl⟩ ⟨Nat.le_of_ble_eq_true rfl, Nat.le_of_ble_eq_true rfl⟩ (fun v9 h9 hr9 => ?_)
      obtain ⟨rfl, z9⟩ := hr9
      have z9 := z9.symm
      subst z9
      rw [← cx_at p hi]
      refine V_goto (tgt := 24) C dX5_cell_20 (by decide) ?_
      refine V_istore6 C dX5_cell_24 (by decide) ?_
      refine V_aload_n (i := 0) C dX5_cell_26 rfl rfl ?_
      refine V_iload C dX5_cell_27 rfl ?_
      refine V_iload C dX5_cell_29 rfl ?_
      refine V_iconst (v := 0) C dX5_cell_31 (by decide) ?_
      refine V_sipush (v := 255) C dX5_cell_32 (by decide) ?_
      refine V_callS (n := 3) C (r_in) dX5_cell_35 gX5_cell_X5_in rfl (by decide +kernel) rfl rfl (by exact Nat.le_of_ble_eq_true rfl) ⟨Nat.le_of_ble_eq_true rfl, Nat.le_of_ble_eq_true rfl⟩ ⟨Nat.le_of_ble_eq_true rfl, Nat.le_of_ble_eq_true rfl⟩ (fun v9 h9 hr9 => ?_)
      obtain ⟨rfl, z9⟩ := hr9
      have z9 := z9.symm
      subst z9
      refine V_iload C dX5_cell_38 rfl ?_
      refine V_if_eq (tgt := 68) C dX5_cell_40 (by decide) (fun z9 => absurd z9 (by decide)) (fun _ => ?_)
      refine V_aload_n (i := 0) C dX5_cell_43 rfl rfl ?_
      refine V_get (ci := 5) (CN := RX5) (T := TX5) (N := 26) C dX5_cell_44 (by first | assumption | exact hset_s _ _ _) rfl 13 (by decide) flX5_cell_39 wiX5_cell_X5 (by rfl) ?_
      refine V_iload C dX5_cell_47 rfl ?_
      refine V_ialdK C dX5_cell_49 (by first | assumption | exact hset_s _ _ _) rfl hcl (by decide) q2 ?_
      refine V_if_eq (tgt := 64) C dX5_cell_50 (by decide) (fun c50 => ?_) (fun c50 => ?_)
      · have c50 : (xg X p (j * xwd X p + i)).1 = 0 := c50
        have e9 : ¬ dn (xg X p (j * xwd X p + i)) := by rintro (z | z) <;> (rw [c50] at z; exact absurd z (by decide))
        refine V_iconst (v := 1) C dX5_cell_64 (by decide) ?_
        refine V_goto (tgt := 69) C dX5_cell_65 (by decide) ?_
        exact hj2 _ _ _ ⟨rfl, rfl, _, by first | exact (if_pos e9).symm | exact (if_neg e9).symm, rfl⟩
      · have c50 : ¬ (xg X p (j * xwd X p + i)).1 = 0 := c50
        refine V_aload_n (i := 0) C dX5_cell_53 rfl rfl ?_
        refine V_get (ci := 5) (CN := RX5) (T := TX5) (N := 26) C dX5_cell_54 (by first | assumption | exact hset_s _ _ _) rfl 13 (by decide) flX5_cell_39 wiX5_cell_X5 (by rfl) ?_
        refine V_iload C dX5_cell_57 rfl ?_
        refine V_ialdK C dX5_cell_59 (by first | assumption | exact hset_s _ _ _) rfl hcl (by decide) q2 ?_
        refine V_iconst (v := 1) C dX5_cell_60 (by decide) ?_
        refine V_icmp_ne (tgt := 68) C dX5_cell_61 (by decide) (fun c61 => ?_) (fun c61 => ?_)
        · have c61 : ¬ (xg X p (j * xwd X p + i)).1 = 1 := c61
          have e9 : ¬ ¬ dn (xg X p (j * xwd X p + i)) := fun z => z (by
            rcases hok with ⟨u | u, -⟩ | ⟨u | u, -⟩
            · exact absurd u c50
            · exact Or.inr u
            · exact absurd u c61
            · exact Or.inl u)
          refine V_iconst (v := 0) C dX5_cell_68 (by decide) ?_
          exact hj2 _ _ _ ⟨rfl, rfl, _, by first | exact (if_pos e9).symm | exact (if_neg e9).symm, rfl⟩
        · have c61 : (xg X p (j * xwd X p + i)).1 = 1 := c61
          have e9 : ¬ dn (xg X p (j * xwd X p + i)) := by rintro (z | z) <;> (rw [c61] at z; exact absurd z (by decide))
          refine V_iconst (v := 1) C dX5_cell_64 (by decide) ?_
          refine V_goto (tgt := 69) C dX5_cell_65 (by decide) ?_
          exact hj2 _ _ _ ⟨rfl, rfl, _, by first | exact (if_pos e9).symm | exact (if_neg e9).symm, rfl⟩
  · have e : sp_cell X a b c d = (some kIO, 0, X) := by unfold sp_cell; rw [if_neg hx]
    rw [e]
    refine Mt_of (cc := cX5_cell) (maxL := 8) (ret := (some .int)) (own := RX5) [some (.ref (A 0)), some (.int a), some (.int b), some (.int c), some (.int d), none, none, none] rfl (by decide +kernel) rfl rfl (by exact Nat.le_of_ble_eq_true rfl) rfl ?_
    intro p9 e9 s9 m9 args9 below9 meth9 c9 C hr hnm
    refine V_aload_n (i := 0) C dX5_cell_0 rfl rfl ?_
    refine V_iload_n (i := 1) C dX5_cell_1 rfl rfl ?_
    refine V_iload_n (i := 2) C dX5_cell_2 rfl rfl ?_
    refine V_iload_n (i := 3) C dX5_cell_3 rfl rfl ?_
    refine V_callV (n := 3) C (r_isCell r hd hP) dX5_cell_4 gX5_cell_X5_isCell rfl (by first | assumption | exact hset_s _ _ _) rfl (by decide +kernel) rfl rfl (by exact Nat.le_of_ble_eq_true rfl) ⟨Nat.le_of_ble_eq_true rfl, Nat.le_of_ble_eq_true rfl⟩ ⟨Nat.le_of_ble_eq_true rfl, Nat.le_of_ble_eq_true rfl⟩ (fun v9 h9 hr9 => ?_)
    rw [if_neg hx] at hr9
    obtain ⟨rfl, z9⟩ := hr9
    have z9 := z9.symm
    subst z9
    refine V_istore5 C dX5_cell_7 (by decide) ?_
    refine V_iload C dX5_cell_9 rfl ?_
    refine V_if_eq (tgt := 23) C dX5_cell_11 (by decide) (fun _ => ?_) (fun z9 => absurd rfl z9)
    refine V_iconst (v := 0) C dX5_cell_23 (by decide) ?_
    refine V_istore6 C dX5_cell_24 (by decide) ?_
    refine V_aload_n (i := 0) C dX5_cell_26 rfl rfl ?_
    refine V_iload C dX5_cell_27 rfl ?_
    refine V_iload C dX5_cell_29 rfl ?_
    refine V_iconst (v := 0) C dX5_cell_31 (by decide) ?_
    refine V_sipush (v := 255) C dX5_cell_32 (by decide) ?_
    refine V_callS (n := 3) C (r_in) dX5_cell_35 gX5_cell_X5_in rfl (by decide +kernel) rfl rfl (by exact Nat.le_of_ble_eq_true rfl) ⟨Nat.le_of_ble_eq_true rfl, Nat.le_of_ble_eq_true rfl⟩ ⟨Nat.le_of_ble_eq_true rfl, Nat.le_of_ble_eq_true rfl⟩ (fun v9 h9 hr9 => ?_)
    obtain ⟨rfl, z9⟩ := hr9
    have z9 := z9.symm
    subst z9
    refine V_iload C dX5_cell_38 rfl ?_
    refine V_if_eq (tgt := 68) C dX5_cell_40 (by decide) (fun _ => ?_) (fun z9 => absurd rfl z9)
    refine V_iconst (v := 0) C dX5_cell_68 (by decide) ?_
    refine V_callV (n := 3) C (r_asked3 (P := False) (Q := False) (S := False) r rfl (fun z => z.elim) (fun z => z.elim)) dX5_cell_69 gX5_cell_X5_asked__ rfl (by first | assumption | exact hset_s _ _ _) rfl (by decide +kernel) rfl rfl (by exact Nat.le_of_ble_eq_true rfl) ⟨Nat.le_of_ble_eq_true rfl, Nat.le_of_ble_eq_true rfl⟩ ⟨Nat.le_of_ble_eq_true rfl, Nat.le_of_ble_eq_true rfl⟩ (fun v9 h9 hr9 => ?_)
    obtain ⟨rfl, r2, f2⟩ := hr9
    refine V_if_ne (tgt := 77) C dX5_cell_72 (by decide) (fun z9 => absurd rfl z9) (fun _ => ?_)
    refine V_iconst (v := 0) C dX5_cell_75 (by decide) ?_
    exact V_iret C dX5_cell_76 hr (Rst_x r2 hP f2 (by decide +kernel)) (by exact Nat.le_of_ble_eq_true rfl) (by exact Nat.le_of_ble_eq_true rfl)
set_option maxHeartbeats 4000000 in
set_option maxRecDepth 100000 in
theorem q_old (r : MR cA A I F (mnn X th) h) (hI : CI M X) (hP : PR X I F) {a b c d : Int32} : Mt l D cA bs yX5_old wsX5_old (rmk 4 0 0) [.ref (A 0), .int a, .int b, .int c, .int d] h (Rst cA A kIO kIA (sp_old X a b c d) h) := by
  have m0 := r.m0
  have m13 := r.m13
  have hd := hI.1.1
  have hnp := hd.2.1
  by_cases hx : celN X a b c
  · obtain ⟨p, i, j, hp, hi, hj, rfl, rfl, rfl, ep, ec⟩ := celN_of hd hx
    have hk := at_lt hi hj
    obtain ⟨⟨w1, w2⟩, g1, g2⟩ := hd.2.2 p hp
    have hcl := cx_lt (p := p) w1 w2 g2 (by omega) hk
    obtain ⟨q1, q2, q3, q4, q5, q6⟩ := hP.2.2.2.1 p hp _ hk
    have esp : sp_old X (nI p) (nI i) (nI j) d = if okR d 0 255 then (if (xg X p (j * xwd X p + i)).1 = 0 then (none, nI (cntN (fset (xg X p) (j * xwd X p + i) (cdO (xg X p (j * xwd X p + i)) d)) 3 (xN X p)), setG X p (j * xwd X p + i) (cdO (xg X p (j * xwd X p + i)) d)) else (some kIS, 0, X)) else (some kIA, 0, X) := by unfold sp_old; rw [if_pos hx, ep, ec]
    refine Mt_of (cc := cX5_old) (maxL := 7) (ret := (some .int)) (own := RX5) [some (.ref (A 0)), some (.int (nI p)), some (.int (nI i)), some (.int (nI j)), some (.int d), none, none] rfl (by decide +kernel) rfl rfl (by exact Nat.le_of_ble_eq_true rfl) rfl ?_
    intro p9 e9 s9 m9 args9 below9 meth9 c9 C hr hnm
    refine V_join 58 (fun h2 ls2 st2 => h2 = h ∧ ls2 = [some (.ref (A 0)), some (.int (nI p)), some (.int (nI i)), some (.int (nI j)), some (.int d), some (.int 1), some (.int (nI (cx (xwd X p) p (j * xwd X p + i))))] ∧ ∃ y, y = (if (xg X p (j * xwd X p + i)).1 = 0 then (1 : Int32) else 0) ∧ st2 = [.int y, .int (if okR d 0 255 then 1 else 0), .int 1, .ref (A 0)]) ?_ (fun hj2 => ?_)
    · rintro h2 ls2 st2 ⟨z9, rfl, y, hy, rfl⟩
      have z9 := z9.symm
      subst z9
      refine V_callV (n := 3) C (r_asked3 (P := True) r rfl (fun _ => rfl) (fun _ => hy)) dX5_old_58 gX5_old_X5_asked__ rfl (by first | assumption | exact hset_s _ _ _) rfl (by decide +kernel) rfl rfl (by exact Nat.le_of_ble_eq_true rfl) ⟨Nat.le_of_ble_eq_true rfl, Nat.le_of_ble_eq_true rfl⟩ ⟨Nat.le_of_ble_eq_true rfl, Nat.le_of_ble_eq_true rfl⟩ (fun v9 h9 hr9 => ?_)
      obtain ⟨rfl, r2, f2⟩ := hr9
      refine V_if_ne (tgt := 66) C dX5_old_61 (by decide) (fun c61 => ?_) (fun c61 => ?_)
      · have c61 := Classical.not_not.mp (fun z => c61 (ite0.mpr z))
        rw [if_pos trivial, if_pos c61.2.1, if_pos c61.2.2] at r2
        rw [if_pos c61.2.1, if_pos c61.2.2] at esp
        rw [esp]
        have m0 := r2.m0
        have m13 := r2.m13
        refine V_aload_n (i := 0) C dX5_old_66 rfl rfl ?_
        refine V_get (ci := 5) (CN := RX5) (T := TX5) (N := 26) C dX5_old_67 (by first | assumption | exact hset_s _ _ _) rfl 13 (by decide) flX5_old_39 wiX5_old_X5 (by rfl) ?_
        refine V_iload C dX5_old_70 rfl ?_
        refine V_iconst (v := 3) C dX5_old_72 (by decide) ?_
        refine V_iastK C dX5_old_73 (by first | assumption | exact hset_s _ _ _) rfl hcl (by decide) ?_
        have r3 := r2.s13 (fset (I 13) (cx (xwd X p) p (j * xwd X p + i)) 3)
        have f3 := f2.tr (r2.f13 (iarr (cA 0) 320 (fset (I 13) (cx (xwd X p) p (j * xwd X p + i)) 3)))
        have m0 := r3.m0
        have m12 := r3.m12
        refine V_aload_n (i := 0) C dX5_old_74 rfl rfl ?_
        refine V_get (ci := 5) (CN := RX5) (T := TX5) (N := 26) C dX5_old_75 (by first | assumption | exact hset_s _ _ _) rfl 12 (by decide) flX5_old_36 wiX5_old_X5 (by rfl) ?_
        refine V_iload C dX5_old_78 rfl ?_
        refine V_iload C dX5_old_80 rfl ?_
        refine V_iastK C dX5_old_82 (by first | assumption | exact hset_s _ _ _) rfl hcl (by decide) ?_
        have r4 := r3.s12 (fset (I 12) (cx (xwd X p) p (j * xwd X p + i)) d)
        have f4 := f3.tr (r3.f12 (iarr (cA 0) 320 (fset (I 12) (cx (xwd X p) p (j * xwd X p + i)) d)))
        have m0 := r4.m0
        have q5 : I 16 (cx (xwd X p) p (j * xwd X p + i)) = -1 := by rw [q5, c61.2.2]; rfl
        have hP4 := hP.cellw (I' := fset (fset I 13 (fset (I 13) (cx (xwd X p) p (j * xwd X p + i)) 3)) 12 (fset (I 12) (cx (xwd X p) p (j * xwd X p + i)) d)) (d := cdO (xg X p (j * xwd X p + i)) d) hd hp hk ⟨rfl, rfl, rfl, rfl, rfl⟩ ⟨rfl, rfl, rfl, rfl, rfl, rfl, rfl, rfl⟩ ⟨fset_s _ _ _, fset_s _ _ _, q3, q4, q5, fun z => absurd (show (3 : Int32) = 2 from z) (by decide)⟩ (fun c hc => ⟨fset_n hc, fset_n hc, rfl, rfl, rfl, rfl⟩)
        refine V_aload_n (i := 0) C dX5_old_83 rfl rfl ?_
        refine V_iload_n (i := 1) C dX5_old_84 rfl rfl ?_
        refine V_iconst (v := 3) C dX5_old_85 (by decide) ?_
        refine V_callV (n := 2) C (r_count (X := setG X p (j * xwd X p + i) (cdO (xg X p (j * xwd X p + i)) d)) r4 hd hP4 hp) dX5_old_86 gX5_old_X5_count rfl (by first | assumption | exact hset_s _ _ _) rfl (by decide +kernel) rfl rfl (by exact Nat.le_of_ble_eq_true rfl) ⟨Nat.le_of_ble_eq_true rfl, Nat.le_of_ble_eq_true rfl⟩ ⟨Nat.le_of_ble_eq_true rfl, Nat.le_of_ble_eq_true rfl⟩ (fun v9 h9 hr9 => ?_)
        obtain ⟨rfl, z9⟩ := hr9
        have z9 := z9.symm
        subst z9
        rw [show xg (setG X p (j * xwd X p + i) (cdO (xg X p (j * xwd X p + i)) d)) p = fset (xg X p) (j * xwd X p + i) (cdO (xg X p (j * xwd X p + i)) d) from xg_wG _ _]
        exact V_iret C dX5_old_89 hr ⟨⟨_, rfl, fun _ => rfl⟩, ⟨_, F, r4, hP4⟩, f4⟩ (by exact Nat.le_of_ble_eq_true rfl) (by exact Nat.le_of_ble_eq_true rfl)
      · have c61 := ite0.mp c61
        refine V_iconst (v := 0) C dX5_old_64 (by decide) ?_
        exact V_iret C dX5_old_65 hr (by
          by_cases h1 : okR d 0 255
          · have h2 : ¬ (xg X p (j * xwd X p + i)).1 = 0 := fun z => c61 ⟨trivial, h1, z⟩
            rw [if_pos trivial, if_pos h1, if_neg h2] at r2
            rw [if_pos h1, if_neg h2] at esp
            rw [esp]
            exact Rst_x r2 hP f2 (by decide +kernel)
          · rw [if_pos trivial, if_neg h1] at r2
            rw [if_neg h1] at esp
            rw [esp]
            exact Rst_x r2 hP f2 (by decide +kernel)) (by exact Nat.le_of_ble_eq_true rfl) (by exact Nat.le_of_ble_eq_true rfl)
    · refine V_aload_n (i := 0) C dX5_old_0 rfl rfl ?_
      refine V_iload_n (i := 1) C dX5_old_1 rfl rfl ?_
      refine V_iload_n (i := 2) C dX5_old_2 rfl rfl ?_
      refine V_iload_n (i := 3) C dX5_old_3 rfl rfl ?_
      refine V_callV (n := 3) C (r_isCell r hd hP) dX5_old_4 gX5_old_X5_isCell rfl (by first | assumption | exact hset_s _ _ _) rfl (by decide +kernel) rfl rfl (by exact Nat.le_of_ble_eq_true rfl) ⟨Nat.le_of_ble_eq_true rfl, Nat.le_of_ble_eq_true rfl⟩ ⟨Nat.le_of_ble_eq_true rfl, Nat.le_of_ble_eq_true rfl⟩ (fun v9 h9 hr9 => ?_)
      rw [if_pos hx] at hr9
      obtain ⟨rfl, z9⟩ := hr9
      have z9 := z9.symm
      subst z9
      refine V_istore5 C dX5_old_7 (by decide) ?_
      refine V_iload C dX5_old_9 rfl ?_
      refine V_if_eq (tgt := 23) C dX5_old_11 (by decide) (fun z9 => absurd z9 (by decide)) (fun _ => ?_)
      refine V_iload_n (i := 1) C dX5_old_14 rfl rfl ?_
      refine V_iload_n (i := 2) C dX5_old_15 rfl rfl ?_
      refine V_iload_n (i := 3) C dX5_old_16 rfl rfl ?_
      refine V_callS (n := 3) C (r_cellOf) dX5_old_17 gX5_old_X5_cellOf rfl (by decide +kernel) rfl rfl (by exact Nat.le_of_ble_eq_true rfl) ⟨Nat.le_of_ble_eq_true rfl, Nat.le_of_ble_eq_true rfl⟩ ⟨Nat.le_of_ble_eq_true rfl, Nat.le_of_ble_eq_true rfl⟩ (fun v9 h9 hr9 => ?_)
      obtain ⟨rfl, z9⟩ := hr9
      have z9 := z9.symm
      subst z9
      rw [← cx_at p hi]
      refine V_goto (tgt := 24) C dX5_old_20 (by decide) ?_
      refine V_istore6 C dX5_old_24 (by decide) ?_
      refine V_aload_n (i := 0) C dX5_old_26 rfl rfl ?_
      refine V_iload C dX5_old_27 rfl ?_
      refine V_iload C dX5_old_29 rfl ?_
      refine V_iconst (v := 0) C dX5_old_31 (by decide) ?_
      refine V_sipush (v := 255) C dX5_old_32 (by decide) ?_
      refine V_callS (n := 3) C (r_in) dX5_old_35 gX5_old_X5_in rfl (by decide +kernel) rfl rfl (by exact Nat.le_of_ble_eq_true rfl) ⟨Nat.le_of_ble_eq_true rfl, Nat.le_of_ble_eq_true rfl⟩ ⟨Nat.le_of_ble_eq_true rfl, Nat.le_of_ble_eq_true rfl⟩ (fun v9 h9 hr9 => ?_)
      obtain ⟨rfl, z9⟩ := hr9
      have z9 := z9.symm
      subst z9
      refine V_iload C dX5_old_38 rfl ?_
      refine V_if_eq (tgt := 57) C dX5_old_40 (by decide) (fun z9 => absurd z9 (by decide)) (fun _ => ?_)
      refine V_aload_n (i := 0) C dX5_old_43 rfl rfl ?_
      refine V_get (ci := 5) (CN := RX5) (T := TX5) (N := 26) C dX5_old_44 (by first | assumption | exact hset_s _ _ _) rfl 13 (by decide) flX5_old_39 wiX5_old_X5 (by rfl) ?_
      refine V_iload C dX5_old_47 rfl ?_
      refine V_ialdK C dX5_old_49 (by first | assumption | exact hset_s _ _ _) rfl hcl (by decide) q2 ?_
      refine V_if_ne (tgt := 57) C dX5_old_50 (by decide) (fun c50 => ?_) (fun c50 => ?_)
      · have c50 : ¬ (xg X p (j * xwd X p + i)).1 = 0 := c50
        refine V_iconst (v := 0) C dX5_old_57 (by decide) ?_
        exact hj2 _ _ _ ⟨rfl, rfl, _, by first | exact (if_pos c50).symm | exact (if_neg c50).symm, rfl⟩
      · have c50 : (xg X p (j * xwd X p + i)).1 = 0 := c50
        refine V_iconst (v := 1) C dX5_old_53 (by decide) ?_
        refine V_goto (tgt := 58) C dX5_old_54 (by decide) ?_
        exact hj2 _ _ _ ⟨rfl, rfl, _, by first | exact (if_pos c50).symm | exact (if_neg c50).symm, rfl⟩
  · have e : sp_old X a b c d = (some kIO, 0, X) := by unfold sp_old; rw [if_neg hx]
    rw [e]
    refine Mt_of (cc := cX5_old) (maxL := 7) (ret := (some .int)) (own := RX5) [some (.ref (A 0)), some (.int a), some (.int b), some (.int c), some (.int d), none, none] rfl (by decide +kernel) rfl rfl (by exact Nat.le_of_ble_eq_true rfl) rfl ?_
    intro p9 e9 s9 m9 args9 below9 meth9 c9 C hr hnm
    refine V_aload_n (i := 0) C dX5_old_0 rfl rfl ?_
    refine V_iload_n (i := 1) C dX5_old_1 rfl rfl ?_
    refine V_iload_n (i := 2) C dX5_old_2 rfl rfl ?_
    refine V_iload_n (i := 3) C dX5_old_3 rfl rfl ?_
    refine V_callV (n := 3) C (r_isCell r hd hP) dX5_old_4 gX5_old_X5_isCell rfl (by first | assumption | exact hset_s _ _ _) rfl (by decide +kernel) rfl rfl (by exact Nat.le_of_ble_eq_true rfl) ⟨Nat.le_of_ble_eq_true rfl, Nat.le_of_ble_eq_true rfl⟩ ⟨Nat.le_of_ble_eq_true rfl, Nat.le_of_ble_eq_true rfl⟩ (fun v9 h9 hr9 => ?_)
    rw [if_neg hx] at hr9
    obtain ⟨rfl, z9⟩ := hr9
    have z9 := z9.symm
    subst z9
    refine V_istore5 C dX5_old_7 (by decide) ?_
    refine V_iload C dX5_old_9 rfl ?_
    refine V_if_eq (tgt := 23) C dX5_old_11 (by decide) (fun _ => ?_) (fun z9 => absurd rfl z9)
    refine V_iconst (v := 0) C dX5_old_23 (by decide) ?_
    refine V_istore6 C dX5_old_24 (by decide) ?_
    refine V_aload_n (i := 0) C dX5_old_26 rfl rfl ?_
    refine V_iload C dX5_old_27 rfl ?_
    refine V_iload C dX5_old_29 rfl ?_
    refine V_iconst (v := 0) C dX5_old_31 (by decide) ?_
    refine V_sipush (v := 255) C dX5_old_32 (by decide) ?_
    refine V_callS (n := 3) C (r_in) dX5_old_35 gX5_old_X5_in rfl (by decide +kernel) rfl rfl (by exact Nat.le_of_ble_eq_true rfl) ⟨Nat.le_of_ble_eq_true rfl, Nat.le_of_ble_eq_true rfl⟩ ⟨Nat.le_of_ble_eq_true rfl, Nat.le_of_ble_eq_true rfl⟩ (fun v9 h9 hr9 => ?_)
    obtain ⟨rfl, z9⟩ := hr9
    have z9 := z9.symm
    subst z9
    refine V_iload C dX5_old_38 rfl ?_
    refine V_if_eq (tgt := 57) C dX5_old_40 (by decide) (fun _ => ?_) (fun z9 => absurd rfl z9)
    refine V_iconst (v := 0) C dX5_old_57 (by decide) ?_
    refine V_callV (n := 3) C (r_asked3 (P := False) (Q := False) (S := False) r rfl (fun z => z.elim) (fun z => z.elim)) dX5_old_58 gX5_old_X5_asked__ rfl (by first | assumption | exact hset_s _ _ _) rfl (by decide +kernel) rfl rfl (by exact Nat.le_of_ble_eq_true rfl) ⟨Nat.le_of_ble_eq_true rfl, Nat.le_of_ble_eq_true rfl⟩ ⟨Nat.le_of_ble_eq_true rfl, Nat.le_of_ble_eq_true rfl⟩ (fun v9 h9 hr9 => ?_)
    obtain ⟨rfl, r2, f2⟩ := hr9
    refine V_if_ne (tgt := 66) C dX5_old_61 (by decide) (fun z9 => absurd rfl z9) (fun _ => ?_)
    refine V_iconst (v := 0) C dX5_old_64 (by decide) ?_
    exact V_iret C dX5_old_65 hr (Rst_x r2 hP f2 (by decide +kernel)) (by exact Nat.le_of_ble_eq_true rfl) (by exact Nat.le_of_ble_eq_true rfl)
end RPUB2
