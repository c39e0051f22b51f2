/-! Picture: designs, aims anew, sharing -/
theorem cellC_e {Z : Nat → Nat → Nat} {w k : Nat} {d : Cd} {kd : Int32} {lt : Option Nat} (h1 : d.1 = kd) (h2 : clt d = lt) : cellC Z w k d = cellO (nI (k % w)) (nI (k / w)) kd (lt.map (Z 1)) (cwn d) (cam d) (cbr d) (crd d) (cla d) (cdr d) := by
  subst h1
  subst h2
  rfl
theorem tb1_p {L : Nat → Ld} {G : Nat → Cd} {k b : Nat} (h1 : (G k).1 = 1) (h2 : clt (G k) = some b) : tb1 L G k = (fset L b (lq (L b) (llf (L b) + 1) (lpm (L b) - 1)), fset G k (cdP (G k) 0 none)) := by
  unfold tb1
  rw [if_pos h1]
  split
  · rename_i b2 hb
    rw [h2] at hb
    cases hb
    rfl
  · rename_i hb
    rw [h2] at hb
    cases hb
theorem tb1_n {L : Nat → Ld} {G : Nat → Cd} {k : Nat} (h1 : (G k).1 ≠ 1) : tb1 L G k = (L, G) := by
  unfold tb1
  rw [if_neg h1]
def dsT (w g n N : Nat) (L : Nat → Ld) (G : Nat → Cd) : (Nat → Ld) × (Nat → Cd) := dsS w g n (tbS L G N).1 (fgG (tbS L G N).2 N) N
section PIC3
variable {l : Launch} {D : va_G} {cA : Nat → ClassId} {bs : Nat} {Z : Nat → Nat → Nat} {X : XS} {ta : Nat → Nat → Option Nat} {h : hE} {p : Nat} {L : Nat → Ld} {G : Nat → Cd}
set_option maxHeartbeats 4000000 in
set_option maxRecDepth 100000 in
theorem c_designFrom (r : XR cA Z (xpl X p L G) ta h) (hd : xdim X) (hp : p < xnp X) (hI : PI (xnl X) (xN X p) L G) (hB : ∀ i, i ≤ xN X p → ∀ j, j < xN X p → fb (cbr ((dsS (xwd X p) (xhg X p) (xnl X) (tbS L G (xN X p)).1 (fgG (tbS L G (xN X p)).2 (xN X p)) i).2 j)) (2 ^ 19)) : Mt l D cA bs yX3_designFrom wsX3_designFrom (rmk 3 0 0) [.ref (Z 2 p), .ref (Z 0 1)] h (fun q h2 => q = none ∧ XR cA Z (xpl X p (dsT (xwd X p) (xhg X p) (xnl X) (xN X p) L G).1 (dsT (xwd X p) (xhg X p) (xnl X) (xN X p) L G).2) ta h2 ∧ hfr Z X h h2) := by
  have hN := (hd.N hp).2
  have hpic := r.ppic hp
  have hcs := r.pcells hp
  refine Mt_of (cc := cX3_designFrom) (maxL := 6) (ret := (none)) (own := RX3) [some (.ref (Z 2 p)), some (.ref (Z 0 1)), none, none, none, none] rfl (by decide +kernel) rfl rfl (by exact Nat.le_of_ble_eq_true rfl) rfl ?_
  intro p9 e9 s9 m9 args9 below9 meth9 c9 C hr hnm
  refine V_aload_n (i := 0) C dX3_designFrom_0 rfl rfl ?_
  refine V_get (ci := 3) (CN := RX3) (T := TX3) (N := 4) C dX3_designFrom_1 (by first | assumption | exact hset_s _ _ _) rfl 3 (by decide) flX3_designFrom_23 wiX3_designFrom_X3 (by rfl) ?_
  refine V_astore2 C dX3_designFrom_4 (by decide) ?_
  refine V_aload_n (i := 2) C dX3_designFrom_5 rfl rfl ?_
  refine V_alen C dX3_designFrom_6 (by first | assumption | exact hset_s _ _ _) (by rfl) (by rfl) ?_
  refine V_istore3 C dX3_designFrom_7 (by decide) ?_
  refine V_iconst (v := 0) C dX3_designFrom_8 (by decide) ?_
  refine V_istore4 C dX3_designFrom_9 (by decide) ?_
  refine V_for (xN X p) (fun i h2 ls2 => XR cA Z (xpl X p (tbS L G i).1 (tbS L G i).2) ta h2 ∧ hfr Z X h h2 ∧ ls2 = [some (.ref (Z 2 p)), some (.ref (Z 0 1)), some (.ref (Z 3 p)), some (.int (nI (xN X p))), some (.int (nI i)), none]) ?_ ?_ 0 (Nat.zero_le _) ⟨r, hfr.rf, rfl⟩
  · rintro i h2 ls2 hi ⟨r2, f2, rfl⟩ ih
    have hcs := r2.pcells hp
    have hc := r2.pcell hp hi
    have hI2 := hI.tbS (Nat.le_of_lt hi)
    by_cases hk1 : ((tbS L G i).2 i).1 = 1
    · obtain ⟨b, hb⟩ := (hI2.1 i hi).2.1 hk1
      have hbl := (hI2.1 i hi).1 b hb
      have hlot := r2.plot hbl
      rw [cellC_e hk1 hb] at hc
      refine V_iload C dX3_designFrom_11 rfl ?_
      refine V_iload_n (i := 3) C dX3_designFrom_13 rfl rfl ?_
      refine V_icmp_ge (tgt := 34) C dX3_designFrom_14 (by decide) (fun z9 => absurd z9 (nI_ge hi (by omega))) (fun _ => ?_)
      refine V_aload_n (i := 2) C dX3_designFrom_17 rfl rfl ?_
      refine V_iload C dX3_designFrom_18 rfl ?_
      refine V_aaldS C dX3_designFrom_20 (by first | assumption | exact hset_s _ _ _) (by rfl) rfl hi (Nat.le_trans hN (by decide)) (if_pos hi) ?_
      refine V_astore5 C dX3_designFrom_21 (by decide) ?_
      refine V_aload C dX3_designFrom_23 rfl ?_
      refine V_callV (n := 0) C (c_takeBack1 hc hlot) dX3_designFrom_25 gX3_designFrom_X0_takeBack rfl (by first | assumption | exact hset_s _ _ _) rfl (by decide +kernel) rfl rfl (by exact Nat.le_of_ble_eq_true rfl) ⟨Nat.le_of_ble_eq_true rfl, Nat.le_of_ble_eq_true rfl⟩ ⟨Nat.le_of_ble_eq_true rfl, Nat.le_of_ble_eq_true rfl⟩ (fun v9 h9 hr9 => ?_)
      obtain ⟨rfl, rfl⟩ := hr9
      refine V_iinc4 (v := nI (i + 1)) C dX3_designFrom_28 (nI_1 _) (by decide) ?_
      refine V_goto (tgt := 11) C dX3_designFrom_31 (by decide) ?_
      exact V_wk (by simp [lle]) (ih _ _ ⟨by show XR cA Z (xpl X p (tb1 (tbS L G i).1 (tbS L G i).2 i).1 (tb1 (tbS L G i).1 (tbS L G i).2 i).2) ta _; rw [tb1_p hk1 hb]; exact (r2.psetL hbl (lq _ _ _)).psetG hp hi (cdP _ 0 none), f2.tr ((hfr.lot hbl).tr (hfr.cell hp hi)), rfl⟩)
    · refine V_iload C dX3_designFrom_11 rfl ?_
      refine V_iload_n (i := 3) C dX3_designFrom_13 rfl rfl ?_
      refine V_icmp_ge (tgt := 34) C dX3_designFrom_14 (by decide) (fun z9 => absurd z9 (nI_ge hi (by omega))) (fun _ => ?_)
      refine V_aload_n (i := 2) C dX3_designFrom_17 rfl rfl ?_
      refine V_iload C dX3_designFrom_18 rfl ?_
      refine V_aaldS C dX3_designFrom_20 (by first | assumption | exact hset_s _ _ _) (by rfl) rfl hi (Nat.le_trans hN (by decide)) (if_pos hi) ?_
      refine V_astore5 C dX3_designFrom_21 (by decide) ?_
      refine V_aload C dX3_designFrom_23 rfl ?_
      refine V_callV (n := 0) C (c_takeBack0 hc hk1) dX3_designFrom_25 gX3_designFrom_X0_takeBack rfl (by first | assumption | exact hset_s _ _ _) rfl (by decide +kernel) rfl rfl (by exact Nat.le_of_ble_eq_true rfl) ⟨Nat.le_of_ble_eq_true rfl, Nat.le_of_ble_eq_true rfl⟩ ⟨Nat.le_of_ble_eq_true rfl, Nat.le_of_ble_eq_true rfl⟩ (fun v9 h9 hr9 => ?_)
      obtain ⟨rfl, rfl⟩ := hr9
      refine V_iinc4 (v := nI (i + 1)) C dX3_designFrom_28 (nI_1 _) (by decide) ?_
      refine V_goto (tgt := 11) C dX3_designFrom_31 (by decide) ?_
      exact V_wk (by simp [lle]) (ih _ _ ⟨by show XR cA Z (xpl X p (tb1 (tbS L G i).1 (tbS L G i).2 i).1 (tb1 (tbS L G i).1 (tbS L G i).2 i).2) ta _; rw [tb1_n hk1]; exact r2, f2, rfl⟩)
  · rintro h2 ls2 ⟨r2, f2, rfl⟩
    have hpic := r2.ppic hp
    have hIt := (hI.tbS (Nat.le_refl _)).fg (xN X p)
    obtain ⟨L1, hL1⟩ : ∃ L1, L1 = (tbS L G (xN X p)).1 := ⟨_, rfl⟩
    obtain ⟨G1, hG1⟩ : ∃ G1, G1 = fgG (tbS L G (xN X p)).2 (xN X p) := ⟨_, rfl⟩
    rw [← hL1, ← hG1] at hIt hB
    refine V_iload C dX3_designFrom_11 rfl ?_
    refine V_iload_n (i := 3) C dX3_designFrom_13 rfl rfl ?_
    refine V_icmp_ge (tgt := 34) C dX3_designFrom_14 (by decide) (fun _ => ?_) (fun z9 => absurd (nI_le (Nat.le_refl _) (by omega)) z9)
    refine V_aload_n (i := 0) C dX3_designFrom_34 rfl rfl ?_
    refine V_callV (n := 0) C (c_forget r2 hd hp) dX3_designFrom_35 gX3_designFrom_X3_forgetBrought rfl (by first | assumption | exact hset_s _ _ _) rfl (by decide +kernel) rfl rfl (by exact Nat.le_of_ble_eq_true rfl) ⟨Nat.le_of_ble_eq_true rfl, Nat.le_of_ble_eq_true rfl⟩ ⟨Nat.le_of_ble_eq_true rfl, Nat.le_of_ble_eq_true rfl⟩ (fun v9 h9 hr9 => ?_)
    obtain ⟨rfl, r3, f3⟩ := hr9
    rw [← hL1, ← hG1] at r3
    have hpic := r3.ppic hp
    have hcs := r3.pcells hp
    refine V_aload_n (i := 0) C dX3_designFrom_38 rfl rfl ?_
    refine V_get (ci := 3) (CN := RX3) (T := TX3) (N := 4) C dX3_designFrom_39 (by first | assumption | exact hset_s _ _ _) rfl 3 (by decide) flX3_designFrom_23 wiX3_designFrom_X3 (by rfl) ?_
    refine V_astore2 C dX3_designFrom_42 (by decide) ?_
    refine V_aload_n (i := 2) C dX3_designFrom_43 rfl rfl ?_
    refine V_alen C dX3_designFrom_44 (by first | assumption | exact hset_s _ _ _) (by rfl) (by rfl) ?_
    refine V_istore3 C dX3_designFrom_45 (by decide) ?_
    refine V_iconst (v := 0) C dX3_designFrom_46 (by decide) ?_
    refine V_istore4 C dX3_designFrom_47 (by decide) ?_
    refine V_for (xN X p) (fun i h4 ls2 => XR cA Z (xpl X p (dsS (xwd X p) (xhg X p) (xnl X) L1 G1 i).1 (dsS (xwd X p) (xhg X p) (xnl X) L1 G1 i).2) ta h4 ∧ hfr Z X h h4 ∧ ls2 = [some (.ref (Z 2 p)), some (.ref (Z 0 1)), some (.ref (Z 3 p)), some (.int (nI (xN X p))), some (.int (nI i)), none]) ?_ ?_ 0 (Nat.zero_le _) ⟨r3, f2.tr f3, rfl⟩
    · rintro i h4 ls4 hi ⟨r4, f4, rfl⟩ ih
      have hcs := r4.pcells hp
      have hc := r4.pcell hp hi
      have hI2 := hIt.dS (w := xwd X p) (g := xhg X p) (Nat.le_of_lt hi)
      have hB2 := hB i (Nat.le_of_lt hi)
      obtain ⟨S4, hS4⟩ : ∃ S4, S4 = dsS (xwd X p) (xhg X p) (xnl X) L1 G1 i := ⟨_, rfl⟩
      rw [← hS4] at r4 hc hI2 hB2
      obtain ⟨v4, hv4, hw4⟩ := (hI2.1 i hi).2.2
      have hwf : fb (FP.i2f (cwn (S4.2 i))) 255 := by rw [hw4]; exact fb_i2f hv4 (by decide)
      have haf : fb (FP.fadd (FP.i2f (cwn (S4.2 i))) (cbr (S4.2 i))) (255 + 2 ^ 19) := fb_add hwf (hB2 i hi) (Nat.le_refl _) (by decide)
      have hna := fb_n32 haf
      refine V_iload C dX3_designFrom_49 rfl ?_
      refine V_iload_n (i := 3) C dX3_designFrom_51 rfl rfl ?_
      refine V_icmp_ge (tgt := 114) C dX3_designFrom_52 (by decide) (fun z9 => absurd z9 (nI_ge hi (by omega))) (fun _ => ?_)
      refine V_aload_n (i := 2) C dX3_designFrom_55 rfl rfl ?_
      refine V_iload C dX3_designFrom_56 rfl ?_
      refine V_aaldS C dX3_designFrom_58 (by first | assumption | exact hset_s _ _ _) (by rfl) rfl hi (Nat.le_trans hN (by decide)) (if_pos hi) ?_
      refine V_astore5 C dX3_designFrom_59 (by decide) ?_
      refine V_aload C dX3_designFrom_61 rfl ?_
      refine V_aload C dX3_designFrom_63 rfl ?_
      refine V_get (ci := 0) (CN := RX0) (T := TX0) (N := 10) C dX3_designFrom_65 (by first | assumption | exact hset_s _ _ _) rfl 4 (by decide) flX3_designFrom_39 wiX3_designFrom_X0 (by rfl) ?_
      refine V_i2f C dX3_designFrom_68 ?_
      refine V_aload C dX3_designFrom_69 rfl ?_
      refine V_get (ci := 0) (CN := RX0) (T := TX0) (N := 10) C dX3_designFrom_71 (by first | assumption | exact hset_s _ _ _) rfl 6 (by decide) flX3_designFrom_42 wiX3_designFrom_X0 (by rfl) ?_
      refine V_fadd C dX3_designFrom_74 (by assumption) ?_
      refine V_put (ci := 0) (CN := RX0) (T := TX0) (N := 10) (ty := (tyX0 5)) C dX3_designFrom_75 (by first | assumption | exact hset_s _ _ _) rfl tyX0 tyX0_ok nmX0 5 (by decide) flX3_designFrom_46 wiX3_designFrom_X0 rfl (tyX0_ok 5 (by decide)) (by rfl) (by rfl) (by exact Nat.le_of_ble_eq_true rfl) ?_
      refine V_h (h2 := hset h4 (Z (p + 6) i) (cellC Z (xwd X p) i (cdA (S4.2 i) (FP.fadd (FP.i2f (cwn (S4.2 i))) (cbr (S4.2 i)))))) rfl ?_
      have r5 := r4.psetG hp hi (cdA (S4.2 i) (FP.fadd (FP.i2f (cwn (S4.2 i))) (cbr (S4.2 i))))
      have f5 := f4.tr (hfr.cell (Z := Z) (h := h4) hp hi (e := cellC Z (xwd X p) i (cdA (S4.2 i) (FP.fadd (FP.i2f (cwn (S4.2 i))) (cbr (S4.2 i))))))
      generalize hset h4 (Z (p + 6) i) (cellC Z (xwd X p) i (cdA (S4.2 i) (FP.fadd (FP.i2f (cwn (S4.2 i))) (cbr (S4.2 i))))) = h5 at r5 f5 ⊢
      have hc := r5.pcell hp hi
      rw [fset_s] at hc
      refine V_aload C dX3_designFrom_78 rfl ?_
      refine V_get (ci := 0) (CN := RX0) (T := TX0) (N := 10) C dX3_designFrom_80 (by first | assumption | exact hset_s _ _ _) rfl 2 (by decide) flX3_designFrom_30 wiX3_designFrom_X0 (by rfl) ?_
      refine V_if_ne (tgt := 92) C dX3_designFrom_83 (by decide) (fun c83 => ?_) (fun c83 => ?_)
      · have c83 : ¬ (S4.2 i).1 = 0 := c83
        obtain ⟨r7, f7⟩ : XR cA Z (xpl X p (ds0 (xnl X) S4.1 S4.2 i).1 (ds0 (xnl X) S4.1 S4.2 i).2) ta _ ∧ hfr Z X h _ := by first | exact ⟨by unfold ds0; rw [if_pos c83]; exact r6, f5.tr f6⟩ | exact ⟨by unfold ds0; rw [if_neg c83]; exact r5, f5⟩
        have hI3 := hI2.d0 hi
        have hpic := r7.ppic hp
        have hc := r7.pcell hp hi
        have haf7 : fb (cam ((ds0 (xnl X) S4.1 S4.2 i).2 i)) (255 + 2 ^ 19) := by rw [d0_am]; exact haf
        have hB7 : ∀ j, j < xN X p → fb (cbr ((ds0 (xnl X) S4.1 S4.2 i).2 j)) (2 ^ 20) := fun j hj => by rw [d0_br]; exact fb_mono (hB2 j hj) (by decide)
        have hex7 : ∀ u, u = lackC (ds0 (xnl X) S4.1 S4.2 i).1 ((ds0 (xnl X) S4.1 S4.2 i).2 i) (cam ((ds0 (xnl X) S4.1 S4.2 i).2 i)) → dsS (xwd X p) (xhg X p) (xnl X) L1 G1 (i + 1) = ((ds0 (xnl X) S4.1 S4.2 i).1, passG (xwd X p) (xhg X p) i (ds0 (xnl X) S4.1 S4.2 i).2 u) := fun u hu => by rw [hu, hS4]; rfl
        clear hS4
        obtain ⟨S7, hS7⟩ : ∃ S7, S7 = ds0 (xnl X) S4.1 S4.2 i := ⟨_, rfl⟩
        rw [← hS7] at r7 hI3 hc haf7 hB7 hex7
        clear hS7
        rcases hb : clt (S7.2 i) with _ | b
        · rw [cellC_e (d := S7.2 i) rfl hb] at hc
          refine V_aload_n (i := 0) C dX3_designFrom_92 rfl rfl ?_
          refine V_aload C dX3_designFrom_93 rfl ?_
          refine V_aload C dX3_designFrom_95 rfl ?_
          refine V_aload C dX3_designFrom_97 rfl ?_
          refine V_get (ci := 0) (CN := RX0) (T := TX0) (N := 10) C dX3_designFrom_99 (by first | assumption | exact hset_s _ _ _) rfl 5 (by decide) flX3_designFrom_46 wiX3_designFrom_X0 (by rfl) ?_
          refine V_callV (n := 1) C (c_lackBehind0 hc) dX3_designFrom_102 gX3_designFrom_X0_lackBehind rfl (by first | assumption | exact hset_s _ _ _) rfl (by decide +kernel) rfl rfl (by exact Nat.le_of_ble_eq_true rfl) ⟨Nat.le_of_ble_eq_true rfl, Nat.le_of_ble_eq_true rfl⟩ ⟨Nat.le_of_ble_eq_true rfl, Nat.le_of_ble_eq_true rfl⟩ (fun v9 h9 hr9 => ?_)
          obtain ⟨rfl, rfl⟩ := hr9
          refine V_callV (n := 2) C (c_passOn r7 hd hp hi hB7 (fb_0 _)) dX3_designFrom_105 gX3_designFrom_X3_passOn rfl (by first | assumption | exact hset_s _ _ _) rfl (by decide +kernel) rfl rfl (by exact Nat.le_of_ble_eq_true rfl) ⟨Nat.le_of_ble_eq_true rfl, Nat.le_of_ble_eq_true rfl⟩ ⟨Nat.le_of_ble_eq_true rfl, Nat.le_of_ble_eq_true rfl⟩ (fun v9 h9 hr9 => ?_)
          obtain ⟨rfl, r8, f8⟩ := hr9
          have e8 := hex7 FP.fconst0 (by unfold lackC; rw [hb])
          refine V_iinc4 (v := nI (i + 1)) C dX3_designFrom_108 (nI_1 _) (by decide) ?_
          refine V_goto (tgt := 49) C dX3_designFrom_111 (by decide) ?_
          exact V_wk (by simp [lle]) (ih _ _ ⟨by rw [e8]; exact r8, f7.tr f8, rfl⟩)
        · rw [cellC_e (d := S7.2 i) rfl hb] at hc
          have hbl := (hI3.1 i hi).1 b hb
          have hlot := r7.plot hbl
          have hlf : fb (FP.fsub (cam (S7.2 i)) (ltn (S7.1 b))) (16 * 2 ^ 16) := fb_sub haf7 (hI3.2 b hbl) (by decide) (by decide)
          refine V_aload_n (i := 0) C dX3_designFrom_92 rfl rfl ?_
          refine V_aload C dX3_designFrom_93 rfl ?_
          refine V_aload C dX3_designFrom_95 rfl ?_
          refine V_aload C dX3_designFrom_97 rfl ?_
          refine V_get (ci := 0) (CN := RX0) (T := TX0) (N := 10) C dX3_designFrom_99 (by first | assumption | exact hset_s _ _ _) rfl 5 (by decide) flX3_designFrom_46 wiX3_designFrom_X0 (by rfl) ?_
          refine V_callV (n := 1) C (c_lackBehind1 hc hlot (fb_n32 hlf)) dX3_designFrom_102 gX3_designFrom_X0_lackBehind rfl (by first | assumption | exact hset_s _ _ _) rfl (by decide +kernel) rfl rfl (by exact Nat.le_of_ble_eq_true rfl) ⟨Nat.le_of_ble_eq_true rfl, Nat.le_of_ble_eq_true rfl⟩ ⟨Nat.le_of_ble_eq_true rfl, Nat.le_of_ble_eq_true rfl⟩ (fun v9 h9 hr9 => ?_)
          obtain ⟨rfl, rfl⟩ := hr9
          refine V_callV (n := 2) C (c_passOn r7 hd hp hi hB7 hlf) dX3_designFrom_105 gX3_designFrom_X3_passOn rfl (by first | assumption | exact hset_s _ _ _) rfl (by decide +kernel) rfl rfl (by exact Nat.le_of_ble_eq_true rfl) ⟨Nat.le_of_ble_eq_true rfl, Nat.le_of_ble_eq_true rfl⟩ ⟨Nat.le_of_ble_eq_true rfl, Nat.le_of_ble_eq_true rfl⟩ (fun v9 h9 hr9 => ?_)
          obtain ⟨rfl, r8, f8⟩ := hr9
          have e8 := hex7 (FP.fsub (cam (S7.2 i)) (ltn (S7.1 b))) (by unfold lackC; rw [hb])
          refine V_iinc4 (v := nI (i + 1)) C dX3_designFrom_108 (nI_1 _) (by decide) ?_
          refine V_goto (tgt := 49) C dX3_designFrom_111 (by decide) ?_
          exact V_wk (by simp [lle]) (ih _ _ ⟨by rw [e8]; exact r8, f7.tr f8, rfl⟩)
      · have c83 : (S4.2 i).1 = 0 := c83
        refine V_aload C dX3_designFrom_86 rfl ?_
        refine V_aload_n (i := 1) C dX3_designFrom_88 rfl rfl ?_
        refine V_callS (n := 2) C (c_promiseNearest r5 hd hp hi (by rw [fset_s]; exact fb_mono haf (by decide)) hI2.2) dX3_designFrom_89 gX3_designFrom_X3_promiseNearest rfl (by decide +kernel) rfl rfl (by exact Nat.le_of_ble_eq_true rfl) ⟨Nat.le_of_ble_eq_true rfl, Nat.le_of_ble_eq_true rfl⟩ ⟨Nat.le_of_ble_eq_true rfl, Nat.le_of_ble_eq_true rfl⟩ (fun v9 h9 hr9 => ?_)
        obtain ⟨rfl, r6, f6⟩ := hr9
        obtain ⟨r7, f7⟩ : XR cA Z (xpl X p (ds0 (xnl X) S4.1 S4.2 i).1 (ds0 (xnl X) S4.1 S4.2 i).2) ta _ ∧ hfr Z X h _ := by first | exact ⟨by unfold ds0; rw [if_pos c83]; exact r6, f5.tr f6⟩ | exact ⟨by unfold ds0; rw [if_neg c83]; exact r5, f5⟩
        have hI3 := hI2.d0 hi
        have hpic := r7.ppic hp
        have hc := r7.pcell hp hi
        have haf7 : fb (cam ((ds0 (xnl X) S4.1 S4.2 i).2 i)) (255 + 2 ^ 19) := by rw [d0_am]; exact haf
        have hB7 : ∀ j, j < xN X p → fb (cbr ((ds0 (xnl X) S4.1 S4.2 i).2 j)) (2 ^ 20) := fun j hj => by rw [d0_br]; exact fb_mono (hB2 j hj) (by decide)
        have hex7 : ∀ u, u = lackC (ds0 (xnl X) S4.1 S4.2 i).1 ((ds0 (xnl X) S4.1 S4.2 i).2 i) (cam ((ds0 (xnl X) S4.1 S4.2 i).2 i)) → dsS (xwd X p) (xhg X p) (xnl X) L1 G1 (i + 1) = ((ds0 (xnl X) S4.1 S4.2 i).1, passG (xwd X p) (xhg X p) i (ds0 (xnl X) S4.1 S4.2 i).2 u) := fun u hu => by rw [hu, hS4]; rfl
        clear hS4
        obtain ⟨S7, hS7⟩ : ∃ S7, S7 = ds0 (xnl X) S4.1 S4.2 i := ⟨_, rfl⟩
        rw [← hS7] at r7 hI3 hc haf7 hB7 hex7
        clear hS7
        rcases hb : clt (S7.2 i) with _ | b
        · rw [cellC_e (d := S7.2 i) rfl hb] at hc
          refine V_aload_n (i := 0) C dX3_designFrom_92 rfl rfl ?_
          refine V_aload C dX3_designFrom_93 rfl ?_
          refine V_aload C dX3_designFrom_95 rfl ?_
          refine V_aload C dX3_designFrom_97 rfl ?_
          refine V_get (ci := 0) (CN := RX0) (T := TX0) (N := 10) C dX3_designFrom_99 (by first | assumption | exact hset_s _ _ _) rfl 5 (by decide) flX3_designFrom_46 wiX3_designFrom_X0 (by rfl) ?_
          refine V_callV (n := 1) C (c_lackBehind0 hc) dX3_designFrom_102 gX3_designFrom_X0_lackBehind rfl (by first | assumption | exact hset_s _ _ _) rfl (by decide +kernel) rfl rfl (by exact Nat.le_of_ble_eq_true rfl) ⟨Nat.le_of_ble_eq_true rfl, Nat.le_of_ble_eq_true rfl⟩ ⟨Nat.le_of_ble_eq_true rfl, Nat.le_of_ble_eq_true rfl⟩ (fun v9 h9 hr9 => ?_)
          obtain ⟨rfl, rfl⟩ := hr9
          refine V_callV (n := 2) C (c_passOn r7 hd hp hi hB7 (fb_0 _)) dX3_designFrom_105 gX3_designFrom_X3_passOn rfl (by first | assumption | exact hset_s _ _ _) rfl (by decide +kernel) rfl rfl (by exact Nat.le_of_ble_eq_true rfl) ⟨Nat.le_of_ble_eq_true rfl, Nat.le_of_ble_eq_true rfl⟩ ⟨Nat.le_of_ble_eq_true rfl, Nat.le_of_ble_eq_true rfl⟩ (fun v9 h9 hr9 => ?_)
          obtain ⟨rfl, r8, f8⟩ := hr9
          have e8 := hex7 FP.fconst0 (by unfold lackC; rw [hb])
          refine V_iinc4 (v := nI (i + 1)) C dX3_designFrom_108 (nI_1 _) (by decide) ?_
          refine V_goto (tgt := 49) C dX3_designFrom_111 (by decide) ?_
          exact V_wk (by simp [lle]) (ih _ _ ⟨by rw [e8]; exact r8, f7.tr f8, rfl⟩)
        · rw [cellC_e (d := S7.2 i) rfl hb] at hc
          have hbl := (hI3.1 i hi).1 b hb
          have hlot := r7.plot hbl
          have hlf : fb (FP.fsub (cam (S7.2 i)) (ltn (S7.1 b))) (16 * 2 ^ 16) := fb_sub haf7 (hI3.2 b hbl) (by decide) (by decide)
          refine V_aload_n (i := 0) C dX3_designFrom_92 rfl rfl ?_
          refine V_aload C dX3_designFrom_93 rfl ?_
          refine V_aload C dX3_designFrom_95 rfl ?_
          refine V_aload C dX3_designFrom_97 rfl ?_
          refine V_get (ci := 0) (CN := RX0) (T := TX0) (N := 10) C dX3_designFrom_99 (by first | assumption | exact hset_s _ _ _) rfl 5 (by decide) flX3_designFrom_46 wiX3_designFrom_X0 (by rfl) ?_
          refine V_callV (n := 1) C (c_lackBehind1 hc hlot (fb_n32 hlf)) dX3_designFrom_102 gX3_designFrom_X0_lackBehind rfl (by first | assumption | exact hset_s _ _ _) rfl (by decide +kernel) rfl rfl (by exact Nat.le_of_ble_eq_true rfl) ⟨Nat.le_of_ble_eq_true rfl, Nat.le_of_ble_eq_true rfl⟩ ⟨Nat.le_of_ble_eq_true rfl, Nat.le_of_ble_eq_true rfl⟩ (fun v9 h9 hr9 => ?_)
          obtain ⟨rfl, rfl⟩ := hr9
          refine V_callV (n := 2) C (c_passOn r7 hd hp hi hB7 hlf) dX3_designFrom_105 gX3_designFrom_X3_passOn rfl (by first | assumption | exact hset_s _ _ _) rfl (by decide +kernel) rfl rfl (by exact Nat.le_of_ble_eq_true rfl) ⟨Nat.le_of_ble_eq_true rfl, Nat.le_of_ble_eq_true rfl⟩ ⟨Nat.le_of_ble_eq_true rfl, Nat.le_of_ble_eq_true rfl⟩ (fun v9 h9 hr9 => ?_)
          obtain ⟨rfl, r8, f8⟩ := hr9
          have e8 := hex7 (FP.fsub (cam (S7.2 i)) (ltn (S7.1 b))) (by unfold lackC; rw [hb])
          refine V_iinc4 (v := nI (i + 1)) C dX3_designFrom_108 (nI_1 _) (by decide) ?_
          refine V_goto (tgt := 49) C dX3_designFrom_111 (by decide) ?_
          exact V_wk (by simp [lle]) (ih _ _ ⟨by rw [e8]; exact r8, f7.tr f8, rfl⟩)
    · rintro h4 ls4 ⟨r4, f4, rfl⟩
      refine V_iload C dX3_designFrom_49 rfl ?_
      refine V_iload_n (i := 3) C dX3_designFrom_51 rfl rfl ?_
      refine V_icmp_ge (tgt := 114) C dX3_designFrom_52 (by decide) (fun _ => ?_) (fun z9 => absurd (nI_le (Nat.le_refl _) (by omega)) z9)
      exact V_vret C dX3_designFrom_114 hr ⟨rfl, by unfold dsT; rw [← hL1, ← hG1]; exact r4, f4⟩ (by exact Nat.le_of_ble_eq_true rfl) (by exact Nat.le_of_ble_eq_true rfl)
end PIC3
