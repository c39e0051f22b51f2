/-! Picture: aims by now, sharing, what is undone, dry rows -/
def anS (w g : Nat) (L : Nat → Ld) (G : Nat → Cd) : Nat → (Nat → Cd)
  | 0 => G
  | i + 1 => passG w g i (anS w g L G i) (lackC L (anS w g L G i i) (FP.fadd (FP.i2f (cwn (anS w g L G i i))) (cbr (anS w g L G i i))))
theorem PI.an {n N w g : Nat} {L : Nat → Ld} {G : Nat → Cd} (h : PI n N L G) (i : Nat) : PI n N L (anS w g L G i) := by
  induction i with
  | zero => exact h
  | succ i ih => exact ih.pass
def gv1 (a b w : Nat) (L : Nat → Ld) (G : Nat → Cd) (k : Nat) : ((Nat → Ld) × (Nat → Cd)) × Nat :=
  if ((G k).1 = 1 ∧ clt (G k) = some a) ∧ (k % w + k / w) % 2 = 1 ∧ lth (L b) ≠ 0 ∧ 0 < llf (L b) then (prom (tb1 L G k).1 (tb1 L G k).2 k b, 1) else ((L, G), 0)
def gvS (a b w : Nat) (L : Nat → Ld) (G : Nat → Cd) : Nat → ((Nat → Ld) × (Nat → Cd)) × Nat
  | 0 => ((L, G), 0)
  | i + 1 => ((gv1 a b w (gvS a b w L G i).1.1 (gvS a b w L G i).1.2 i).1, (gvS a b w L G i).2 + (gv1 a b w (gvS a b w L G i).1.1 (gvS a b w L G i).1.2 i).2)
theorem PI.gv {n N a b w : Nat} {L : Nat → Ld} {G : Nat → Cd} (h : PI n N L G) (hb : b < n) {k : Nat} (hk : k < N) : PI n N (gv1 a b w L G k).1.1 (gv1 a b w L G k).1.2 := by
  unfold gv1
  split
  · have h1 := h.tb hk
    have h2 : PI n N (fset (tb1 L G k).1 b (lq ((tb1 L G k).1 b) (llf ((tb1 L G k).1 b) - 1) (lpm ((tb1 L G k).1 b) + 1))) (tb1 L G k).2 := h1.setL rfl
    exact h2.setC (k := k) (d := cdP ((tb1 L G k).2 k) 1 (some b)) ⟨fun b2 z => by rw [← Option.some.inj (show some b = some b2 from z)]; exact hb, fun _ => ⟨b, rfl⟩, (h1.1 k hk).2.2⟩
  · exact h
theorem PI.gvS {n N a b w : Nat} {L : Nat → Ld} {G : Nat → Cd} (h : PI n N L G) (hb : b < n) {i : Nat} (hi : i ≤ N) : PI n N (gvS a b w L G i).1.1 (gvS a b w L G i).1.2 := by
  induction i with
  | zero => exact h
  | succ i ih => exact (ih (by omega)).gv hb (by omega)
theorem gvS_le (a b w : Nat) (L : Nat → Ld) (G : Nat → Cd) (n : Nat) : (gvS a b w L G n).2 ≤ n := by
  induction n with
  | zero => exact Nat.le_refl _
  | succ n ih =>
    show (gvS a b w L G n).2 + (gv1 a b w (gvS a b w L G n).1.1 (gvS a b w L G n).1.2 n).2 ≤ n + 1
    have : (gv1 a b w (gvS a b w L G n).1.1 (gvS a b w L G n).1.2 n).2 ≤ 1 := by
      unfold gv1
      split
      · exact Nat.le_refl 1
      · exact Nat.zero_le 1
    omega
abbrev dn (d : Cd) : Prop := d.1 = 2 ∨ d.1 = 3
/-- the latest stone of a row -/
def ltS (G : Nat → Cd) (y w : Nat) : Nat → Option Nat
  | 0 => none
  | x + 1 => if (G (y * w + x)).1 = 2 ∧ (∀ j, ltS G y w x = some j → cla (G j) ≤ cla (G (y * w + x))) then some (y * w + x) else ltS G y w x
theorem ltS_in {G : Nat → Cd} {y w x j : Nat} (h : ltS G y w x = some j) : ∃ i, i < x ∧ j = y * w + i := by
  induction x with
  | zero => cases h
  | succ x ih =>
    unfold ltS at h
    split at h
    · cases h
      exact ⟨x, by omega, rfl⟩
    · obtain ⟨i, h1, h2⟩ := ih h
      exact ⟨i, by omega, h2⟩
section PIC4
variable {l : Launch} {D : va_G} {cA : Nat → ClassId} {bs : Nat} {Z : Nat → Nat → Nat} {X : XS} {ta : Nat → Nat → Option Nat} {h : hE} {p : Nat} {L : Nat → Ld} {G : Nat → Cd}
theorem XR.cinj (r : XR cA Z (xpl X p L G) ta h) (hp : p < xnp X) {i j : Nat} (hi : i < xN X p) (hj : j < xN X p) (hz : Z (p + 6) i = Z (p + 6) j) : i = j := (r.2 (p + 6) i (p + 6) j ⟨hp, hi⟩ ⟨hp, hj⟩ hz).2
theorem XR.linj (r : XR cA Z (xpl X p L G) ta h) {i j : Nat} (hi : i < xnl X) (hj : j < xnl X) (hz : Z 1 i = Z 1 j) : i = j := (r.2 1 i 1 j hi hj hz).2
set_option maxHeartbeats 4000000 in
set_option maxRecDepth 100000 in
theorem c_aimByNow {k : Nat} (r : XR cA Z (xpl X p L G) ta h) (hd : xdim X) (hp : p < xnp X) (hk : k < xN X p) (hI : PI (xnl X) (xN X p) L G) (hB : ∀ i, i ≤ xN X p → ∀ j, j < xN X p → fb (cbr (anS (xwd X p) (xhg X p) L (fgG G (xN X p)) i j)) (2 ^ 19)) : Mt l D cA bs yX3_aimByNow wsX3_aimByNow (rmk 3 0 0) [.ref (Z 2 p), .ref (Z (p + 6) k)] h (fun q h2 => q = some (.float (FP.fadd (FP.i2f (cwn (anS (xwd X p) (xhg X p) L (fgG G (xN X p)) k k))) (cbr (anS (xwd X p) (xhg X p) L (fgG G (xN X p)) k k)))) ∧ XR cA Z (xpl X p L (anS (xwd X p) (xhg X p) L (fgG G (xN X p)) k)) ta h2 ∧ hfr Z X h h2) := by
  have hN := (hd.N hp).2
  have hpic := r.ppic hp
  have hIt := hI.fg (xN X p)
  obtain ⟨G1, hG1⟩ : ∃ G1, G1 = fgG G (xN X p) := ⟨_, rfl⟩
  rw [← hG1] at hB hIt ⊢
  refine Mt_of (cc := cX3_aimByNow) (maxL := 7) (ret := (some .float)) (own := RX3) [some (.ref (Z 2 p)), some (.ref (Z (p + 6) k)), none, none, none, none, none] rfl (by decide +kernel) rfl rfl (by exact Nat.le_of_ble_eq_true rfl) rfl ?_
  intro p9 e9 s9 m9 args9 below9 meth9 c9 C hr hnm
  refine V_aload_n (i := 0) C dX3_aimByNow_0 rfl rfl ?_
  refine V_callV (n := 0) C (c_forget r hd hp) dX3_aimByNow_1 gX3_aimByNow_X3_forgetBrought rfl (by first | assumption | exact hset_s _ _ _) rfl (by decide +kernel) rfl rfl (by exact Nat.le_of_ble_eq_true rfl) ⟨Nat.le_of_ble_eq_true rfl, Nat.le_of_ble_eq_true rfl⟩ ⟨Nat.le_of_ble_eq_true rfl, Nat.le_of_ble_eq_true rfl⟩ (fun v9 h9 hr9 => ?_)
  obtain ⟨rfl, r3, f3⟩ := hr9
  rw [← hG1] at r3
  have hpic := r3.ppic hp
  have hcs := r3.pcells hp
  refine V_aload_n (i := 0) C dX3_aimByNow_4 rfl rfl ?_
  refine V_get (ci := 3) (CN := RX3) (T := TX3) (N := 4) C dX3_aimByNow_5 (by first | assumption | exact hset_s _ _ _) rfl 3 (by decide) flX3_aimByNow_23 wiX3_aimByNow_X3 (by rfl) ?_
  refine V_astore2 C dX3_aimByNow_8 (by decide) ?_
  refine V_aload_n (i := 2) C dX3_aimByNow_9 rfl rfl ?_
  refine V_alen C dX3_aimByNow_10 (by first | assumption | exact hset_s _ _ _) (by rfl) (by rfl) ?_
  refine V_istore3 C dX3_aimByNow_11 (by decide) ?_
  refine V_iconst (v := 0) C dX3_aimByNow_12 (by decide) ?_
  refine V_istore4 C dX3_aimByNow_13 (by decide) ?_
  refine V_for k (fun i h4 ls2 => XR cA Z (xpl X p L (anS (xwd X p) (xhg X p) L G1 i)) ta h4 ∧ hfr Z X h h4 ∧ ls2 = [some (.ref (Z 2 p)), some (.ref (Z (p + 6) k)), some (.ref (Z 3 p)), some (.int (nI (xN X p))), some (.int (nI i)), none, none]) ?_ ?_ 0 (Nat.zero_le _) ⟨r3, f3, rfl⟩
  · rintro i h4 ls4 hik ⟨r4, f4, rfl⟩ ih
    have hi : i < xN X p := by omega
    have hcs := r4.pcells hp
    have hpic := r4.ppic hp
    have hc := r4.pcell hp hi
    have hI2 := hIt.an (w := xwd X p) (g := xhg X p) i
    have hB2 := hB i (Nat.le_of_lt hi)
    have hne : Z (p + 6) i ≠ Z (p + 6) k := fun z => by have := r4.cinj hp hi hk z; omega
    have hex : ∀ u, u = lackC L (anS (xwd X p) (xhg X p) L G1 i i) (FP.fadd (FP.i2f (cwn (anS (xwd X p) (xhg X p) L G1 i i))) (cbr (anS (xwd X p) (xhg X p) L G1 i i))) → anS (xwd X p) (xhg X p) L G1 (i + 1) = passG (xwd X p) (xhg X p) i (anS (xwd X p) (xhg X p) L G1 i) u := fun u hu => by rw [hu]; rfl
    obtain ⟨S4, hS4⟩ : ∃ S4, S4 = anS (xwd X p) (xhg X p) L G1 i := ⟨_, rfl⟩
    rw [← hS4] at r4 hc hI2 hB2 hex
    obtain ⟨v4, hv4, hw4⟩ := (hI2.1 i hi).2.2
    have hwf : fb (FP.i2f (cwn (S4 i))) 255 := by rw [hw4]; exact fb_i2f hv4 (by decide)
    have haf : fb (FP.fadd (FP.i2f (cwn (S4 i))) (cbr (S4 i))) (255 + 2 ^ 19) := fb_add hwf (hB2 i hi) (Nat.le_refl _) (by decide)
    have hna := fb_n32 haf
    have hB7 : ∀ j, j < xN X p → fb (cbr (S4 j)) (2 ^ 20) := fun j hj => fb_mono (hB2 j hj) (by decide)
    rcases hb : clt (S4 i) with _ | b
    · rw [cellC_e (d := S4 i) rfl hb] at hc
      have e8 := hex FP.fconst0 (by unfold lackC; rw [hb])
      refine V_iload C dX3_aimByNow_15 rfl ?_
      refine V_iload_n (i := 3) C dX3_aimByNow_17 rfl rfl ?_
      refine V_icmp_ge (tgt := 69) C dX3_aimByNow_18 (by decide) (fun z9 => absurd z9 (nI_ge hi (by omega))) (fun _ => ?_)
      refine V_aload_n (i := 2) C dX3_aimByNow_21 rfl rfl ?_
      refine V_iload C dX3_aimByNow_22 rfl ?_
      refine V_aaldS C dX3_aimByNow_24 (by first | assumption | exact hset_s _ _ _) (by rfl) rfl hi (Nat.le_trans hN (by decide)) (if_pos hi) ?_
      refine V_astore5 C dX3_aimByNow_25 (by decide) ?_
      refine V_aload C dX3_aimByNow_27 rfl ?_
      refine V_get (ci := 0) (CN := RX0) (T := TX0) (N := 10) C dX3_aimByNow_29 (by first | assumption | exact hset_s _ _ _) rfl 4 (by decide) flX3_aimByNow_39 wiX3_aimByNow_X0 (by rfl) ?_
      refine V_i2f C dX3_aimByNow_32 ?_
      refine V_aload C dX3_aimByNow_33 rfl ?_
      refine V_get (ci := 0) (CN := RX0) (T := TX0) (N := 10) C dX3_aimByNow_35 (by first | assumption | exact hset_s _ _ _) rfl 6 (by decide) flX3_aimByNow_42 wiX3_aimByNow_X0 (by rfl) ?_
      refine V_fadd C dX3_aimByNow_38 (by assumption) ?_
      refine V_fstore6 C dX3_aimByNow_39 (by decide) ?_
      refine V_aload C dX3_aimByNow_41 rfl ?_
      refine V_aload_n (i := 1) C dX3_aimByNow_43 rfl rfl ?_
      refine V_acmp_ne (tgt := 50) C dX3_aimByNow_44 (by decide) (fun _ => ?_) (fun z9 => absurd z9 hne)
      refine V_aload_n (i := 0) C dX3_aimByNow_50 rfl rfl ?_
      refine V_aload C dX3_aimByNow_51 rfl ?_
      refine V_aload C dX3_aimByNow_53 rfl ?_
      refine V_fload C dX3_aimByNow_55 rfl ?_
      refine V_callV (n := 1) C (c_lackBehind0 hc) dX3_aimByNow_57 gX3_aimByNow_X0_lackBehind rfl (by first | assumption | exact hset_s _ _ _) rfl (by decide +kernel) rfl rfl (by exact Nat.le_of_ble_eq_true rfl) ⟨Nat.le_of_ble_eq_true rfl, Nat.le_of_ble_eq_true rfl⟩ ⟨Nat.le_of_ble_eq_true rfl, Nat.le_of_ble_eq_true rfl⟩ (fun v9 h9 hr9 => ?_)
      obtain ⟨rfl, rfl⟩ := hr9
      refine V_callV (n := 2) C (c_passOn r4 hd hp hi hB7 (fb_0 _)) dX3_aimByNow_60 gX3_aimByNow_X3_passOn rfl (by first | assumption | exact hset_s _ _ _) rfl (by decide +kernel) rfl rfl (by exact Nat.le_of_ble_eq_true rfl) ⟨Nat.le_of_ble_eq_true rfl, Nat.le_of_ble_eq_true rfl⟩ ⟨Nat.le_of_ble_eq_true rfl, Nat.le_of_ble_eq_true rfl⟩ (fun v9 h9 hr9 => ?_)
      obtain ⟨rfl, r8, f8⟩ := hr9
      refine V_iinc4 (v := nI (i + 1)) C dX3_aimByNow_63 (nI_1 _) (by decide) ?_
      refine V_goto (tgt := 15) C dX3_aimByNow_66 (by decide) ?_
      exact V_wk (by simp [lle]) (ih _ _ ⟨by rw [e8]; exact r8, f4.tr f8, rfl⟩)
    · rw [cellC_e (d := S4 i) rfl hb] at hc
      have hbl := (hI2.1 i hi).1 b hb
      have hlot := r4.plot hbl
      have hlf : fb (FP.fsub (FP.fadd (FP.i2f (cwn (S4 i))) (cbr (S4 i))) (ltn (L b))) (16 * 2 ^ 16) := fb_sub haf (hI2.2 b hbl) (by decide) (by decide)
      have e8 := hex (FP.fsub (FP.fadd (FP.i2f (cwn (S4 i))) (cbr (S4 i))) (ltn (L b))) (by unfold lackC; rw [hb])
      refine V_iload C dX3_aimByNow_15 rfl ?_
      refine V_iload_n (i := 3) C dX3_aimByNow_17 rfl rfl ?_
      refine V_icmp_ge (tgt := 69) C dX3_aimByNow_18 (by decide) (fun z9 => absurd z9 (nI_ge hi (by omega))) (fun _ => ?_)
      refine V_aload_n (i := 2) C dX3_aimByNow_21 rfl rfl ?_
      refine V_iload C dX3_aimByNow_22 rfl ?_
      refine V_aaldS C dX3_aimByNow_24 (by first | assumption | exact hset_s _ _ _) (by rfl) rfl hi (Nat.le_trans hN (by decide)) (if_pos hi) ?_
      refine V_astore5 C dX3_aimByNow_25 (by decide) ?_
      refine V_aload C dX3_aimByNow_27 rfl ?_
      refine V_get (ci := 0) (CN := RX0) (T := TX0) (N := 10) C dX3_aimByNow_29 (by first | assumption | exact hset_s _ _ _) rfl 4 (by decide) flX3_aimByNow_39 wiX3_aimByNow_X0 (by rfl) ?_
      refine V_i2f C dX3_aimByNow_32 ?_
      refine V_aload C dX3_aimByNow_33 rfl ?_
      refine V_get (ci := 0) (CN := RX0) (T := TX0) (N := 10) C dX3_aimByNow_35 (by first | assumption | exact hset_s _ _ _) rfl 6 (by decide) flX3_aimByNow_42 wiX3_aimByNow_X0 (by rfl) ?_
      refine V_fadd C dX3_aimByNow_38 (by assumption) ?_
      refine V_fstore6 C dX3_aimByNow_39 (by decide) ?_
      refine V_aload C dX3_aimByNow_41 rfl ?_
      refine V_aload_n (i := 1) C dX3_aimByNow_43 rfl rfl ?_
      refine V_acmp_ne (tgt := 50) C dX3_aimByNow_44 (by decide) (fun _ => ?_) (fun z9 => absurd z9 hne)
      refine V_aload_n (i := 0) C dX3_aimByNow_50 rfl rfl ?_
      refine V_aload C dX3_aimByNow_51 rfl ?_
      refine V_aload C dX3_aimByNow_53 rfl ?_
      refine V_fload C dX3_aimByNow_55 rfl ?_
      refine V_callV (n := 1) C (c_lackBehind1 hc hlot (fb_n32 hlf)) dX3_aimByNow_57 gX3_aimByNow_X0_lackBehind rfl (by first | assumption | exact hset_s _ _ _) rfl (by decide +kernel) rfl rfl (by exact Nat.le_of_ble_eq_true rfl) ⟨Nat.le_of_ble_eq_true rfl, Nat.le_of_ble_eq_true rfl⟩ ⟨Nat.le_of_ble_eq_true rfl, Nat.le_of_ble_eq_true rfl⟩ (fun v9 h9 hr9 => ?_)
      obtain ⟨rfl, rfl⟩ := hr9
      refine V_callV (n := 2) C (c_passOn r4 hd hp hi hB7 hlf) dX3_aimByNow_60 gX3_aimByNow_X3_passOn rfl (by first | assumption | exact hset_s _ _ _) rfl (by decide +kernel) rfl rfl (by exact Nat.le_of_ble_eq_true rfl) ⟨Nat.le_of_ble_eq_true rfl, Nat.le_of_ble_eq_true rfl⟩ ⟨Nat.le_of_ble_eq_true rfl, Nat.le_of_ble_eq_true rfl⟩ (fun v9 h9 hr9 => ?_)
      obtain ⟨rfl, r8, f8⟩ := hr9
      refine V_iinc4 (v := nI (i + 1)) C dX3_aimByNow_63 (nI_1 _) (by decide) ?_
      refine V_goto (tgt := 15) C dX3_aimByNow_66 (by decide) ?_
      exact V_wk (by simp [lle]) (ih _ _ ⟨by rw [e8]; exact r8, f4.tr f8, rfl⟩)
  · rintro h4 ls4 ⟨r4, f4, rfl⟩
    have hcs := r4.pcells hp
    have hc := r4.pcell hp hk
    have hI2 := hIt.an (w := xwd X p) (g := xhg X p) k
    have hB2 := hB k (Nat.le_of_lt hk)
    obtain ⟨S4, hS4⟩ : ∃ S4, S4 = anS (xwd X p) (xhg X p) L G1 k := ⟨_, rfl⟩
    rw [← hS4] at r4 hc hI2 hB2 ⊢
    obtain ⟨v4, hv4, hw4⟩ := (hI2.1 k hk).2.2
    have hwf : fb (FP.i2f (cwn (S4 k))) 255 := by rw [hw4]; exact fb_i2f hv4 (by decide)
    have hna := fb_n32 (fb_add (C := 255 + 2 ^ 19) hwf (hB2 k hk) (Nat.le_refl _) (by decide))
    refine V_iload C dX3_aimByNow_15 rfl ?_
    refine V_iload_n (i := 3) C dX3_aimByNow_17 rfl rfl ?_
    refine V_icmp_ge (tgt := 69) C dX3_aimByNow_18 (by decide) (fun z9 => absurd z9 (nI_ge hk (by omega))) (fun _ => ?_)
    refine V_aload_n (i := 2) C dX3_aimByNow_21 rfl rfl ?_
    refine V_iload C dX3_aimByNow_22 rfl ?_
    refine V_aaldS C dX3_aimByNow_24 (by first | assumption | exact hset_s _ _ _) (by rfl) rfl hk (Nat.le_trans hN (by decide)) (if_pos hk) ?_
    refine V_astore5 C dX3_aimByNow_25 (by decide) ?_
    refine V_aload C dX3_aimByNow_27 rfl ?_
    refine V_get (ci := 0) (CN := RX0) (T := TX0) (N := 10) C dX3_aimByNow_29 (by first | assumption | exact hset_s _ _ _) rfl 4 (by decide) flX3_aimByNow_39 wiX3_aimByNow_X0 (by rfl) ?_
    refine V_i2f C dX3_aimByNow_32 ?_
    refine V_aload C dX3_aimByNow_33 rfl ?_
    refine V_get (ci := 0) (CN := RX0) (T := TX0) (N := 10) C dX3_aimByNow_35 (by first | assumption | exact hset_s _ _ _) rfl 6 (by decide) flX3_aimByNow_42 wiX3_aimByNow_X0 (by rfl) ?_
    refine V_fadd C dX3_aimByNow_38 (by assumption) ?_
    refine V_fstore6 C dX3_aimByNow_39 (by decide) ?_
    refine V_aload C dX3_aimByNow_41 rfl ?_
    refine V_aload_n (i := 1) C dX3_aimByNow_43 rfl rfl ?_
    refine V_acmp_ne (tgt := 50) C dX3_aimByNow_44 (by decide) (fun z9 => absurd rfl z9) (fun _ => ?_)
    refine V_fload C dX3_aimByNow_47 rfl ?_
    exact V_fret C dX3_aimByNow_49 hr ⟨rfl, r4, f4⟩ (by exact Nat.le_of_ble_eq_true rfl) (by exact Nat.le_of_ble_eq_true rfl)
set_option maxHeartbeats 4000000 in
set_option maxRecDepth 100000 in
theorem c_giveOdd {a b : Nat} (r : XR cA Z (xpl X p L G) ta h) (hd : xdim X) (hp : p < xnp X) (ha : a < xnl X) (hb : b < xnl X) (hab : a ≠ b) (hI : PI (xnl X) (xN X p) L G) : Mt l D cA bs yX3_giveOddCells wsX3_giveOddCells (rmk 1 0 0) [.ref (Z 2 p), .ref (Z 1 a), .ref (Z 1 b)] h (fun q h2 => q = some (.int (nI (gvS a b (xwd X p) L G (xN X p)).2)) ∧ XR cA Z (xpl X p (gvS a b (xwd X p) L G (xN X p)).1.1 (gvS a b (xwd X p) L G (xN X p)).1.2) ta h2 ∧ hfr Z X h h2) := by
  have hN := (hd.N hp).2
  have hpic := r.ppic hp
  have hcs := r.pcells hp
  refine Mt_of (cc := cX3_giveOddCells) (maxL := 8) (ret := (some .int)) (own := RX3) [some (.ref (Z 2 p)), some (.ref (Z 1 a)), some (.ref (Z 1 b)), none, none, none, none, none] rfl (by decide +kernel) rfl rfl (by exact Nat.le_of_ble_eq_true rfl) rfl ?_
  intro p9 e9 s9 m9 args9 below9 meth9 c9 C hr hnm
  refine V_iconst (v := 0) C dX3_giveOddCells_0 (by decide) ?_
  refine V_istore3 C dX3_giveOddCells_1 (by decide) ?_
  refine V_aload_n (i := 0) C dX3_giveOddCells_2 rfl rfl ?_
  refine V_get (ci := 3) (CN := RX3) (T := TX3) (N := 4) C dX3_giveOddCells_3 (by first | assumption | exact hset_s _ _ _) rfl 3 (by decide) flX3_giveOddCells_23 wiX3_giveOddCells_X3 (by rfl) ?_
  refine V_astore4 C dX3_giveOddCells_6 (by decide) ?_
  refine V_aload C dX3_giveOddCells_8 rfl ?_
  refine V_alen C dX3_giveOddCells_10 (by first | assumption | exact hset_s _ _ _) (by rfl) (by rfl) ?_
  refine V_istore5 C dX3_giveOddCells_11 (by decide) ?_
  refine V_iconst (v := 0) C dX3_giveOddCells_13 (by decide) ?_
  refine V_istore6 C dX3_giveOddCells_14 (by decide) ?_
  refine V_for (xN X p) (fun i h4 ls2 => XR cA Z (xpl X p (gvS a b (xwd X p) L G i).1.1 (gvS a b (xwd X p) L G i).1.2) ta h4 ∧ hfr Z X h h4 ∧ ls2 = [some (.ref (Z 2 p)), some (.ref (Z 1 a)), some (.ref (Z 1 b)), some (.int (nI (gvS a b (xwd X p) L G i).2)), some (.ref (Z 3 p)), some (.int (nI (xN X p))), some (.int (nI i)), none]) ?_ ?_ 0 (Nat.zero_le _) ⟨r, hfr.rf, rfl⟩
  · rintro i h4 ls4 hi ⟨r4, f4, rfl⟩ ih
    have hcs := r4.pcells hp
    have hc := r4.pcell hp hi
    have hI2 := hI.gvS (a := a) (w := xwd X p) hb (Nat.le_of_lt hi)
    have hex : ∀ S c, S = (gvS a b (xwd X p) L G i).1 → c = (gvS a b (xwd X p) L G i).2 → gvS a b (xwd X p) L G (i + 1) = ((gv1 a b (xwd X p) S.1 S.2 i).1, c + (gv1 a b (xwd X p) S.1 S.2 i).2) := fun S c h1 h2 => by rw [h1, h2]; rfl
    obtain ⟨S4, hS4⟩ : ∃ S4, S4 = (gvS a b (xwd X p) L G i).1 := ⟨_, rfl⟩
    obtain ⟨n4, hn4⟩ : ∃ n4, n4 = (gvS a b (xwd X p) L G i).2 := ⟨_, rfl⟩
    have hex := hex S4 n4 hS4 hn4
    rw [← hS4] at r4 hc hI2
    rw [← hn4]
    have hlb := r4.plot hb
    have hpr : (S4.2 i).1 = 1 → ∃ z, (clt (S4.2 i)).map (Z 1) = some z := fun z => by obtain ⟨b2, hb2⟩ := (hI2.1 i hi).2.1 z; rw [hb2]; exact ⟨_, rfl⟩
    have hpa : ∀ {P : Prop}, (((S4.2 i).1 = 1 ∧ (clt (S4.2 i)).map (Z 1) = some (Z 1 a)) ↔ ((S4.2 i).1 = 1 ∧ clt (S4.2 i) = some a)) := by
      intro P
      constructor
      · rintro ⟨h1, h2⟩
        refine ⟨h1, ?_⟩
        cases hl : clt (S4.2 i) with
        | none => rw [hl] at h2; cases h2
        | some b2 =>
          rw [hl] at h2
          rw [r4.linj ((hI2.1 i hi).1 b2 hl) ha (Option.some.inj h2)]
      · rintro ⟨h1, h2⟩
        exact ⟨h1, by rw [h2]; rfl⟩
    have hodd : (nI (i % xwd X p) + nI (i / xwd X p) - (nI (i % xwd X p) + nI (i / xwd X p)) / 2 * 2 : Int32) = nI ((i % xwd X p + i / xwd X p) % 2) := by
      have h1 : i % xwd X p ≤ i := Nat.mod_le _ _
      have h2 : i / xwd X p ≤ i := Nat.div_le_self _ _
      rw [nI_add]
      exact pk_rem (a := i % xwd X p + i / xwd X p) (d := 2) (by omega) (by decide) (by decide)
    have hod2 : ∀ {m : Nat}, nI (m % 2) = 1 ↔ m % 2 = 1 := fun {m} => nI_eq (b := 1) (by omega) (by decide)
    refine V_iload C dX3_giveOddCells_16 rfl ?_
    refine V_iload C dX3_giveOddCells_18 rfl ?_
    refine V_icmp_ge (tgt := 83) C dX3_giveOddCells_20 (by decide) (fun z9 => absurd z9 (nI_ge hi (by omega))) (fun _ => ?_)
    refine V_aload C dX3_giveOddCells_23 rfl ?_
    refine V_iload C dX3_giveOddCells_25 rfl ?_
    refine V_aaldS C dX3_giveOddCells_27 (by first | assumption | exact hset_s _ _ _) (by rfl) rfl hi (Nat.le_trans hN (by decide)) (if_pos hi) ?_
    refine V_astore7 C dX3_giveOddCells_28 (by decide) ?_
    refine V_aload C dX3_giveOddCells_30 rfl ?_
    refine V_aload_n (i := 1) C dX3_giveOddCells_32 rfl rfl ?_
    refine V_callV (n := 1) C (c_isPromised hc hpr) dX3_giveOddCells_33 gX3_giveOddCells_X0_isPromised rfl (by first | assumption | exact hset_s _ _ _) rfl (by decide +kernel) rfl rfl (by exact Nat.le_of_ble_eq_true rfl) ⟨Nat.le_of_ble_eq_true rfl, Nat.le_of_ble_eq_true rfl⟩ ⟨Nat.le_of_ble_eq_true rfl, Nat.le_of_ble_eq_true rfl⟩ (fun v9 h9 hr9 => ?_)
    obtain ⟨rfl, z9⟩ := hr9
    have z9 := z9.symm
    subst z9
    refine V_if_eq (tgt := 77) C dX3_giveOddCells_36 (by decide) (fun c36 => ?_) (fun c36 => ?_)
    · have c36 := fun z => (ite0.mp c36) ((hpa (P := True)).mpr z)
      refine V_iinc6 (v := nI (i + 1)) C dX3_giveOddCells_77 (nI_1 _) (by decide) ?_
      refine V_goto (tgt := 16) C dX3_giveOddCells_80 (by decide) ?_
      first
        | exact V_wk (by rw [hex, e6]; simp [lle]) (ih _ _ ⟨by rw [hex, e6]; exact r6, f5.tr ((hfr.cell hp hi).tr (hfr.lot hb)), rfl⟩)
        | (have e0 : gv1 a b (xwd X p) S4.1 S4.2 i = ((S4.1, S4.2), 0) := by unfold gv1; rw [if_neg]; rintro ⟨q1, q2, q3⟩; first | exact c36 q1 | exact c53 q2 | exact c60 q3
           exact V_wk (by rw [hex, e0]; simp [lle]) (ih _ _ ⟨by rw [hex, e0]; exact r4, f4, rfl⟩))
    · have c36 := (hpa (P := True)).mp (Classical.not_not.mp (fun z => c36 (ite0.mpr z)))
      refine V_aload C dX3_giveOddCells_39 rfl ?_
      refine V_get (ci := 0) (CN := RX0) (T := TX0) (N := 10) C dX3_giveOddCells_41 (by first | assumption | exact hset_s _ _ _) rfl 0 (by decide) flX3_giveOddCells_78 wiX3_giveOddCells_X0 (by rfl) ?_
      refine V_aload C dX3_giveOddCells_44 rfl ?_
      refine V_get (ci := 0) (CN := RX0) (T := TX0) (N := 10) C dX3_giveOddCells_46 (by first | assumption | exact hset_s _ _ _) rfl 1 (by decide) flX3_giveOddCells_81 wiX3_giveOddCells_X0 (by rfl) ?_
      refine V_iadd C dX3_giveOddCells_49 ?_
      refine V_iconst (v := 2) C dX3_giveOddCells_50 (by decide) ?_
      refine V_irem C dX3_giveOddCells_51 (by decide) ?_
      refine V_iconst (v := 1) C dX3_giveOddCells_52 (by decide) ?_
      refine V_icmp_ne (tgt := 77) C dX3_giveOddCells_53 (by decide) (fun c53 => ?_) (fun c53 => ?_)
      · have c53 : ¬ (i % xwd X p + i / xwd X p) % 2 = 1 := fun z => c53 (hodd.trans (hod2.mpr z))
        refine V_iinc6 (v := nI (i + 1)) C dX3_giveOddCells_77 (nI_1 _) (by decide) ?_
        refine V_goto (tgt := 16) C dX3_giveOddCells_80 (by decide) ?_
        first
          | exact V_wk (by rw [hex, e6]; simp [lle]) (ih _ _ ⟨by rw [hex, e6]; exact r6, f5.tr ((hfr.cell hp hi).tr (hfr.lot hb)), rfl⟩)
          | (have e0 : gv1 a b (xwd X p) S4.1 S4.2 i = ((S4.1, S4.2), 0) := by unfold gv1; rw [if_neg]; rintro ⟨q1, q2, q3⟩; first | exact c36 q1 | exact c53 q2 | exact c60 q3
             exact V_wk (by rw [hex, e0]; simp [lle]) (ih _ _ ⟨by rw [hex, e0]; exact r4, f4, rfl⟩))
      · have c53 : (i % xwd X p + i / xwd X p) % 2 = 1 := hod2.mp (hodd.symm.trans c53)
        refine V_aload_n (i := 2) C dX3_giveOddCells_56 rfl rfl ?_
        refine V_callV (n := 0) C (c_canPromise hlb) dX3_giveOddCells_57 gX3_giveOddCells_X2_canPromise rfl (by first | assumption | exact hset_s _ _ _) rfl (by decide +kernel) rfl rfl (by exact Nat.le_of_ble_eq_true rfl) ⟨Nat.le_of_ble_eq_true rfl, Nat.le_of_ble_eq_true rfl⟩ ⟨Nat.le_of_ble_eq_true rfl, Nat.le_of_ble_eq_true rfl⟩ (fun v9 h9 hr9 => ?_)
        obtain ⟨rfl, z9⟩ := hr9
        have z9 := z9.symm
        subst z9
        refine V_if_eq (tgt := 77) C dX3_giveOddCells_60 (by decide) (fun c60 => ?_) (fun c60 => ?_)
        · have c60 := ite0.mp c60
          refine V_iinc6 (v := nI (i + 1)) C dX3_giveOddCells_77 (nI_1 _) (by decide) ?_
          refine V_goto (tgt := 16) C dX3_giveOddCells_80 (by decide) ?_
          first
            | exact V_wk (by rw [hex, e6]; simp [lle]) (ih _ _ ⟨by rw [hex, e6]; exact r6, f5.tr ((hfr.cell hp hi).tr (hfr.lot hb)), rfl⟩)
            | (have e0 : gv1 a b (xwd X p) S4.1 S4.2 i = ((S4.1, S4.2), 0) := by unfold gv1; rw [if_neg]; rintro ⟨q1, q2, q3⟩; first | exact c36 q1 | exact c53 q2 | exact c60 q3
               exact V_wk (by rw [hex, e0]; simp [lle]) (ih _ _ ⟨by rw [hex, e0]; exact r4, f4, rfl⟩))
        · have c60 := Classical.not_not.mp (fun z => c60 (ite0.mpr z))
          have hla := r4.plot ha
          rw [cellC_e c36.1 c36.2] at hc
          refine V_aload C dX3_giveOddCells_63 rfl ?_
          refine V_callV (n := 0) C (c_takeBack1 hc hla) dX3_giveOddCells_65 gX3_giveOddCells_X0_takeBack rfl (by first | assumption | exact hset_s _ _ _) rfl (by decide +kernel) rfl rfl (by exact Nat.le_of_ble_eq_true rfl) ⟨Nat.le_of_ble_eq_true rfl, Nat.le_of_ble_eq_true rfl⟩ ⟨Nat.le_of_ble_eq_true rfl, Nat.le_of_ble_eq_true rfl⟩ (fun v9 h9 hr9 => ?_)
          obtain ⟨rfl, rfl⟩ := hr9
          have r5 := (r4.psetL ha (lq (S4.1 a) (llf (S4.1 a) + 1) (lpm (S4.1 a) - 1))).psetG hp hi (cdP (S4.2 i) 0 none)
          have hc5 := r5.pcell hp hi
          rw [fset_s] at hc5
          have hl5 := r5.plot hb
          have hcx : hset (hset h4 (Z 1 a) (lotC a (lq (S4.1 a) (llf (S4.1 a) + 1) (lpm (S4.1 a) - 1)))) (Z (p + 6) i) (cellC Z (xwd X p) i (cdP (S4.2 i) 0 none)) = hset (hset h4 (Z 1 a) (lotO (nI a) (S4.1 a).1 (S4.1 a).2.1 (S4.1 a).2.2.1 ((S4.1 a).2.2.2.1 + 1) ((S4.1 a).2.2.2.2.1 - 1) (S4.1 a).2.2.2.2.2)) (Z (p + 6) i) (cellO (nI (i % xwd X p)) (nI (i / xwd X p)) 0 none (cwn (S4.2 i)) (cam (S4.2 i)) (cbr (S4.2 i)) (crd (S4.2 i)) (cla (S4.2 i)) (cdr (S4.2 i))) := rfl
          refine V_h hcx.symm ?_
          have f5 := f4.tr ((hfr.lot (Z := Z) (h := h4) ha (e := lotC a (lq (S4.1 a) (llf (S4.1 a) + 1) (lpm (S4.1 a) - 1)))).tr (hfr.cell hp hi (e := cellC Z (xwd X p) i (cdP (S4.2 i) 0 none))))
          clear hcx
          generalize hset (hset h4 (Z 1 a) (lotC a (lq (S4.1 a) (llf (S4.1 a) + 1) (lpm (S4.1 a) - 1)))) (Z (p + 6) i) (cellC Z (xwd X p) i (cdP (S4.2 i) 0 none)) = h5 at r5 hc5 hl5 f5 ⊢
          refine V_aload C dX3_giveOddCells_68 rfl ?_
          refine V_aload_n (i := 2) C dX3_giveOddCells_70 rfl rfl ?_
          refine V_callV (n := 1) C (c_promise hc5 hl5) dX3_giveOddCells_71 gX3_giveOddCells_X0_promise rfl (by first | assumption | exact hset_s _ _ _) rfl (by decide +kernel) rfl rfl (by exact Nat.le_of_ble_eq_true rfl) ⟨Nat.le_of_ble_eq_true rfl, Nat.le_of_ble_eq_true rfl⟩ ⟨Nat.le_of_ble_eq_true rfl, Nat.le_of_ble_eq_true rfl⟩ (fun v9 h9 hr9 => ?_)
          obtain ⟨rfl, rfl⟩ := hr9
          have r6 := (r5.psetG hp hi (cdP (cdP (S4.2 i) 0 none) 1 (some b))).psetL hb (lq (fset S4.1 a (lq (S4.1 a) (llf (S4.1 a) + 1) (lpm (S4.1 a) - 1)) b) (llf (fset S4.1 a (lq (S4.1 a) (llf (S4.1 a) + 1) (lpm (S4.1 a) - 1)) b) - 1) (lpm (fset S4.1 a (lq (S4.1 a) (llf (S4.1 a) + 1) (lpm (S4.1 a) - 1)) b) + 1))
          have e6 : gv1 a b (xwd X p) S4.1 S4.2 i = ((fset (fset S4.1 a (lq (S4.1 a) (llf (S4.1 a) + 1) (lpm (S4.1 a) - 1))) b (lq (fset S4.1 a (lq (S4.1 a) (llf (S4.1 a) + 1) (lpm (S4.1 a) - 1)) b) (llf (fset S4.1 a (lq (S4.1 a) (llf (S4.1 a) + 1) (lpm (S4.1 a) - 1)) b) - 1) (lpm (fset S4.1 a (lq (S4.1 a) (llf (S4.1 a) + 1) (lpm (S4.1 a) - 1)) b) + 1)), fset (fset S4.2 i (cdP (S4.2 i) 0 none)) i (cdP (cdP (S4.2 i) 0 none) 1 (some b))), 1) := by unfold gv1; rw [if_pos ⟨c36, c53, c60⟩, tb1_p c36.1 c36.2]; unfold prom; dsimp only; rw [fset_s]
          refine V_iinc3 (v := nI (n4 + 1)) C dX3_giveOddCells_74 (nI_1 _) (by decide) ?_
          refine V_iinc6 (v := nI (i + 1)) C dX3_giveOddCells_77 (nI_1 _) (by decide) ?_
          refine V_goto (tgt := 16) C dX3_giveOddCells_80 (by decide) ?_
          first
            | exact V_wk (by rw [hex, e6]; simp [lle]) (ih _ _ ⟨by rw [hex, e6]; exact r6, f5.tr ((hfr.cell hp hi).tr (hfr.lot hb)), rfl⟩)
            | (have e0 : gv1 a b (xwd X p) S4.1 S4.2 i = ((S4.1, S4.2), 0) := by unfold gv1; rw [if_neg]; rintro ⟨q1, q2, q3⟩; first | exact c36 q1 | exact c53 q2 | exact c60 q3
               exact V_wk (by rw [hex, e0]; simp [lle]) (ih _ _ ⟨by rw [hex, e0]; exact r4, f4, rfl⟩))
  · rintro h4 ls4 ⟨r4, f4, rfl⟩
    refine V_iload C dX3_giveOddCells_16 rfl ?_
    refine V_iload C dX3_giveOddCells_18 rfl ?_
    refine V_icmp_ge (tgt := 83) C dX3_giveOddCells_20 (by decide) (fun _ => ?_) (fun z9 => absurd (nI_le (Nat.le_refl _) (by omega)) z9)
    refine V_iload_n (i := 3) C dX3_giveOddCells_83 rfl rfl ?_
    exact V_iret C dX3_giveOddCells_84 hr ⟨rfl, r4, f4⟩ (by exact Nat.le_of_ble_eq_true rfl) (by exact Nat.le_of_ble_eq_true rfl)
set_option maxHeartbeats 4000000 in
set_option maxRecDepth 100000 in
theorem c_firstUndone (r : XR cA Z (xpl X p L G) ta h) (hd : xdim X) (hp : p < xnp X) : Mt l D cA bs yX3_firstUndone wsX3_firstUndone (rmk 1 0 0) [.ref (Z 2 p)] h (fun v h2 => ((∃ k, k < xN X p ∧ ¬ dn (G k) ∧ (∀ j, j < k → dn (G j)) ∧ v = some (.ref (Z (p + 6) k))) ∨ ((∀ j, j < xN X p → dn (G j)) ∧ v = some .null)) ∧ h2 = h) := by
  have hN := (hd.N hp).2
  have hpic := r.ppic hp
  have hcs := r.pcells hp
  refine Mt_of (cc := cX3_firstUndone) (maxL := 5) (ret := (some (.object "TesseraeRow$Cell"))) (own := RX3) [some (.ref (Z 2 p)), none, none, none, none] rfl (by decide +kernel) rfl rfl (by exact Nat.le_of_ble_eq_true rfl) rfl ?_
  intro p9 e9 s9 m9 args9 below9 meth9 c9 C hr hnm
  refine V_aload_n (i := 0) C dX3_firstUndone_0 rfl rfl ?_
  refine V_get (ci := 3) (CN := RX3) (T := TX3) (N := 4) C dX3_firstUndone_1 (by first | assumption | exact hset_s _ _ _) rfl 3 (by decide) flX3_firstUndone_23 wiX3_firstUndone_X3 (by rfl) ?_
  refine V_astore1 C dX3_firstUndone_4 (by decide) ?_
  refine V_aload_n (i := 1) C dX3_firstUndone_5 rfl rfl ?_
  refine V_alen C dX3_firstUndone_6 (by first | assumption | exact hset_s _ _ _) (by rfl) (by rfl) ?_
  refine V_istore2 C dX3_firstUndone_7 (by decide) ?_
  refine V_iconst (v := 0) C dX3_firstUndone_8 (by decide) ?_
  refine V_istore3 C dX3_firstUndone_9 (by decide) ?_
  refine V_for (xN X p) (fun i h2 ls2 => h2 = h ∧ (∀ j, j < i → dn (G j)) ∧ ls2 = [some (.ref (Z 2 p)), some (.ref (Z 3 p)), some (.int (nI (xN X p))), some (.int (nI i)), none]) ?_ ?_ 0 (Nat.zero_le _) ⟨rfl, fun j hj => absurd hj (Nat.not_lt_zero j), rfl⟩
  · rintro i h2 ls2 hi ⟨rfl, hj, rfl⟩ ih
    have hc := r.pcell hp hi
    refine V_iload_n (i := 3) C dX3_firstUndone_10 rfl rfl ?_
    refine V_iload_n (i := 2) C dX3_firstUndone_11 rfl rfl ?_
    refine V_icmp_ge (tgt := 37) C dX3_firstUndone_12 (by decide) (fun z9 => absurd z9 (nI_ge hi (by omega))) (fun _ => ?_)
    refine V_aload_n (i := 1) C dX3_firstUndone_15 rfl rfl ?_
    refine V_iload_n (i := 3) C dX3_firstUndone_16 rfl rfl ?_
    refine V_aaldS C dX3_firstUndone_17 (by first | assumption | exact hset_s _ _ _) (by rfl) rfl hi (Nat.le_trans hN (by decide)) (if_pos hi) ?_
    refine V_astore4 C dX3_firstUndone_18 (by decide) ?_
    refine V_aload C dX3_firstUndone_20 rfl ?_
    refine V_callV (n := 0) C (c_isDone hc) dX3_firstUndone_22 gX3_firstUndone_X0_isDone rfl (by first | assumption | exact hset_s _ _ _) rfl (by decide +kernel) rfl rfl (by exact Nat.le_of_ble_eq_true rfl) ⟨Nat.le_of_ble_eq_true rfl, Nat.le_of_ble_eq_true rfl⟩ ⟨Nat.le_of_ble_eq_true rfl, Nat.le_of_ble_eq_true rfl⟩ (fun v9 h9 hr9 => ?_)
    obtain ⟨rfl, rfl⟩ := hr9
    refine V_if_ne (tgt := 31) C dX3_firstUndone_25 (by decide) (fun c25 => ?_) (fun c25 => ?_)
    · have c25 := Classical.not_not.mp (fun z => c25 (ite0.mpr z))
      refine V_iinc3 (v := nI (i + 1)) C dX3_firstUndone_31 (nI_1 _) (by decide) ?_
      refine V_goto (tgt := 10) C dX3_firstUndone_34 (by decide) ?_
      exact V_wk (by simp [lle]) (ih _ _ ⟨rfl, fun j h1 => by rcases Nat.lt_succ_iff_lt_or_eq.mp h1 with h2 | h2; exact hj j h2; rw [h2]; exact c25, rfl⟩)
    · have c25 := ite0.mp c25
      refine V_aload C dX3_firstUndone_28 rfl ?_
      exact V_aret C dX3_firstUndone_30 hr (Or.inl ⟨_, rfl⟩) (by first | exact Or.inl rfl | exact Or.inr ⟨_, rfl⟩) ⟨Or.inl ⟨i, hi, c25, hj, rfl⟩, rfl⟩ (by exact Nat.le_of_ble_eq_true rfl) (by exact Nat.le_of_ble_eq_true rfl)
  · rintro h2 ls2 ⟨rfl, hj, rfl⟩
    refine V_iload_n (i := 3) C dX3_firstUndone_10 rfl rfl ?_
    refine V_iload_n (i := 2) C dX3_firstUndone_11 rfl rfl ?_
    refine V_icmp_ge (tgt := 37) C dX3_firstUndone_12 (by decide) (fun _ => ?_) (fun z9 => absurd (nI_le (Nat.le_refl _) (by omega)) z9)
    refine V_null C dX3_firstUndone_37 ?_
    exact V_aret C dX3_firstUndone_38 hr (Or.inl ⟨_, rfl⟩) (by first | exact Or.inl rfl | exact Or.inr ⟨_, rfl⟩) ⟨Or.inr ⟨hj, rfl⟩, rfl⟩ (by exact Nat.le_of_ble_eq_true rfl) (by exact Nat.le_of_ble_eq_true rfl)
end PIC4
