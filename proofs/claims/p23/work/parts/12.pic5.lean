/-! floats that are not negative; Picture: dry rows, edges -/
def fp (x : UInt32) (B : Nat) : Prop := fb x B ∧ FP.Core.sgn (FP.Core.val32 x) = false
theorem fp_mono {x : UInt32} {A B : Nat} (h : fp x A) (hab : A ≤ B) : fp x B := ⟨fb_mono h.1 hab, h.2⟩
theorem fp_i2f {n C : Nat} (h : n ≤ C) (hC : C ≤ 2 ^ 24) : fp (FP.i2f (nI n)) C := by
  refine ⟨fb_i2f h hC, ?_⟩
  show FP.Core.sgn (FP.Core.val32 (FP.Core.i2f (nI n))) = false
  rw [FP.Core.val32_i2f, nI_int (Nat.le_trans h hC)]
  show FP.Core.sgn (FP.Core.roundRatio FP.Core.b32 (decide ((n : Int) < 0)) _ 1 0) = false
  rw [FP.Core.sgn_roundRatio]
  exact decide_eq_false (by omega)
theorem fp_0 (C : Nat) : fp FP.fconst0 C := ⟨fb_0 C, by rw [show FP.fconst0 = FP.Core.fconst0 from rfl, FP.Core.val32_fconst0]; rfl⟩
theorem fp_add {x y : UInt32} {A B C : Nat} (hx : fp x A) (hy : fp y B) (hc : A + B ≤ C) (hC : C ≤ 2 ^ 24) : fp (FP.fadd x y) C := by
  refine ⟨fb_add hx.1 hy.1 hc hC, ?_⟩
  obtain ⟨s, c, q, hv⟩ := hx.1.1
  obtain ⟨t, d, r, hw⟩ := hy.1.1
  have hs := hx.2
  have ht := hy.2
  rw [hv] at hs
  rw [hw] at ht
  have hs : s = false := hs
  have ht : t = false := ht
  subst hs
  subst ht
  show FP.Core.sgn (FP.Core.val32 (FP.Core.fadd x y)) = false
  rw [FP.Core.val32_fadd, hv, hw]
  show FP.Core.sgn (FP.Core.roundRatio FP.Core.b32 _ _ 1 _) = false
  rw [FP.Core.sgn_roundRatio]
  unfold FP.Core.sumSign
  split
  · rfl
  · refine decide_eq_false ?_
    unfold FP.Core.sumUnits FP.Core.signed
    simp only [Bool.false_eq_true, if_false]
    omega
theorem fp_div {x : UInt32} {c : Nat} (hx : fp x (255 * c)) (h1 : 1 ≤ c) (h2 : c ≤ 9) : fp (FP.fdiv x (FP.i2f (nI c))) 255 := by
  obtain ⟨s, cx, qx, hv⟩ := hx.1.1
  have hs := hx.2
  rw [hv] at hs
  have hs : s = false := hs
  subst hs
  have hy := fp_i2f (n := c) (C := c) (Nat.le_refl _) (by omega)
  have hyz := FP.Core.FInt_zval (fb_whole (n := c) (by omega))
  obtain ⟨t, d, r, hw⟩ := hy.1.1
  have ht := hy.2
  rw [hw] at ht
  have ht : t = false := ht
  subst ht
  rw [hw] at hyz
  have hfx := FP.Core.val32_fits x
  rw [hv] at hfx
  have hfy := FP.Core.val32_fits (FP.i2f (nI c))
  rw [hw] at hfy
  have hxz := hx.1.2
  rw [hv] at hxz
  have hqm : FP.Core.b32.qmin = -149 := FP.Core.qmin_b32
  have hq1 : -149 ≤ qx := by rw [← hqm]; exact hfx.2.1
  have hr1 : -149 ≤ r := by rw [← hqm]; exact hfy.2.1
  have hyz2 : d * 2 ^ (r - -149).toNat = c * FP.Core.one32 := by
    have h3 : ((d * 2 ^ (r - FP.Core.b32.qmin).toNat : Nat) : Int) = (c : Int) * (FP.Core.one32 : Int) := hyz
    rw [hqm, ← Int.natCast_mul] at h3
    exact Int.ofNat.inj h3
  have hone : 0 < FP.Core.one32 := FP.Core.one32_pos
  have hd0 : 0 < d := by
    rcases Nat.eq_zero_or_pos d with z | z
    · subst z
      rw [Nat.zero_mul] at hyz2
      have : 0 < c * FP.Core.one32 := Nat.mul_pos h1 hone
      omega
    · exact z
  have hr : FP.Core.val32 (FP.fdiv x (FP.i2f (nI c))) = FP.Core.roundRatio FP.Core.b32 false cx d (qx - r) := by
    rw [FP.fdiv_core, FP.Core.val32_fdiv, hv, hw]
    show (if d = 0 then _ else FP.Core.roundRatio FP.Core.b32 (false != false) cx d (qx - r)) = _
    rw [if_neg (by omega), Bool.bne_false]
  obtain ⟨V, v1, v2, v3⟩ := fb_hi (C := 255) (by decide)
  have hVz : 255 * FP.Core.one32 ≤ FP.Core.zmag FP.Core.b32 V := by
    have h3 := v3
    unfold FP.Core.zval FP.Core.signed at h3
    split at h3 <;> omega
  have hVz2 : FP.Core.zmag FP.Core.b32 V ≤ 255 * FP.Core.one32 := by
    have h3 := v3
    unfold FP.Core.zval FP.Core.signed at h3
    split at h3 <;> omega
  have hle := FP.Core.zmag_roundRatio_le FP.Core.good_b32 (s := false) (A := cx) (B := d) (e := qx - r) (e0 := -298 - r) hd0 v1 v2 (by rw [hqm]; omega) (by omega) (by
    have e1 : FP.Core.inUnits cx (qx - r) (-298 - r) = FP.Core.zmag FP.Core.b32 (.fin false cx qx) * FP.Core.one32 := by
      show cx * 2 ^ (qx - r - (-298 - r)).toNat = cx * 2 ^ (qx - FP.Core.b32.qmin).toNat * 2 ^ 149
      rw [hqm, Nat.mul_assoc, ← Nat.pow_add, show (qx - r - (-298 - r)).toNat = (qx - -149).toNat + 149 by omega]
    have e2 : (FP.Core.b32.qmin - (-298 - r)).toNat = (r - -149).toNat := by rw [hqm]; omega
    rw [e1, e2, Nat.mul_assoc, Nat.mul_comm (2 ^ _) d, hyz2]
    have h4 := Nat.mul_le_mul_right FP.Core.one32 hxz
    have h5 := Nat.mul_le_mul_right (c * FP.Core.one32) hVz
    have e3 : 255 * c * FP.Core.one32 * FP.Core.one32 = 255 * FP.Core.one32 * (c * FP.Core.one32) := by
      simp only [Nat.mul_assoc, Nat.mul_left_comm, Nat.mul_comm]
    omega)
  have hsg : FP.Core.sgn (FP.Core.val32 (FP.fdiv x (FP.i2f (nI c)))) = false := by rw [hr, FP.Core.sgn_roundRatio]
  have hzm : FP.Core.zmag FP.Core.b32 (FP.Core.val32 (FP.fdiv x (FP.i2f (nI c)))) ≤ 255 * FP.Core.one32 := by rw [hr]; omega
  refine ⟨fb_of (by rw [hr]; exact FP.Core.roundRatio_ne_nan _ _ _ _ _) (by decide) ?_ ?_, hsg⟩
  · unfold FP.Core.zval
    rw [hsg]
    show ((_ : Nat) : Int) ≤ _
    have := Int.ofNat_le.mpr hzm
    rw [Int.natCast_mul] at this
    exact this
  · unfold FP.Core.zval
    rw [hsg]
    show _ ≤ ((_ : Nat) : Int)
    have h6 : 0 ≤ ((255 : Nat) : Int) * (FP.Core.one32 : Int) := Int.mul_nonneg (Int.natCast_nonneg _) (Int.natCast_nonneg _)
    omega
theorem fp_f2i {x : UInt32} {C : Nat} (h : fp x C) (hC : C ≤ 2 ^ 24) : ∃ m, m ≤ C ∧ FP.f2i x = nI m := by
  have h1 := FP.Core.f2i_val (fb_nn h.1)
  rw [h.2] at h1
  have hone : 0 < FP.Core.one32 := FP.Core.one32_pos
  have h2 : FP.Core.zmag FP.Core.b32 (FP.Core.val32 x) / FP.Core.one32 ≤ C := by
    rw [Nat.div_le_iff_le_mul_add_pred hone]
    have := h.1.2
    rw [Nat.mul_comm]
    omega
  refine ⟨_, h2, ?_⟩
  apply Int32.toInt.inj
  show (FP.Core.f2i x).toInt = _
  rw [h1, nI_int (Nat.le_trans h2 hC)]
  have e : FP.Core.signed false (FP.Core.zmag FP.Core.b32 (FP.Core.val32 x) / FP.Core.one32) = ((FP.Core.zmag FP.Core.b32 (FP.Core.val32 x) / FP.Core.one32 : Nat) : Int) := rfl
  rw [e]
  clear h1 e
  generalize FP.Core.zmag FP.Core.b32 (FP.Core.val32 x) / FP.Core.one32 = n at h2 ⊢
  omega
def dryV (G : Nat → Cd) (o : Option Nat) (u : Int32) : Prop := ∀ j, o = some j → cdr (G j) ≤ u
def stn (L : Nat → Ld) (d : Cd) : UInt32 := match clt d with
  | none => FP.i2f (cwn d)
  | some b => ltn (L b)
def edg (L : Nat → Ld) (d e : Cd) : UInt32 := if d.1 = 0 ∨ e.1 = 0 then FP.fconst0 else fab (FP.fsub (FP.fsub (stn L d) (stn L e)) (FP.fsub (FP.i2f (cwn d)) (FP.i2f (cwn e))))
def edR (w : Nat) (L : Nat → Ld) (G : Nat → Cd) (k : Nat) : UInt32 := if k % w + 1 < w then edg L (G k) (G (k / w * w + (k % w + 1))) else FP.fconst0
def edB (w g : Nat) (L : Nat → Ld) (G : Nat → Cd) (k : Nat) : UInt32 := if k / w + 1 < g then edg L (G k) (G ((k / w + 1) * w + k % w)) else FP.fconst0
def fmx (a b : UInt32) : UInt32 := if FP.fcmp a b = some .lt ∨ FP.fcmp a b = none then b else a
def grS (w g : Nat) (L : Nat → Ld) (G : Nat → Cd) : Nat → UInt32
  | 0 => FP.fconst0
  | k + 1 => if FP.fcmp (fmx (edR w L G k) (edB w g L G k)) (grS w g L G k) = some .gt then fmx (edR w L G k) (edB w g L G k) else grS w g L G k
section PIC5
variable {l : Launch} {D : va_G} {cA : Nat → ClassId} {bs : Nat} {Z : Nat → Nat → Nat} {X : XS} {ta : Nat → Nat → Option Nat} {h : hE} {p : Nat} {L : Nat → Ld} {G : Nat → Cd}
set_option maxHeartbeats 4000000 in
set_option maxRecDepth 100000 in
theorem c_isDry0 {u : Int32} (r : XR cA Z (xpl X p L G) ta h) (hd : xdim X) (hp : p < xnp X) : Mt l D cA bs yX3_isDryRow wsX3_isDryRow (rmk 1 0 0) [.ref (Z 2 p), .int (-1), .int u] h (fun v h2 => v = some (.int 1) ∧ h2 = h) := by
  obtain ⟨⟨w1, w2⟩, g1, g2⟩ := hd.2.2 p hp
  have hpic := r.ppic hp
  refine Mt_of (cc := cX3_isDryRow) (maxL := 6) (ret := (some .boolean)) (own := RX3) [some (.ref (Z 2 p)), some (.int (-1)), some (.int u), none, none, none] rfl (by decide +kernel) rfl rfl (by exact Nat.le_of_ble_eq_true rfl) rfl ?_
  intro p9 e9 s9 m9 args9 below9 meth9 c9 C hr hnm
  refine V_null C dX3_isDryRow_0 ?_
  refine V_astoreN3 C dX3_isDryRow_1 (by decide) ?_
  refine V_iconst (v := 0) C dX3_isDryRow_2 (by decide) ?_
  refine V_istore4 C dX3_isDryRow_3 (by decide) ?_
  refine V_for (xwd X p) (fun i h2 ls2 => h2 = h ∧ ls2 = [some (.ref (Z 2 p)), some (.int (-1)), some (.int u), some .null, some (.int (nI i)), none]) ?_ ?_ 0 (Nat.zero_le _) ⟨rfl, rfl⟩
  · rintro i h2 ls2 hi ⟨rfl, rfl⟩ ih
    refine V_iload C dX3_isDryRow_5 rfl ?_
    refine V_aload_n (i := 0) C dX3_isDryRow_7 rfl rfl ?_
    refine V_get (ci := 3) (CN := RX3) (T := TX3) (N := 4) C dX3_isDryRow_8 (by first | assumption | exact hset_s _ _ _) rfl 1 (by decide) flX3_isDryRow_15 wiX3_isDryRow_X3 (by rfl) ?_
    refine V_icmp_ge (tgt := 72) C dX3_isDryRow_11 (by decide) (fun z9 => absurd z9 (nI_ge hi (by omega))) (fun _ => ?_)
    refine V_aload_n (i := 0) C dX3_isDryRow_14 rfl rfl ?_
    refine V_iload C dX3_isDryRow_15 rfl ?_
    refine V_iload_n (i := 1) C dX3_isDryRow_17 rfl rfl ?_
    refine V_callV (n := 2) C (c_cellAt0 r hp (fun z => absurd z.2.2.1 (by decide))) dX3_isDryRow_18 gX3_isDryRow_X3_cellAt rfl (by first | assumption | exact hset_s _ _ _) rfl (by decide +kernel) rfl rfl (by exact Nat.le_of_ble_eq_true rfl) ⟨Nat.le_of_ble_eq_true rfl, Nat.le_of_ble_eq_true rfl⟩ ⟨Nat.le_of_ble_eq_true rfl, Nat.le_of_ble_eq_true rfl⟩ (fun v9 h9 hr9 => ?_)
    obtain ⟨rfl, rfl⟩ := hr9
    refine V_astoreN5 C dX3_isDryRow_21 (by decide) ?_
    refine V_aloadN C dX3_isDryRow_23 rfl ?_
    refine V_ifnullN (tgt := 66) C dX3_isDryRow_25 (by decide) ?_
    refine V_iinc4 (v := nI (i + 1)) C dX3_isDryRow_66 (nI_1 _) (by decide) ?_
    refine V_goto (tgt := 5) C dX3_isDryRow_69 (by decide) ?_
    exact V_wk (by simp [lle]) (ih _ _ ⟨rfl, rfl⟩)
  · rintro h2 ls2 ⟨rfl, rfl⟩
    refine V_iload C dX3_isDryRow_5 rfl ?_
    refine V_aload_n (i := 0) C dX3_isDryRow_7 rfl rfl ?_
    refine V_get (ci := 3) (CN := RX3) (T := TX3) (N := 4) C dX3_isDryRow_8 (by first | assumption | exact hset_s _ _ _) rfl 1 (by decide) flX3_isDryRow_15 wiX3_isDryRow_X3 (by rfl) ?_
    refine V_icmp_ge (tgt := 72) C dX3_isDryRow_11 (by decide) (fun _ => ?_) (fun z9 => absurd (nI_le (Nat.le_refl _) (by omega)) z9)
    refine V_aload_nN (i := 3) C dX3_isDryRow_72 rfl rfl ?_
    refine V_ifnullN (tgt := 84) C dX3_isDryRow_73 (by decide) ?_
    refine V_iconst (v := 1) C dX3_isDryRow_84 (by decide) ?_
    refine V_goto (tgt := 89) C dX3_isDryRow_85 (by decide) ?_
    exact V_zret C dX3_isDryRow_89 hr (by rfl) ⟨rfl, rfl⟩ (by exact Nat.le_of_ble_eq_true rfl) (by exact Nat.le_of_ble_eq_true rfl)
set_option maxHeartbeats 4000000 in
set_option maxRecDepth 100000 in
theorem c_isDry1 {u : Int32} {y : Nat} (r : XR cA Z (xpl X p L G) ta h) (hd : xdim X) (hp : p < xnp X) (hy : y < xhg X p) (hdn : ∀ x, x < xwd X p → dn (G (y * xwd X p + x))) : Mt l D cA bs yX3_isDryRow wsX3_isDryRow (rmk 1 0 0) [.ref (Z 2 p), .int (nI y), .int u] h (fun v h2 => (v = some (.int 1) ∧ dryV G (ltS G y (xwd X p) (xwd X p)) u ∨ v = some (.int 0) ∧ ¬ dryV G (ltS G y (xwd X p) (xwd X p)) u) ∧ h2 = h) := by
  obtain ⟨⟨w1, w2⟩, g1, g2⟩ := hd.2.2 p hp
  have hpic := r.ppic hp
  refine Mt_of (cc := cX3_isDryRow) (maxL := 6) (ret := (some .boolean)) (own := RX3) [some (.ref (Z 2 p)), some (.int (nI y)), some (.int u), none, none, none] rfl (by decide +kernel) rfl rfl (by exact Nat.le_of_ble_eq_true rfl) rfl ?_
  intro p9 e9 s9 m9 args9 below9 meth9 c9 C hr hnm
  refine V_null C dX3_isDryRow_0 ?_
  refine V_astoreN3 C dX3_isDryRow_1 (by decide) ?_
  refine V_iconst (v := 0) C dX3_isDryRow_2 (by decide) ?_
  refine V_istore4 C dX3_isDryRow_3 (by decide) ?_
  refine V_for (xwd X p) (fun i h2 ls2 => h2 = h ∧ ls2 = [some (.ref (Z 2 p)), some (.int (nI y)), some (.int u), some (va_rf ((ltS G y (xwd X p) i).map (Z (p + 6)))), some (.int (nI i)), none]) ?_ ?_ 0 (Nat.zero_le _) ⟨rfl, by simp [ltS, va_rf, nI_0]⟩
  · rintro i h2 ls2 hi ⟨rfl, rfl⟩ ih
    have hk := at_lt hi hy
    have hc := r.pcell hp hk
    have hdi := hdn i hi
    cases hb : ltS G y (xwd X p) i with
    | none =>
      refine V_iload C dX3_isDryRow_5 rfl ?_
      refine V_aload_n (i := 0) C dX3_isDryRow_7 rfl rfl ?_
      refine V_get (ci := 3) (CN := RX3) (T := TX3) (N := 4) C dX3_isDryRow_8 (by first | assumption | exact hset_s _ _ _) rfl 1 (by decide) flX3_isDryRow_15 wiX3_isDryRow_X3 (by rfl) ?_
      refine V_icmp_ge (tgt := 72) C dX3_isDryRow_11 (by decide) (fun z9 => absurd z9 (nI_ge hi (by omega))) (fun _ => ?_)
      refine V_aload_n (i := 0) C dX3_isDryRow_14 rfl rfl ?_
      refine V_iload C dX3_isDryRow_15 rfl ?_
      refine V_iload_n (i := 1) C dX3_isDryRow_17 rfl rfl ?_
      refine V_callV (n := 2) C (c_cellAt1 r hd hp hi hy) dX3_isDryRow_18 gX3_isDryRow_X3_cellAt rfl (by first | assumption | exact hset_s _ _ _) rfl (by decide +kernel) rfl rfl (by exact Nat.le_of_ble_eq_true rfl) ⟨Nat.le_of_ble_eq_true rfl, Nat.le_of_ble_eq_true rfl⟩ ⟨Nat.le_of_ble_eq_true rfl, Nat.le_of_ble_eq_true rfl⟩ (fun v9 h9 hr9 => ?_)
      obtain ⟨rfl, rfl⟩ := hr9
      refine V_astore5 C dX3_isDryRow_21 (by decide) ?_
      refine V_aload C dX3_isDryRow_23 rfl ?_
      refine V_ifnull C dX3_isDryRow_25 ?_
      refine V_aload C dX3_isDryRow_28 rfl ?_
      refine V_callV (n := 0) C (c_isDone hc) dX3_isDryRow_30 gX3_isDryRow_X0_isDone rfl (by first | assumption | exact hset_s _ _ _) rfl (by decide +kernel) rfl rfl (by exact Nat.le_of_ble_eq_true rfl) ⟨Nat.le_of_ble_eq_true rfl, Nat.le_of_ble_eq_true rfl⟩ ⟨Nat.le_of_ble_eq_true rfl, Nat.le_of_ble_eq_true rfl⟩ (fun v9 h9 hr9 => ?_)
      obtain ⟨rfl, rfl⟩ := hr9
      refine V_if_ne (tgt := 38) C dX3_isDryRow_33 (by decide) (fun _ => ?_) (fun z9 => absurd z9 (fun z => (ite0.mp z) hdi))
      refine V_aload C dX3_isDryRow_38 rfl ?_
      refine V_get (ci := 0) (CN := RX0) (T := TX0) (N := 10) C dX3_isDryRow_40 (by first | assumption | exact hset_s _ _ _) rfl 2 (by decide) flX3_isDryRow_30 wiX3_isDryRow_X0 (by rfl) ?_
      refine V_iconst (v := 2) C dX3_isDryRow_43 (by decide) ?_
      refine V_icmp_ne (tgt := 66) C dX3_isDryRow_44 (by decide) (fun c44 => ?_) (fun c44 => ?_)
      · refine V_iinc4 (v := nI (i + 1)) C dX3_isDryRow_66 (nI_1 _) (by decide) ?_
        refine V_goto (tgt := 5) C dX3_isDryRow_69 (by decide) ?_
        exact V_wk (by simp [lle, ltS, hb, va_rf, c44]) (ih _ _ ⟨rfl, rfl⟩)
      · refine V_aload_nN (i := 3) C dX3_isDryRow_47 rfl rfl ?_
        refine V_ifnullN (tgt := 63) C dX3_isDryRow_48 (by decide) ?_
        refine V_aload C dX3_isDryRow_63 rfl ?_
        refine V_astore3 C dX3_isDryRow_65 (by decide) ?_
        refine V_iinc4 (v := nI (i + 1)) C dX3_isDryRow_66 (nI_1 _) (by decide) ?_
        refine V_goto (tgt := 5) C dX3_isDryRow_69 (by decide) ?_
        exact V_wk (by simp [lle, ltS, hb, va_rf, c44]) (ih _ _ ⟨rfl, rfl⟩)
    | some j =>
      obtain ⟨i2, hi2, rfl⟩ := ltS_in hb
      have hk2 := at_lt (Nat.lt_trans hi2 hi) hy
      have hc2 := r.pcell hp hk2
      refine V_iload C dX3_isDryRow_5 rfl ?_
      refine V_aload_n (i := 0) C dX3_isDryRow_7 rfl rfl ?_
      refine V_get (ci := 3) (CN := RX3) (T := TX3) (N := 4) C dX3_isDryRow_8 (by first | assumption | exact hset_s _ _ _) rfl 1 (by decide) flX3_isDryRow_15 wiX3_isDryRow_X3 (by rfl) ?_
      refine V_icmp_ge (tgt := 72) C dX3_isDryRow_11 (by decide) (fun z9 => absurd z9 (nI_ge hi (by omega))) (fun _ => ?_)
      refine V_aload_n (i := 0) C dX3_isDryRow_14 rfl rfl ?_
      refine V_iload C dX3_isDryRow_15 rfl ?_
      refine V_iload_n (i := 1) C dX3_isDryRow_17 rfl rfl ?_
      refine V_callV (n := 2) C (c_cellAt1 r hd hp hi hy) dX3_isDryRow_18 gX3_isDryRow_X3_cellAt rfl (by first | assumption | exact hset_s _ _ _) rfl (by decide +kernel) rfl rfl (by exact Nat.le_of_ble_eq_true rfl) ⟨Nat.le_of_ble_eq_true rfl, Nat.le_of_ble_eq_true rfl⟩ ⟨Nat.le_of_ble_eq_true rfl, Nat.le_of_ble_eq_true rfl⟩ (fun v9 h9 hr9 => ?_)
      obtain ⟨rfl, rfl⟩ := hr9
      refine V_astore5 C dX3_isDryRow_21 (by decide) ?_
      refine V_aload C dX3_isDryRow_23 rfl ?_
      refine V_ifnull C dX3_isDryRow_25 ?_
      refine V_aload C dX3_isDryRow_28 rfl ?_
      refine V_callV (n := 0) C (c_isDone hc) dX3_isDryRow_30 gX3_isDryRow_X0_isDone rfl (by first | assumption | exact hset_s _ _ _) rfl (by decide +kernel) rfl rfl (by exact Nat.le_of_ble_eq_true rfl) ⟨Nat.le_of_ble_eq_true rfl, Nat.le_of_ble_eq_true rfl⟩ ⟨Nat.le_of_ble_eq_true rfl, Nat.le_of_ble_eq_true rfl⟩ (fun v9 h9 hr9 => ?_)
      obtain ⟨rfl, rfl⟩ := hr9
      refine V_if_ne (tgt := 38) C dX3_isDryRow_33 (by decide) (fun _ => ?_) (fun z9 => absurd z9 (fun z => (ite0.mp z) hdi))
      refine V_aload C dX3_isDryRow_38 rfl ?_
      refine V_get (ci := 0) (CN := RX0) (T := TX0) (N := 10) C dX3_isDryRow_40 (by first | assumption | exact hset_s _ _ _) rfl 2 (by decide) flX3_isDryRow_30 wiX3_isDryRow_X0 (by rfl) ?_
      refine V_iconst (v := 2) C dX3_isDryRow_43 (by decide) ?_
      refine V_icmp_ne (tgt := 66) C dX3_isDryRow_44 (by decide) (fun c44 => ?_) (fun c44 => ?_)
      · refine V_iinc4 (v := nI (i + 1)) C dX3_isDryRow_66 (nI_1 _) (by decide) ?_
        refine V_goto (tgt := 5) C dX3_isDryRow_69 (by decide) ?_
        exact V_wk (by simp [lle, ltS, hb, va_rf, c44]) (ih _ _ ⟨rfl, rfl⟩)
      · refine V_aload_n (i := 3) C dX3_isDryRow_47 rfl rfl ?_
        refine V_ifnull C dX3_isDryRow_48 ?_
        refine V_aload C dX3_isDryRow_51 rfl ?_
        refine V_get (ci := 0) (CN := RX0) (T := TX0) (N := 10) C dX3_isDryRow_53 (by first | assumption | exact hset_s _ _ _) rfl 8 (by decide) flX3_isDryRow_118 wiX3_isDryRow_X0 (by rfl) ?_
        refine V_aload_n (i := 3) C dX3_isDryRow_56 rfl rfl ?_
        refine V_get (ci := 0) (CN := RX0) (T := TX0) (N := 10) C dX3_isDryRow_57 (by first | assumption | exact hset_s _ _ _) rfl 8 (by decide) flX3_isDryRow_118 wiX3_isDryRow_X0 (by rfl) ?_
        refine V_icmp_lt (tgt := 66) C dX3_isDryRow_60 (by decide) (fun c60 => ?_) (fun c60 => ?_)
        · have c60 := Int32.not_le.mpr c60
          refine V_iinc4 (v := nI (i + 1)) C dX3_isDryRow_66 (nI_1 _) (by decide) ?_
          refine V_goto (tgt := 5) C dX3_isDryRow_69 (by decide) ?_
          exact V_wk (by simp [lle, ltS, hb, va_rf, c44, c60]) (ih _ _ ⟨rfl, rfl⟩)
        · have c60 := Int32.not_lt.mp c60
          refine V_aload C dX3_isDryRow_63 rfl ?_
          refine V_astore3 C dX3_isDryRow_65 (by decide) ?_
          refine V_iinc4 (v := nI (i + 1)) C dX3_isDryRow_66 (nI_1 _) (by decide) ?_
          refine V_goto (tgt := 5) C dX3_isDryRow_69 (by decide) ?_
          exact V_wk (by simp [lle, ltS, hb, va_rf, c44, c60]) (ih _ _ ⟨rfl, rfl⟩)
  · rintro h2 ls2 ⟨rfl, rfl⟩
    cases hb : ltS G y (xwd X p) (xwd X p) with
    | none =>
      refine V_iload C dX3_isDryRow_5 rfl ?_
      refine V_aload_n (i := 0) C dX3_isDryRow_7 rfl rfl ?_
      refine V_get (ci := 3) (CN := RX3) (T := TX3) (N := 4) C dX3_isDryRow_8 (by first | assumption | exact hset_s _ _ _) rfl 1 (by decide) flX3_isDryRow_15 wiX3_isDryRow_X3 (by rfl) ?_
      refine V_icmp_ge (tgt := 72) C dX3_isDryRow_11 (by decide) (fun _ => ?_) (fun z9 => absurd (nI_le (Nat.le_refl _) (by omega)) z9)
      refine V_aload_nN (i := 3) C dX3_isDryRow_72 rfl rfl ?_
      refine V_ifnullN (tgt := 84) C dX3_isDryRow_73 (by decide) ?_
      refine V_iconst (v := 1) C dX3_isDryRow_84 (by decide) ?_
      refine V_goto (tgt := 89) C dX3_isDryRow_85 (by decide) ?_
      exact V_zret C dX3_isDryRow_89 hr (by rfl) ⟨Or.inl ⟨rfl, fun j z => by cases z⟩, rfl⟩ (by exact Nat.le_of_ble_eq_true rfl) (by exact Nat.le_of_ble_eq_true rfl)
    | some j =>
      obtain ⟨i2, hi2, rfl⟩ := ltS_in hb
      have hk2 := at_lt hi2 hy
      have hc2 := r.pcell hp hk2
      refine V_iload C dX3_isDryRow_5 rfl ?_
      refine V_aload_n (i := 0) C dX3_isDryRow_7 rfl rfl ?_
      refine V_get (ci := 3) (CN := RX3) (T := TX3) (N := 4) C dX3_isDryRow_8 (by first | assumption | exact hset_s _ _ _) rfl 1 (by decide) flX3_isDryRow_15 wiX3_isDryRow_X3 (by rfl) ?_
      refine V_icmp_ge (tgt := 72) C dX3_isDryRow_11 (by decide) (fun _ => ?_) (fun z9 => absurd (nI_le (Nat.le_refl _) (by omega)) z9)
      refine V_aload_n (i := 3) C dX3_isDryRow_72 rfl rfl ?_
      refine V_ifnull C dX3_isDryRow_73 ?_
      refine V_iload_n (i := 2) C dX3_isDryRow_76 rfl rfl ?_
      refine V_aload_n (i := 3) C dX3_isDryRow_77 rfl rfl ?_
      refine V_get (ci := 0) (CN := RX0) (T := TX0) (N := 10) C dX3_isDryRow_78 (by first | assumption | exact hset_s _ _ _) rfl 9 (by decide) flX3_isDryRow_121 wiX3_isDryRow_X0 (by rfl) ?_
      refine V_icmp_lt (tgt := 88) C dX3_isDryRow_81 (by decide) (fun c81 => ?_) (fun c81 => ?_)
      · have c81 : ¬ dryV G (some (y * xwd X p + i2)) u := fun z => absurd (z _ rfl) (Int32.not_le.mpr c81)
        refine V_iconst (v := 0) C dX3_isDryRow_88 (by decide) ?_
        exact V_zret C dX3_isDryRow_89 hr (by rfl) ⟨by first | exact Or.inl ⟨rfl, c81⟩ | exact Or.inr ⟨rfl, c81⟩, rfl⟩ (by exact Nat.le_of_ble_eq_true rfl) (by exact Nat.le_of_ble_eq_true rfl)
      · have c81 : dryV G (some (y * xwd X p + i2)) u := fun j z => by cases z; exact Int32.not_lt.mp c81
        refine V_iconst (v := 1) C dX3_isDryRow_84 (by decide) ?_
        refine V_goto (tgt := 89) C dX3_isDryRow_85 (by decide) ?_
        exact V_zret C dX3_isDryRow_89 hr (by rfl) ⟨by first | exact Or.inl ⟨rfl, c81⟩ | exact Or.inr ⟨rfl, c81⟩, rfl⟩ (by exact Nat.le_of_ble_eq_true rfl) (by exact Nat.le_of_ble_eq_true rfl)
set_option maxHeartbeats 4000000 in
set_option maxRecDepth 100000 in
theorem c_edge0 {q : Nat} : Mt l D cA bs yX3_edgeBetween wsX3_edgeBetween (rmk 1 0 0) [.ref q, .null] h (fun v h2 => v = some (.float FP.fconst0) ∧ h2 = h) := by
  refine Mt_of (cc := cX3_edgeBetween) (maxL := 4) (ret := (some .float)) (own := RX3) [some (.ref q), some (.null), none, none] rfl (by decide +kernel) rfl rfl (by exact Nat.le_of_ble_eq_true rfl) rfl ?_
  intro p9 e9 s9 m9 args9 below9 meth9 c9 C hr hnm
  refine V_aload_nN (i := 1) C dX3_edgeBetween_0 rfl rfl ?_
  refine V_ifnullN (tgt := 18) C dX3_edgeBetween_1 (by decide) ?_
  refine V_fconst0 C dX3_edgeBetween_18 ?_
  exact V_fret C dX3_edgeBetween_19 hr ⟨rfl, rfl⟩ (by exact Nat.le_of_ble_eq_true rfl) (by exact Nat.le_of_ble_eq_true rfl)
set_option maxHeartbeats 4000000 in
set_option maxRecDepth 100000 in
theorem c_edge1 {i j : Nat} (r : XR cA Z (xpl X p L G) ta h) (hp : p < xnp X) (hI : PI (xnl X) (xN X p) L G) (hi : i < xN X p) (hj : j < xN X p) : Mt l D cA bs yX3_edgeBetween wsX3_edgeBetween (rmk 1 0 0) [.ref (Z (p + 6) i), .ref (Z (p + 6) j)] h (fun v h2 => v = some (.float (edg L (G i) (G j))) ∧ h2 = h) := by
  have hc := r.pcell hp hi
  have hc2 := r.pcell hp hj
  obtain ⟨vi, hvi, hwi⟩ := (hI.1 i hi).2.2
  obtain ⟨vj, hvj, hwj⟩ := (hI.1 j hj).2.2
  have fi : fb (FP.i2f (cwn (G i))) 255 := by rw [hwi]; exact fb_i2f hvi (by decide)
  have fj : fb (FP.i2f (cwn (G j))) 255 := by rw [hwj]; exact fb_i2f hvj (by decide)
  have si : fb (stn L (G i)) 255 := by
    unfold stn
    split
    · exact fi
    · rename_i b hb
      exact hI.2 b ((hI.1 i hi).1 b hb)
  have sj : fb (stn L (G j)) 255 := by
    unfold stn
    split
    · exact fj
    · rename_i b hb
      exact hI.2 b ((hI.1 j hj).1 b hb)
  have f1 : fb (FP.fsub (stn L (G i)) (stn L (G j))) 510 := fb_sub si sj (by decide) (by decide)
  have f2 : fb (FP.fsub (FP.i2f (cwn (G i))) (FP.i2f (cwn (G j)))) 510 := fb_sub fi fj (by decide) (by decide)
  have n1 := fb_n32 f1
  have n2 := fb_n32 f2
  have n3 := fb_n32 (fb_sub (C := 1020) f1 f2 (by decide) (by decide))
  have ci : Mt l D cA bs yX0_stoneTone wsX0_stoneTone (rmk 0 0 0) [.ref (Z (p + 6) i)] h (fun v h2 => v = some (.float (stn L (G i))) ∧ h2 = h) := by
    unfold stn
    split
    · rename_i hb
      rw [cellC_e (d := G i) rfl hb] at hc
      exact c_stoneTone0 hc
    · rename_i b hb
      rw [cellC_e (d := G i) rfl hb] at hc
      exact c_stoneTone1 hc (r.plot ((hI.1 i hi).1 b hb))
  have cj : Mt l D cA bs yX0_stoneTone wsX0_stoneTone (rmk 0 0 0) [.ref (Z (p + 6) j)] h (fun v h2 => v = some (.float (stn L (G j))) ∧ h2 = h) := by
    unfold stn
    split
    · rename_i hb
      rw [cellC_e (d := G j) rfl hb] at hc2
      exact c_stoneTone0 hc2
    · rename_i b hb
      rw [cellC_e (d := G j) rfl hb] at hc2
      exact c_stoneTone1 hc2 (r.plot ((hI.1 j hj).1 b hb))
  refine Mt_of (cc := cX3_edgeBetween) (maxL := 4) (ret := (some .float)) (own := RX3) [some (.ref (Z (p + 6) i)), some (.ref (Z (p + 6) j)), none, none] rfl (by decide +kernel) rfl rfl (by exact Nat.le_of_ble_eq_true rfl) rfl ?_
  intro p9 e9 s9 m9 args9 below9 meth9 c9 C hr hnm
  refine V_aload_n (i := 1) C dX3_edgeBetween_0 rfl rfl ?_
  refine V_ifnull C dX3_edgeBetween_1 ?_
  refine V_aload_n (i := 0) C dX3_edgeBetween_4 rfl rfl ?_
  refine V_get (ci := 0) (CN := RX0) (T := TX0) (N := 10) C dX3_edgeBetween_5 (by first | assumption | exact hset_s _ _ _) rfl 2 (by decide) flX3_edgeBetween_30 wiX3_edgeBetween_X0 (by rfl) ?_
  refine V_if_eq (tgt := 18) C dX3_edgeBetween_8 (by decide) (fun c8 => ?_) (fun c8 => ?_)
  · have c8 : (G i).1 = 0 := c8
    refine V_fconst0 C dX3_edgeBetween_18 ?_
    exact V_fret C dX3_edgeBetween_19 hr ⟨by simp [edg, c8], rfl⟩ (by exact Nat.le_of_ble_eq_true rfl) (by exact Nat.le_of_ble_eq_true rfl)
  · have c8 : ¬ (G i).1 = 0 := c8
    refine V_aload_n (i := 1) C dX3_edgeBetween_11 rfl rfl ?_
    refine V_get (ci := 0) (CN := RX0) (T := TX0) (N := 10) C dX3_edgeBetween_12 (by first | assumption | exact hset_s _ _ _) rfl 2 (by decide) flX3_edgeBetween_30 wiX3_edgeBetween_X0 (by rfl) ?_
    refine V_if_ne (tgt := 20) C dX3_edgeBetween_15 (by decide) (fun c15 => ?_) (fun c15 => ?_)
    · have c15 : ¬ (G j).1 = 0 := c15
      refine V_aload_n (i := 0) C dX3_edgeBetween_20 rfl rfl ?_
      refine V_callV (n := 0) C (ci) dX3_edgeBetween_21 gX3_edgeBetween_X0_stoneTone rfl (by first | assumption | exact hset_s _ _ _) rfl (by decide +kernel) rfl rfl (by exact Nat.le_of_ble_eq_true rfl) ⟨Nat.le_of_ble_eq_true rfl, Nat.le_of_ble_eq_true rfl⟩ ⟨Nat.le_of_ble_eq_true rfl, Nat.le_of_ble_eq_true rfl⟩ (fun v9 h9 hr9 => ?_)
      obtain ⟨rfl, z9⟩ := hr9
      have z9 := z9.symm
      subst z9
      refine V_aload_n (i := 1) C dX3_edgeBetween_24 rfl rfl ?_
      refine V_callV (n := 0) C (cj) dX3_edgeBetween_25 gX3_edgeBetween_X0_stoneTone rfl (by first | assumption | exact hset_s _ _ _) rfl (by decide +kernel) rfl rfl (by exact Nat.le_of_ble_eq_true rfl) ⟨Nat.le_of_ble_eq_true rfl, Nat.le_of_ble_eq_true rfl⟩ ⟨Nat.le_of_ble_eq_true rfl, Nat.le_of_ble_eq_true rfl⟩ (fun v9 h9 hr9 => ?_)
      obtain ⟨rfl, z9⟩ := hr9
      have z9 := z9.symm
      subst z9
      refine V_fsub C dX3_edgeBetween_28 (by assumption) ?_
      refine V_fstore2 C dX3_edgeBetween_29 (by decide) ?_
      refine V_aload_n (i := 0) C dX3_edgeBetween_30 rfl rfl ?_
      refine V_get (ci := 0) (CN := RX0) (T := TX0) (N := 10) C dX3_edgeBetween_31 (by first | assumption | exact hset_s _ _ _) rfl 4 (by decide) flX3_edgeBetween_39 wiX3_edgeBetween_X0 (by rfl) ?_
      refine V_i2f C dX3_edgeBetween_34 ?_
      refine V_aload_n (i := 1) C dX3_edgeBetween_35 rfl rfl ?_
      refine V_get (ci := 0) (CN := RX0) (T := TX0) (N := 10) C dX3_edgeBetween_36 (by first | assumption | exact hset_s _ _ _) rfl 4 (by decide) flX3_edgeBetween_39 wiX3_edgeBetween_X0 (by rfl) ?_
      refine V_i2f C dX3_edgeBetween_39 ?_
      refine V_fsub C dX3_edgeBetween_40 (by assumption) ?_
      refine V_fstore3 C dX3_edgeBetween_41 (by decide) ?_
      refine V_fload_n (i := 2) C dX3_edgeBetween_42 rfl rfl ?_
      refine V_fload_n (i := 3) C dX3_edgeBetween_43 rfl rfl ?_
      refine V_callS (n := 2) C (c_distance n3) dX3_edgeBetween_44 gX3_edgeBetween_X3_distance rfl (by decide +kernel) rfl rfl (by exact Nat.le_of_ble_eq_true rfl) ⟨Nat.le_of_ble_eq_true rfl, Nat.le_of_ble_eq_true rfl⟩ ⟨Nat.le_of_ble_eq_true rfl, Nat.le_of_ble_eq_true rfl⟩ (fun v9 h9 hr9 => ?_)
      obtain ⟨rfl, z9⟩ := hr9
      have z9 := z9.symm
      subst z9
      exact V_fret C dX3_edgeBetween_47 hr ⟨by unfold edg; rw [if_neg (by rintro (z | z) <;> contradiction)], rfl⟩ (by exact Nat.le_of_ble_eq_true rfl) (by exact Nat.le_of_ble_eq_true rfl)
    · have c15 : (G j).1 = 0 := c15
      refine V_fconst0 C dX3_edgeBetween_18 ?_
      exact V_fret C dX3_edgeBetween_19 hr ⟨by simp [edg, c8, c15], rfl⟩ (by exact Nat.le_of_ble_eq_true rfl) (by exact Nat.le_of_ble_eq_true rfl)
set_option maxHeartbeats 4000000 in
set_option maxRecDepth 100000 in
theorem c_greatest (r : XR cA Z (xpl X p L G) ta h) (hd : xdim X) (hp : p < xnp X) (hI : PI (xnl X) (xN X p) L G) : Mt l D cA bs yX3_greatestEdge wsX3_greatestEdge (rmk 2 0 0) [.ref (Z 2 p)] h (fun v h2 => v = some (.float (grS (xwd X p) (xhg X p) L G (xN X p))) ∧ h2 = h) := by
  obtain ⟨⟨w1, w2⟩, g1, g2⟩ := hd.2.2 p hp
  have hN := (hd.N hp).2
  have hpic := r.ppic hp
  have hcs := r.pcells hp
  have hcell : ∀ (h3 : hE) (x y : Int32) (o : Option Nat), h3 = h → (o = none → ¬ isAt (xwd X p) (xhg X p) x y) → (∀ j, o = some j → ∃ a b, a < xwd X p ∧ b < xhg X p ∧ x = nI a ∧ y = nI b ∧ j = b * xwd X p + a) → Mt l D cA bs yX3_cellAt wsX3_cellAt (rmk 0 0 0) [.ref (Z 2 p), .int x, .int y] h3 (fun v h2 => v = some (va_rf (o.map (Z (p + 6)))) ∧ h2 = h3) := by
    intro h3 x y o e1 e2 e3
    subst e1
    cases o with
    | none => exact c_cellAt0 r hp (e2 rfl)
    | some j =>
      obtain ⟨a, b, ha, hb, rfl, rfl, rfl⟩ := e3 j rfl
      exact c_cellAt1 r hd hp ha hb
  refine Mt_of (cc := cX3_greatestEdge) (maxL := 9) (ret := (some .float)) (own := RX3) [some (.ref (Z 2 p)), none, none, none, none, none, none, none, none] rfl (by decide +kernel) rfl rfl (by exact Nat.le_of_ble_eq_true rfl) rfl ?_
  intro p9 e9 s9 m9 args9 below9 meth9 c9 C hr hnm
  refine V_fconst0 C dX3_greatestEdge_0 ?_
  refine V_fstore1 C dX3_greatestEdge_1 (by decide) ?_
  refine V_aload_n (i := 0) C dX3_greatestEdge_2 rfl rfl ?_
  refine V_get (ci := 3) (CN := RX3) (T := TX3) (N := 4) C dX3_greatestEdge_3 (by first | assumption | exact hset_s _ _ _) rfl 3 (by decide) flX3_greatestEdge_23 wiX3_greatestEdge_X3 (by rfl) ?_
  refine V_astore2 C dX3_greatestEdge_6 (by decide) ?_
  refine V_aload_n (i := 2) C dX3_greatestEdge_7 rfl rfl ?_
  refine V_alen C dX3_greatestEdge_8 (by first | assumption | exact hset_s _ _ _) (by rfl) (by rfl) ?_
  refine V_istore3 C dX3_greatestEdge_9 (by decide) ?_
  refine V_iconst (v := 0) C dX3_greatestEdge_10 (by decide) ?_
  refine V_istore4 C dX3_greatestEdge_11 (by decide) ?_
  refine V_for (xN X p) (fun i h2 ls2 => h2 = h ∧ ls2 = [some (.ref (Z 2 p)), some (.float (grS (xwd X p) (xhg X p) L G i)), some (.ref (Z 3 p)), some (.int (nI (xN X p))), some (.int (nI i)), none, none, none, none]) ?_ ?_ 0 (Nat.zero_le _) ⟨rfl, rfl⟩
  · rintro i h2 ls2 hi ⟨z0, rfl⟩ ih
    have z0 := z0.symm
    subst z0
    have hc := r.pcell hp hi
    have hm := k_mod (k := i) w1
    have hv := k_div hi
    have eR : ∃ o : Option Nat, (o = none → ¬ isAt (xwd X p) (xhg X p) (nI (i % xwd X p) + 1) (nI (i / xwd X p))) ∧ (∀ j, o = some j → ∃ a b, a < xwd X p ∧ b < xhg X p ∧ nI (i % xwd X p) + 1 = nI a ∧ nI (i / xwd X p) = nI b ∧ j = b * xwd X p + a) ∧ ∀ h3 : hE, h3 = h → Mt l D cA bs yX3_edgeBetween wsX3_edgeBetween (rmk 1 0 0) [.ref (Z (p + 6) i), va_rf (o.map (Z (p + 6)))] h3 (fun v h2 => v = some (.float (edR (xwd X p) L G i)) ∧ h2 = h3) := by
      by_cases hx : i % xwd X p + 1 < xwd X p
      · refine ⟨some (i / xwd X p * xwd X p + (i % xwd X p + 1)), fun z => (nomatch z), fun j z => ⟨i % xwd X p + 1, i / xwd X p, hx, hv, nI_1 _, rfl, (Option.some.inj z).symm⟩, fun h3 e => ?_⟩
        subst e
        unfold edR
        rw [if_pos hx]
        exact c_edge1 r hp hI hi (at_lt hx hv)
      · refine ⟨none, fun _ z => ?_, fun j z => (nomatch z), fun h3 e => ?_⟩
        · have := z.2.1
          rw [nI_1] at this
          exact nI_nlt (by omega) (by omega) this
        · unfold edR
          rw [if_neg hx]
          exact c_edge0
    have eB : ∃ o : Option Nat, (o = none → ¬ isAt (xwd X p) (xhg X p) (nI (i % xwd X p)) (nI (i / xwd X p) + 1)) ∧ (∀ j, o = some j → ∃ a b, a < xwd X p ∧ b < xhg X p ∧ nI (i % xwd X p) = nI a ∧ nI (i / xwd X p) + 1 = nI b ∧ j = b * xwd X p + a) ∧ ∀ h3 : hE, h3 = h → Mt l D cA bs yX3_edgeBetween wsX3_edgeBetween (rmk 1 0 0) [.ref (Z (p + 6) i), va_rf (o.map (Z (p + 6)))] h3 (fun v h2 => v = some (.float (edB (xwd X p) (xhg X p) L G i)) ∧ h2 = h3) := by
      by_cases hx : i / xwd X p + 1 < xhg X p
      · refine ⟨some ((i / xwd X p + 1) * xwd X p + i % xwd X p), fun z => (nomatch z), fun j z => ⟨i % xwd X p, i / xwd X p + 1, hm, hx, rfl, nI_1 _, (Option.some.inj z).symm⟩, fun h3 e => ?_⟩
        subst e
        unfold edB
        rw [if_pos hx]
        exact c_edge1 r hp hI hi (at_lt hm hx)
      · refine ⟨none, fun _ z => ?_, fun j z => (nomatch z), fun h3 e => ?_⟩
        · have := z.2.2.2
          rw [nI_1] at this
          exact nI_nlt (by omega) (by omega) this
        · unfold edB
          rw [if_neg hx]
          exact c_edge0
    obtain ⟨oR, R1, R2, R3⟩ := eR
    obtain ⟨oB, B1, B2, B3⟩ := eB
    have cR := R3 h rfl
    have cB := B3 h rfl
    have aR := hcell h _ _ oR rfl R1 R2
    have aB := hcell h _ _ oB rfl B1 B2
    have vR : (va_rf (oR.map (Z (p + 6)))).category = 1 := by cases oR <;> rfl
    have vB : (va_rf (oB.map (Z (p + 6)))).category = 1 := by cases oB <;> rfl
    generalize va_rf (oR.map (Z (p + 6))) = qR at cR aR vR
    generalize va_rf (oB.map (Z (p + 6))) = qB at cB aB vB
    refine V_iload C dX3_greatestEdge_13 rfl ?_
    refine V_iload_n (i := 3) C dX3_greatestEdge_15 rfl rfl ?_
    refine V_icmp_ge (tgt := 104) C dX3_greatestEdge_16 (by decide) (fun z9 => absurd z9 (nI_ge hi (by omega))) (fun _ => ?_)
    refine V_aload_n (i := 2) C dX3_greatestEdge_19 rfl rfl ?_
    refine V_iload C dX3_greatestEdge_20 rfl ?_
    refine V_aaldS C dX3_greatestEdge_22 (by first | assumption | exact hset_s _ _ _) (by rfl) rfl hi (Nat.le_trans hN (by decide)) (if_pos hi) ?_
    refine V_astore5 C dX3_greatestEdge_23 (by decide) ?_
    refine V_aload C dX3_greatestEdge_25 rfl ?_
    refine V_aload_n (i := 0) C dX3_greatestEdge_27 rfl rfl ?_
    refine V_aload C dX3_greatestEdge_28 rfl ?_
    refine V_get (ci := 0) (CN := RX0) (T := TX0) (N := 10) C dX3_greatestEdge_30 (by first | assumption | exact hset_s _ _ _) rfl 0 (by decide) flX3_greatestEdge_78 wiX3_greatestEdge_X0 (by rfl) ?_
    refine V_iconst (v := 1) C dX3_greatestEdge_33 (by decide) ?_
    refine V_iadd C dX3_greatestEdge_34 ?_
    refine V_aload C dX3_greatestEdge_35 rfl ?_
    refine V_get (ci := 0) (CN := RX0) (T := TX0) (N := 10) C dX3_greatestEdge_37 (by first | assumption | exact hset_s _ _ _) rfl 1 (by decide) flX3_greatestEdge_81 wiX3_greatestEdge_X0 (by rfl) ?_
    refine V_callV (n := 2) C (aR) dX3_greatestEdge_40 gX3_greatestEdge_X3_cellAt rfl (by first | assumption | exact hset_s _ _ _) rfl (by decide +kernel) rfl rfl (by exact Nat.le_of_ble_eq_true rfl) ⟨Nat.le_of_ble_eq_true rfl, Nat.le_of_ble_eq_true rfl⟩ ⟨Nat.le_of_ble_eq_true rfl, Nat.le_of_ble_eq_true rfl⟩ (fun v9 h9 hr9 => ?_)
    obtain ⟨rfl, z9⟩ := hr9
    have z9 := z9.symm
    subst z9
    refine V_callS (n := 2) C (cR) dX3_greatestEdge_43 gX3_greatestEdge_X3_edgeBetween rfl (by decide +kernel) rfl rfl (by exact Nat.le_of_ble_eq_true rfl) ⟨Nat.le_of_ble_eq_true rfl, Nat.le_of_ble_eq_true rfl⟩ ⟨Nat.le_of_ble_eq_true rfl, Nat.le_of_ble_eq_true rfl⟩ (fun v9 h9 hr9 => ?_)
    obtain ⟨rfl, z9⟩ := hr9
    have z9 := z9.symm
    subst z9
    refine V_fstore6 C dX3_greatestEdge_46 (by decide) ?_
    refine V_aload C dX3_greatestEdge_48 rfl ?_
    refine V_aload_n (i := 0) C dX3_greatestEdge_50 rfl rfl ?_
    refine V_aload C dX3_greatestEdge_51 rfl ?_
    refine V_get (ci := 0) (CN := RX0) (T := TX0) (N := 10) C dX3_greatestEdge_53 (by first | assumption | exact hset_s _ _ _) rfl 0 (by decide) flX3_greatestEdge_78 wiX3_greatestEdge_X0 (by rfl) ?_
    refine V_aload C dX3_greatestEdge_56 rfl ?_
    refine V_get (ci := 0) (CN := RX0) (T := TX0) (N := 10) C dX3_greatestEdge_58 (by first | assumption | exact hset_s _ _ _) rfl 1 (by decide) flX3_greatestEdge_81 wiX3_greatestEdge_X0 (by rfl) ?_
    refine V_iconst (v := 1) C dX3_greatestEdge_61 (by decide) ?_
    refine V_iadd C dX3_greatestEdge_62 ?_
    refine V_callV (n := 2) C (aB) dX3_greatestEdge_63 gX3_greatestEdge_X3_cellAt rfl (by first | assumption | exact hset_s _ _ _) rfl (by decide +kernel) rfl rfl (by exact Nat.le_of_ble_eq_true rfl) ⟨Nat.le_of_ble_eq_true rfl, Nat.le_of_ble_eq_true rfl⟩ ⟨Nat.le_of_ble_eq_true rfl, Nat.le_of_ble_eq_true rfl⟩ (fun v9 h9 hr9 => ?_)
    obtain ⟨rfl, z9⟩ := hr9
    have z9 := z9.symm
    subst z9
    refine V_callS (n := 2) C (cB) dX3_greatestEdge_66 gX3_greatestEdge_X3_edgeBetween rfl (by decide +kernel) rfl rfl (by exact Nat.le_of_ble_eq_true rfl) ⟨Nat.le_of_ble_eq_true rfl, Nat.le_of_ble_eq_true rfl⟩ ⟨Nat.le_of_ble_eq_true rfl, Nat.le_of_ble_eq_true rfl⟩ (fun v9 h9 hr9 => ?_)
    obtain ⟨rfl, z9⟩ := hr9
    have z9 := z9.symm
    subst z9
    refine V_fstore7 C dX3_greatestEdge_69 (by decide) ?_
    refine V_fload C dX3_greatestEdge_71 rfl ?_
    refine V_fload C dX3_greatestEdge_73 rfl ?_
    refine V_fcmp C dX3_greatestEdge_75 ?_
    refine V_if_lt (tgt := 84) C dX3_greatestEdge_76 (by decide) (fun c76 => ?_) (fun c76 => ?_)
    · have e76 : fmx (edR (xwd X p) L G i) (edB (xwd X p) (xhg X p) L G i) = edB (xwd X p) (xhg X p) L G i := if_pos (cv_llt.mp c76)
      refine V_fload C dX3_greatestEdge_84 rfl ?_
      refine V_fstore8 C dX3_greatestEdge_86 (by decide) ?_
      refine V_fload C dX3_greatestEdge_88 rfl ?_
      refine V_fload_n (i := 1) C dX3_greatestEdge_90 rfl rfl ?_
      refine V_fcmp C dX3_greatestEdge_91 ?_
      refine V_if_le (tgt := 98) C dX3_greatestEdge_92 (by decide) (fun c92 => ?_) (fun c92 => ?_)
      · have c92 := cv_lle.mp c92
        refine V_iinc4 (v := nI (i + 1)) C dX3_greatestEdge_98 (nI_1 _) (by decide) ?_
        refine V_goto (tgt := 13) C dX3_greatestEdge_101 (by decide) ?_
        exact V_wk (by simp [lle, grS, c92, e76]) (ih _ _ ⟨rfl, rfl⟩)
      · have c92 := Classical.not_not.mp (fun z => c92 (cv_lle.mpr z))
        refine V_fload C dX3_greatestEdge_95 rfl ?_
        refine V_fstore1 C dX3_greatestEdge_97 (by decide) ?_
        refine V_iinc4 (v := nI (i + 1)) C dX3_greatestEdge_98 (nI_1 _) (by decide) ?_
        refine V_goto (tgt := 13) C dX3_greatestEdge_101 (by decide) ?_
        exact V_wk (by simp [lle, grS, c92, e76]) (ih _ _ ⟨rfl, rfl⟩)
    · have e76 : fmx (edR (xwd X p) L G i) (edB (xwd X p) (xhg X p) L G i) = edR (xwd X p) L G i := if_neg (fun z => c76 (cv_llt.mpr z))
      refine V_fload C dX3_greatestEdge_79 rfl ?_
      refine V_goto (tgt := 86) C dX3_greatestEdge_81 (by decide) ?_
      refine V_fstore8 C dX3_greatestEdge_86 (by decide) ?_
      refine V_fload C dX3_greatestEdge_88 rfl ?_
      refine V_fload_n (i := 1) C dX3_greatestEdge_90 rfl rfl ?_
      refine V_fcmp C dX3_greatestEdge_91 ?_
      refine V_if_le (tgt := 98) C dX3_greatestEdge_92 (by decide) (fun c92 => ?_) (fun c92 => ?_)
      · have c92 := cv_lle.mp c92
        refine V_iinc4 (v := nI (i + 1)) C dX3_greatestEdge_98 (nI_1 _) (by decide) ?_
        refine V_goto (tgt := 13) C dX3_greatestEdge_101 (by decide) ?_
        exact V_wk (by simp [lle, grS, c92, e76]) (ih _ _ ⟨rfl, rfl⟩)
      · have c92 := Classical.not_not.mp (fun z => c92 (cv_lle.mpr z))
        refine V_fload C dX3_greatestEdge_95 rfl ?_
        refine V_fstore1 C dX3_greatestEdge_97 (by decide) ?_
        refine V_iinc4 (v := nI (i + 1)) C dX3_greatestEdge_98 (nI_1 _) (by decide) ?_
        refine V_goto (tgt := 13) C dX3_greatestEdge_101 (by decide) ?_
        exact V_wk (by simp [lle, grS, c92, e76]) (ih _ _ ⟨rfl, rfl⟩)
  · rintro h2 ls2 ⟨rfl, rfl⟩
    refine V_iload C dX3_greatestEdge_13 rfl ?_
    refine V_iload_n (i := 3) C dX3_greatestEdge_15 rfl rfl ?_
    refine V_icmp_ge (tgt := 104) C dX3_greatestEdge_16 (by decide) (fun _ => ?_) (fun z9 => absurd (nI_le (Nat.le_refl _) (by omega)) z9)
    refine V_fload_n (i := 1) C dX3_greatestEdge_104 rfl rfl ?_
    exact V_fret C dX3_greatestEdge_105 hr ⟨rfl, rfl⟩ (by exact Nat.le_of_ble_eq_true rfl) (by exact Nat.le_of_ble_eq_true rfl)
end PIC5
