/-! the calls: lot, comes, picture, cell, old, fill
-/
theorem fp_div2 {x : UInt32} {c : Nat} (hx : fp x (255 * c)) (h1 : 1 ≤ c) (h2 : c ≤ 1000) : fp (FP.fdiv x (FP.i2f (nI c))) 255 := by
  obtain ⟨s, cx, qx, hv⟩ := hx.1.1
  have hs := hx.2
  rw [hv] at hs
  have hs : s = false := hs
  subst hs
  have hy := fp_i2f (n := c) (C := c) (Nat.le_refl _) (by omega)
  have hyz := FP.Core.FInt_zval (fb_whole (n := c) (by omega))
  obtain ⟨t, d, r, hw⟩ := hy.1.1
  have ht := hy.2
  rw [hw] at ht
  have ht : t = false := ht
  subst ht
  rw [hw] at hyz
  have hfx := FP.Core.val32_fits x
  rw [hv] at hfx
  have hfy := FP.Core.val32_fits (FP.i2f (nI c))
  rw [hw] at hfy
  have hxz := hx.1.2
  rw [hv] at hxz
  have hqm : FP.Core.b32.qmin = -149 := FP.Core.qmin_b32
  have hq1 : -149 ≤ qx := by rw [← hqm]; exact hfx.2.1
  have hr1 : -149 ≤ r := by rw [← hqm]; exact hfy.2.1
  have hyz2 : d * 2 ^ (r - -149).toNat = c * FP.Core.one32 := by
    have h3 : ((d * 2 ^ (r - FP.Core.b32.qmin).toNat : Nat) : Int) = (c : Int) * (FP.Core.one32 : Int) := hyz
    rw [hqm, ← Int.natCast_mul] at h3
    exact Int.ofNat.inj h3
  have hone : 0 < FP.Core.one32 := FP.Core.one32_pos
  have hd0 : 0 < d := by
    rcases Nat.eq_zero_or_pos d with z | z
    · subst z
      rw [Nat.zero_mul] at hyz2
      have : 0 < c * FP.Core.one32 := Nat.mul_pos h1 hone
      omega
    · exact z
  have hr : FP.Core.val32 (FP.fdiv x (FP.i2f (nI c))) = FP.Core.roundRatio FP.Core.b32 false cx d (qx - r) := by
    rw [FP.fdiv_core, FP.Core.val32_fdiv, hv, hw]
    show (if d = 0 then _ else FP.Core.roundRatio FP.Core.b32 (false != false) cx d (qx - r)) = _
    rw [if_neg (by omega), Bool.bne_false]
  obtain ⟨V, v1, v2, v3⟩ := fb_hi (C := 255) (by decide)
  have hVz : 255 * FP.Core.one32 ≤ FP.Core.zmag FP.Core.b32 V := by
    have h3 := v3
    unfold FP.Core.zval FP.Core.signed at h3
    split at h3 <;> omega
  have hVz2 : FP.Core.zmag FP.Core.b32 V ≤ 255 * FP.Core.one32 := by
    have h3 := v3
    unfold FP.Core.zval FP.Core.signed at h3
    split at h3 <;> omega
  have hle := FP.Core.zmag_roundRatio_le FP.Core.good_b32 (s := false) (A := cx) (B := d) (e := qx - r) (e0 := -298 - r) hd0 v1 v2 (by rw [hqm]; omega) (by omega) (by
    have e1 : FP.Core.inUnits cx (qx - r) (-298 - r) = FP.Core.zmag FP.Core.b32 (.fin false cx qx) * FP.Core.one32 := by
      show cx * 2 ^ (qx - r - (-298 - r)).toNat = cx * 2 ^ (qx - FP.Core.b32.qmin).toNat * 2 ^ 149
      rw [hqm, Nat.mul_assoc, ← Nat.pow_add, show (qx - r - (-298 - r)).toNat = (qx - -149).toNat + 149 by omega]
    have e2 : (FP.Core.b32.qmin - (-298 - r)).toNat = (r - -149).toNat := by rw [hqm]; omega
    rw [e1, e2, Nat.mul_assoc, Nat.mul_comm (2 ^ _) d, hyz2]
    have h4 := Nat.mul_le_mul_right FP.Core.one32 hxz
    have h5 := Nat.mul_le_mul_right (c * FP.Core.one32) hVz
    have e3 : 255 * c * FP.Core.one32 * FP.Core.one32 = 255 * FP.Core.one32 * (c * FP.Core.one32) := by
      simp only [Nat.mul_assoc, Nat.mul_left_comm, Nat.mul_comm]
    omega)
  have hsg : FP.Core.sgn (FP.Core.val32 (FP.fdiv x (FP.i2f (nI c)))) = false := by rw [hr, FP.Core.sgn_roundRatio]
  have hzm : FP.Core.zmag FP.Core.b32 (FP.Core.val32 (FP.fdiv x (FP.i2f (nI c)))) ≤ 255 * FP.Core.one32 := by rw [hr]; omega
  refine ⟨fb_of (by rw [hr]; exact FP.Core.roundRatio_ne_nan _ _ _ _ _) (by decide) ?_ ?_, hsg⟩
  · unfold FP.Core.zval
    rw [hsg]
    show ((_ : Nat) : Int) ≤ _
    have := Int.ofNat_le.mpr hzm
    rw [Int.natCast_mul] at this
    exact this
  · unfold FP.Core.zval
    rw [hsg]
    show _ ≤ ((_ : Nat) : Int)
    have h6 : 0 ≤ ((255 : Nat) : Int) * (FP.Core.one32 : Int) := Int.mul_nonneg (Int.natCast_nonneg _) (Int.natCast_nonneg _)
    omega
theorem f100 : (1120403456 : UInt32) = FP.i2f (nI 100) := by decide +kernel
/-- a lot's tone -/
theorem fp_tone {k : Nat} (h : k ≤ 25500) : fp (FP.fdiv (FP.i2f (nI k)) 1120403456) 255 := by
  rw [f100]
  exact fp_div2 (fp_i2f (C := 255 * 100) h (by decide)) (by decide) (by decide)
section PUB1
variable {l : Launch} {D : va_G} {cA : Nat → ClassId} {bs : Nat} {Z : Nat → Nat → Nat} {X : XS} {ta : Nat → Nat → Option Nat} {h : hE}
theorem tN_nI {k : Nat} (h : k < 2 ^ 31) : tN (nI k) = k := nI_clamp h
theorem lotN_of (hd : xdim X) {x : Int32} (h : lotN X x) : ∃ k, k < xnl X ∧ x = nI k ∧ tN x = k := by
  obtain ⟨k, hk, rfl⟩ := nI_in2 (by have := hd.1; omega) h.1 h.2
  exact ⟨k, hk, rfl, tN_nI (by have := hd.1; omega)⟩
theorem picN_of (hd : xdim X) {x : Int32} (h : picN X x) : ∃ k, k < xnp X ∧ x = nI k ∧ tN x = k := by
  obtain ⟨k, hk, rfl⟩ := nI_in2 (by have := hd.2.1; omega) h.1 h.2
  exact ⟨k, hk, rfl, tN_nI (by have := hd.2.1; omega)⟩
theorem crewN_of {x : Int32} (h : crewN x) : ∃ k, k < 3 ∧ x = nI k ∧ tN x = k := by
  obtain ⟨k, hk, rfl⟩ := nI_in2 (by omega) h.1 h.2
  exact ⟨k, hk, rfl, tN_nI (by omega)⟩
theorem okR_of {x : Int32} {b : Nat} (hb : b < 2 ^ 31) (h : okR x 0 (nI b)) : ∃ k, k ≤ b ∧ x = nI k ∧ tN x = k := by
  obtain ⟨k, hk, e⟩ := nI_of2 (n := b) (nI_toInt hb) (Int32.not_lt.mpr h.1) h.2
  exact ⟨k, hk, e, by rw [e]; exact tN_nI (by omega)⟩
theorem okR_of1 {x : Int32} {b : Nat} (hb : b < 2 ^ 31) (h : okR x 1 (nI b)) : ∃ k, 1 ≤ k ∧ k ≤ b ∧ x = nI k ∧ tN x = k := by
  have h0 : (0 : Int32) ≤ x := Int32.le_trans (by decide) h.1
  obtain ⟨k, hk, e, e2⟩ := okR_of hb ⟨h0, h.2⟩
  refine ⟨k, ?_, hk, e, e2⟩
  have h1 := h.1
  rw [e] at h1
  exact (nI_leI (a := 1) (by decide) (by omega)).mp h1
theorem celN_of (hd : xdim X) {p x y : Int32} (h : celN X p x y) : ∃ k i j, k < xnp X ∧ i < xwd X k ∧ j < xhg X k ∧ p = nI k ∧ x = nI i ∧ y = nI j ∧ tN p = k ∧ celK X p x y = j * xwd X k + i := by
  obtain ⟨k, hk, rfl, ek⟩ := picN_of hd h.1
  have h2 := h.2
  rw [ek] at h2
  obtain ⟨⟨w1, w2⟩, g1, g2⟩ := hd.2.2 k hk
  obtain ⟨i, j, hi, hj, rfl, rfl⟩ := isAt_of w2 g2 h2
  refine ⟨k, i, j, hk, hi, hj, rfl, rfl, rfl, ek, ?_⟩
  show tN (nI j) * xwd X (tN (nI k)) + tN (nI i) = _
  rw [ek, tN_nI (by omega), tN_nI (by omega)]
theorem celN_no {p x y : Int32} (hd : xdim X) (h : ¬ celN X p x y) : ∀ k, k < xnp X → p = nI k → ¬ isAt (xwd X k) (xhg X k) x y := by
  rintro k hk rfl z
  have hkb : k < 2 ^ 31 := by have := hd.2.1; omega
  refine h ⟨⟨nI_pos' hkb, nI_lt hk (by have := hd.2.1; omega)⟩, ?_⟩
  show isAt (xwd X (tN (nI k))) (xhg X (tN (nI k))) x y
  rw [tN_nI hkb]
  exact z
/-- nothing changed -/
theorem Pst_same {sp : Sp} {h : hE} (r : XR cA Z X ta h) (t : tyv Z X ta) {v : Option Value} (h1 : sp.1 = none) (h2 : v = some (.int sp.2.1)) (h3 : sp.2.2 = X) : Pst cA Z X h sp v h := ⟨h1, h2, Z, ta, by rw [h3]; exact r, by rw [h3]; exact t, rfl, by rw [h3]; exact ffr.rf⟩
set_option maxHeartbeats 4000000 in
set_option maxRecDepth 100000 in
theorem m_lot (hlt : l.stackTraces = false) (r : XR cA Z X ta h) (t : tyv Z X ta) (hI : LI X) {a b c d : Int32} (hd : d = 0 ∨ d = 1) : Mx l D cA bs SZr yX4_lot wsX4_lot (rmk 8 4 30) [.ref (Z 0 0), .int a, .int b, .int c, .int d] h (Pst cA Z X h (sp_lot X a b c d)) (Psx h (sp_lot X a b c d)) := by
  have hrow := r.row
  have hls := r.lots
  have hnl := hI.1.1
  by_cases ha : okR a 0 25500
  · by_cases hb : okR b 1 500
    · by_cases hc : okR c 0 1
      · refine Mx_of (cc := cX4_lot) (maxL := 6) (ret := (some .int)) (own := RX4) [some (.ref (Z 0 0)), some (.int a), some (.int b), some (.int c), some (.int d), none] rfl (by decide +kernel) rfl rfl (by exact Nat.le_of_ble_eq_true rfl) rfl ?_
        intro p9 e9 s9 m9 args9 below9 meth9 c9 C hr hex hz hsz
        obtain ⟨ka, hka, ea, -⟩ := okR_of (b := 25500) (by decide) ha
        have hdv : vf_n32 (FP.fdiv (FP.i2f a) 1120403456) := by rw [ea]; exact fb_n32 (fp_tone hka).1
        refine V_iload_n (i := 1) C dX4_lot_0 rfl rfl ?_
        refine V_iconst (v := 0) C dX4_lot_1 (by decide) ?_
        refine V_sipush (v := 25500) C dX4_lot_2 (by decide) ?_
        refine V_callS (n := 3) C (c_range1 ha.1 ha.2) dX4_lot_5 gX4_lot_X4_needRange rfl (by decide +kernel) rfl rfl (by exact Nat.le_of_ble_eq_true rfl) ⟨Nat.le_of_ble_eq_true rfl, Nat.le_of_ble_eq_true rfl⟩ ⟨Nat.le_of_ble_eq_true rfl, Nat.le_of_ble_eq_true rfl⟩ (fun v9 h9 hr9 => ?_)
        obtain ⟨rfl, rfl⟩ := hr9
        refine V_iload_n (i := 2) C dX4_lot_8 rfl rfl ?_
        refine V_iconst (v := 1) C dX4_lot_9 (by decide) ?_
        refine V_sipush (v := 500) C dX4_lot_10 (by decide) ?_
        refine V_callS (n := 3) C (c_range1 hb.1 hb.2) dX4_lot_13 gX4_lot_X4_needRange rfl (by decide +kernel) rfl rfl (by exact Nat.le_of_ble_eq_true rfl) ⟨Nat.le_of_ble_eq_true rfl, Nat.le_of_ble_eq_true rfl⟩ ⟨Nat.le_of_ble_eq_true rfl, Nat.le_of_ble_eq_true rfl⟩ (fun v9 h9 hr9 => ?_)
        obtain ⟨rfl, rfl⟩ := hr9
        refine V_iload_n (i := 3) C dX4_lot_16 rfl rfl ?_
        refine V_iconst (v := 0) C dX4_lot_17 (by decide) ?_
        refine V_iconst (v := 1) C dX4_lot_18 (by decide) ?_
        refine V_callS (n := 3) C (c_range1 hc.1 hc.2) dX4_lot_19 gX4_lot_X4_needRange rfl (by decide +kernel) rfl rfl (by exact Nat.le_of_ble_eq_true rfl) ⟨Nat.le_of_ble_eq_true rfl, Nat.le_of_ble_eq_true rfl⟩ ⟨Nat.le_of_ble_eq_true rfl, Nat.le_of_ble_eq_true rfl⟩ (fun v9 h9 hr9 => ?_)
        obtain ⟨rfl, rfl⟩ := hr9
        refine V_aload_n (i := 0) C dX4_lot_22 rfl rfl ?_
        refine V_get (ci := 4) (CN := RX4) (T := TX4) (N := 6) C dX4_lot_23 (by first | assumption | exact hset_s _ _ _) rfl 3 (by decide) flX4_lot_32 wiX4_lot_X4 (by rfl) ?_
        refine V_aload_n (i := 0) C dX4_lot_26 rfl rfl ?_
        refine V_get (ci := 4) (CN := RX4) (T := TX4) (N := 6) C dX4_lot_27 (by first | assumption | exact hset_s _ _ _) rfl 0 (by decide) flX4_lot_11 wiX4_lot_X4 (by rfl) ?_
        refine V_alen C dX4_lot_30 (by first | assumption | exact hset_s _ _ _) (by rfl) (by rfl) ?_
        refine V_icmp_lt (tgt := 44) C dX4_lot_31 (by decide) (fun c31 => ?_) (fun c31 => ?_)
        · have c31 : xnl X < 12 := (nI_ltI (b := 12) (by omega) (by decide)).mp c31
          refine V_aload_n (i := 0) C dX4_lot_44 rfl rfl ?_
          refine V_get (ci := 4) (CN := RX4) (T := TX4) (N := 6) C dX4_lot_45 (by first | assumption | exact hset_s _ _ _) rfl 3 (by decide) flX4_lot_32 wiX4_lot_X4 (by rfl) ?_
          refine V_istore5 C dX4_lot_48 (by decide) ?_
          refine V_aload_n (i := 0) C dX4_lot_50 rfl rfl ?_
          refine V_get (ci := 4) (CN := RX4) (T := TX4) (N := 6) C dX4_lot_51 (by first | assumption | exact hset_s _ _ _) rfl 0 (by decide) flX4_lot_11 wiX4_lot_X4 (by rfl) ?_
          refine V_iload C dX4_lot_54 rfl ?_
          refine V_new (ci := 2) (CN := RX2) (T := TX2) (N := 7) (fs := [.int 0, .float 0, .int 0, .int 0, .int 0, .int 0, .int 0]) C dX4_lot_56 rfl tyX2 tyX2_ok wiX4_lot_X2 (by decide +kernel) (by decide +kernel) (by decide +kernel) (by decide +kernel) (by exact Nat.le_of_ble_eq_true rfl) (by exact Nat.le_of_ble_eq_true rfl) (fun q9 hq9 bq9 => ?_)
          have hqq := hset_s h9 q9 (lotO 0 0 0 0 0 0 0)
          refine V_dup C dX4_lot_59 rfl ?_
          refine V_iload C dX4_lot_60 rfl ?_
          refine V_iload_n (i := 1) C dX4_lot_62 rfl rfl ?_
          refine V_i2f C dX4_lot_63 ?_
          refine V_ldcf (v := 1120403456) C dX4_lot_64 (by decide +kernel) ?_
          refine V_fdiv C dX4_lot_66 (by assumption) ?_
          refine V_iload_n (i := 2) C dX4_lot_67 rfl rfl ?_
          refine V_iload_n (i := 3) C dX4_lot_68 rfl rfl ?_
          refine V_iload C dX4_lot_69 rfl ?_
          refine V_callI (n := 5) C (c_Lot_init hd hqq) dX4_lot_71 gX4_lot_X2_init rfl (by decide +kernel) (by decide +kernel) (by decide +kernel) rfl (by decide +kernel) rfl rfl (by exact Nat.le_of_ble_eq_true rfl) ⟨Nat.le_of_ble_eq_true rfl, Nat.le_of_ble_eq_true rfl⟩ ⟨Nat.le_of_ble_eq_true rfl, Nat.le_of_ble_eq_true rfl⟩ (fun v9 h9 hr9 => ?_)
          obtain ⟨rfl, rfl⟩ := hr9
          rw [hset_hset]
          have n0 : q9 ≠ Z 0 0 := fun z => by rw [z, hrow] at hq9; cases hq9
          have n1 : q9 ≠ Z 0 1 := fun z => by rw [z, hls] at hq9; cases hq9
          have n2 : Z 0 0 ≠ Z 0 1 := ne_arr hrow hls
          have hls2 := hset_ne (e := lotO (nI (xnl X)) (FP.fdiv (FP.i2f a) 1120403456) c d b 0 0) hls hq9
          have hrow2 := hset_ne (e := lotO (nI (xnl X)) (FP.fdiv (FP.i2f a) 1120403456) c d b 0 0) hrow hq9
          refine V_aastK C dX4_lot_74 hls2 rfl (hset_s _ _ _) rfl rfl (by omega) (by decide) ?_
          have hrow3 := (hset_n (e := qarr (cA 4) 12 (fset (qfun Z 1 (xnl X)) (xnl X) (some q9))) n2).trans hrow2
          refine V_aload_n (i := 0) C dX4_lot_75 rfl rfl ?_
          refine V_dup C dX4_lot_76 rfl ?_
          refine V_get (ci := 4) (CN := RX4) (T := TX4) (N := 6) C dX4_lot_77 (by first | assumption | exact hset_s _ _ _) rfl 3 (by decide) flX4_lot_32 wiX4_lot_X4 (by rfl) ?_
          refine V_iconst (v := 1) C dX4_lot_80 (by decide) ?_
          refine V_iadd C dX4_lot_81 ?_
          rw [nI_1]
          refine V_put (ci := 4) (CN := RX4) (T := TX4) (N := 6) (ty := (tyX4 3)) C dX4_lot_82 (by first | assumption | exact hset_s _ _ _) rfl tyX4 tyX4_ok nmX4 3 (by decide) flX4_lot_32 wiX4_lot_X4 rfl (tyX4_ok 3 (by decide)) (by rfl) (by rfl) (by exact Nat.le_of_ble_eq_true rfl) ?_
          refine V_iload C dX4_lot_85 rfl ?_
          exact V_x (V_iret C dX4_lot_87 hr ⟨by unfold sp_lot; rw [if_pos ⟨ha, hb, hc⟩, if_pos c31], by unfold sp_lot; rw [if_pos ⟨ha, hb, hc⟩, if_pos c31], zset Z 1 (xnl X) q9, ta, by unfold sp_lot; rw [if_pos ⟨ha, hb, hc⟩, if_pos c31]; exact r.addLot hI hq9 _ (hset_s _ _ _) ((hset_n (Ne.symm n2)).trans (hset_s _ _ _)) ((hset_n n0).trans ((hset_n n1).trans (hset_s _ _ _))) (fun a2 e2 he h1 h2 => (hset_n h1).trans ((hset_n h2).trans (hset_ne he hq9))), by unfold sp_lot; rw [if_pos ⟨ha, hb, hc⟩, if_pos c31]; exact t.addLot _ _, if_neg (by omega), by unfold sp_lot; rw [if_pos ⟨ha, hb, hc⟩, if_pos c31]; exact zfr.addLot (fun a2 e2 he g2 => (hset_n (g2 0 0 (show 0 < 4 by decide))).trans ((hset_n (g2 0 1 (show 1 < 4 by decide))).trans (hset_ne he hq9))) hq9⟩ (by exact Nat.le_of_ble_eq_true rfl) (by exact Nat.le_of_ble_eq_true rfl))
        · have c31 : ¬ xnl X < 12 := fun z => c31 ((nI_ltI (b := 12) (by omega) (by decide)).mpr z)
          exact V_throw (Post := fun _ _ => True) (cls := "java/lang/IllegalStateException") (text := "there are 12 lots") (names := ["java/lang/RuntimeException", "java/lang/Exception"]) (ik := 36) (is := 38) (ic := 40) C hlt (by decide +kernel) (by decide +kernel) (by decide +kernel) (by decide +kernel) (zz_hat (Cx_ts C) hsz (by decide +kernel) (by decide +kernel)) (by decide +kernel) hz (hsz.1 _ (List.mem_of_getElem? (i := 1) rfl)) hex dX4_lot_34 dX4_lot_37 dX4_lot_38 dX4_lot_40 dX4_lot_43 (by exact Nat.le_of_ble_eq_true rfl) (by exact Nat.le_of_ble_eq_true rfl) (by exact Nat.le_of_ble_eq_true rfl) (by exact Nat.le_of_ble_eq_true rfl) ⟨by unfold sp_lot; rw [if_pos ⟨ha, hb, hc⟩, if_neg c31]; rfl, rfl⟩ (by exact Nat.le_of_ble_eq_true rfl) (by exact Nat.le_of_ble_eq_true rfl)
      · refine Mx_of (cc := cX4_lot) (maxL := 6) (ret := (some .int)) (own := RX4) [some (.ref (Z 0 0)), some (.int a), some (.int b), some (.int c), some (.int d), none] rfl (by decide +kernel) rfl rfl (by exact Nat.le_of_ble_eq_true rfl) rfl ?_
        intro p9 e9 s9 m9 args9 below9 meth9 c9 C hr hex hz hsz
        refine V_iload_n (i := 1) C dX4_lot_0 rfl rfl ?_
        refine V_iconst (v := 0) C dX4_lot_1 (by decide) ?_
        refine V_sipush (v := 25500) C dX4_lot_2 (by decide) ?_
        refine V_callS (n := 3) C (c_range1 ha.1 ha.2) dX4_lot_5 gX4_lot_X4_needRange rfl (by decide +kernel) rfl rfl (by exact Nat.le_of_ble_eq_true rfl) ⟨Nat.le_of_ble_eq_true rfl, Nat.le_of_ble_eq_true rfl⟩ ⟨Nat.le_of_ble_eq_true rfl, Nat.le_of_ble_eq_true rfl⟩ (fun v9 h9 hr9 => ?_)
        obtain ⟨rfl, rfl⟩ := hr9
        refine V_iload_n (i := 2) C dX4_lot_8 rfl rfl ?_
        refine V_iconst (v := 1) C dX4_lot_9 (by decide) ?_
        refine V_sipush (v := 500) C dX4_lot_10 (by decide) ?_
        refine V_callS (n := 3) C (c_range1 hb.1 hb.2) dX4_lot_13 gX4_lot_X4_needRange rfl (by decide +kernel) rfl rfl (by exact Nat.le_of_ble_eq_true rfl) ⟨Nat.le_of_ble_eq_true rfl, Nat.le_of_ble_eq_true rfl⟩ ⟨Nat.le_of_ble_eq_true rfl, Nat.le_of_ble_eq_true rfl⟩ (fun v9 h9 hr9 => ?_)
        obtain ⟨rfl, rfl⟩ := hr9
        refine V_iload_n (i := 3) C dX4_lot_16 rfl rfl ?_
        refine V_iconst (v := 0) C dX4_lot_17 (by decide) ?_
        refine V_iconst (v := 1) C dX4_lot_18 (by decide) ?_
        refine V_xcallSg (n := 3) C (c_range0 hlt hc) dX4_lot_19 gX4_lot_X4_needRange rfl (by decide +kernel) rfl rfl (by exact Nat.le_of_ble_eq_true rfl) ⟨Nat.le_of_ble_eq_true rfl, Nat.le_of_ble_eq_true rfl⟩ ⟨Nat.le_of_ble_eq_true rfl, Nat.le_of_ble_eq_true rfl⟩ (by exact Nat.le_of_ble_eq_true rfl) (by exact Nat.le_of_ble_eq_true rfl) hex hz SZr.moves hsz (fun E h2 z => ⟨by unfold sp_lot; rw [if_neg (fun q => hc q.2.2), z.1], z.2⟩) (fun v9 h9 hr9 => ?_)
        exact hr9.elim
    · refine Mx_of (cc := cX4_lot) (maxL := 6) (ret := (some .int)) (own := RX4) [some (.ref (Z 0 0)), some (.int a), some (.int b), some (.int c), some (.int d), none] rfl (by decide +kernel) rfl rfl (by exact Nat.le_of_ble_eq_true rfl) rfl ?_
      intro p9 e9 s9 m9 args9 below9 meth9 c9 C hr hex hz hsz
      refine V_iload_n (i := 1) C dX4_lot_0 rfl rfl ?_
      refine V_iconst (v := 0) C dX4_lot_1 (by decide) ?_
      refine V_sipush (v := 25500) C dX4_lot_2 (by decide) ?_
      refine V_callS (n := 3) C (c_range1 ha.1 ha.2) dX4_lot_5 gX4_lot_X4_needRange rfl (by decide +kernel) rfl rfl (by exact Nat.le_of_ble_eq_true rfl) ⟨Nat.le_of_ble_eq_true rfl, Nat.le_of_ble_eq_true rfl⟩ ⟨Nat.le_of_ble_eq_true rfl, Nat.le_of_ble_eq_true rfl⟩ (fun v9 h9 hr9 => ?_)
      obtain ⟨rfl, rfl⟩ := hr9
      refine V_iload_n (i := 2) C dX4_lot_8 rfl rfl ?_
      refine V_iconst (v := 1) C dX4_lot_9 (by decide) ?_
      refine V_sipush (v := 500) C dX4_lot_10 (by decide) ?_
      refine V_xcallSg (n := 3) C (c_range0 hlt hb) dX4_lot_13 gX4_lot_X4_needRange rfl (by decide +kernel) rfl rfl (by exact Nat.le_of_ble_eq_true rfl) ⟨Nat.le_of_ble_eq_true rfl, Nat.le_of_ble_eq_true rfl⟩ ⟨Nat.le_of_ble_eq_true rfl, Nat.le_of_ble_eq_true rfl⟩ (by exact Nat.le_of_ble_eq_true rfl) (by exact Nat.le_of_ble_eq_true rfl) hex hz SZr.moves hsz (fun E h2 z => ⟨by unfold sp_lot; rw [if_neg (fun q => hb q.2.1), z.1], z.2⟩) (fun v9 h9 hr9 => ?_)
      exact hr9.elim
  · refine Mx_of (cc := cX4_lot) (maxL := 6) (ret := (some .int)) (own := RX4) [some (.ref (Z 0 0)), some (.int a), some (.int b), some (.int c), some (.int d), none] rfl (by decide +kernel) rfl rfl (by exact Nat.le_of_ble_eq_true rfl) rfl ?_
    intro p9 e9 s9 m9 args9 below9 meth9 c9 C hr hex hz hsz
    refine V_iload_n (i := 1) C dX4_lot_0 rfl rfl ?_
    refine V_iconst (v := 0) C dX4_lot_1 (by decide) ?_
    refine V_sipush (v := 25500) C dX4_lot_2 (by decide) ?_
    refine V_xcallSg (n := 3) C (c_range0 hlt ha) dX4_lot_5 gX4_lot_X4_needRange rfl (by decide +kernel) rfl rfl (by exact Nat.le_of_ble_eq_true rfl) ⟨Nat.le_of_ble_eq_true rfl, Nat.le_of_ble_eq_true rfl⟩ ⟨Nat.le_of_ble_eq_true rfl, Nat.le_of_ble_eq_true rfl⟩ (by exact Nat.le_of_ble_eq_true rfl) (by exact Nat.le_of_ble_eq_true rfl) hex hz SZr.moves hsz (fun E h2 z => ⟨by unfold sp_lot; rw [if_neg (fun q => ha q.1), z.1], z.2⟩) (fun v9 h9 hr9 => ?_)
    exact hr9.elim
end PUB1
