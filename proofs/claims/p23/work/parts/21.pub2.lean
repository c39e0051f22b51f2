/-! the calls: comes, picture, cell, old, fill, design, share -/
section PUB2
variable {l : Launch} {D : va_G} {cA : Nat → ClassId} {bs : Nat} {Z : Nat → Nat → Nat} {X : XS} {ta : Nat → Nat → Option Nat} {h : hE}
theorem Psx_of {h : hE} {K : String} {v : Int32} {Y : XS} : ∀ (E : String) (h2 : hE), (E = K ∧ h2 = h) → Psx h (some K, v, Y) E h2 := fun E h2 z => ⟨by rw [z.1], z.2⟩
set_option maxHeartbeats 4000000 in
set_option maxRecDepth 100000 in
theorem m_comes (hlt : l.stackTraces = false) (r : XR cA Z X ta h) (t : tyv Z X ta) (hI : LI X) {x : Int32} : Mx l D cA bs SZr yX4_comes wsX4_comes (rmk 8 4 30) [.ref (Z 0 0), .int x] h (Pst cA Z X h (sp_comes X x)) (Psx h (sp_comes X x)) := by
  have hrow := r.row
  by_cases hx : lotN X x
  · obtain ⟨k, hk, rfl, ek⟩ := lotN_of hI.1 hx
    have hlot := r.lot hk
    have hsp : sp_comes X (nI k) = if lth (xlo X k) = 0 then (none, llf (xlo X k), wlo X (fset (xlo X) k (ldT (xlo X k)))) else (some kIS, 0, X) := by unfold sp_comes; rw [if_pos hx, ek]
    rw [hsp]
    refine Mx_of (cc := cX4_comes) (maxL := 3) (ret := (some .int)) (own := RX4) [some (.ref (Z 0 0)), some (.int (nI k)), none] rfl (by decide +kernel) rfl rfl (by exact Nat.le_of_ble_eq_true rfl) rfl ?_
    intro p9 e9 s9 m9 args9 below9 meth9 c9 C hr hex hz hsz
    refine V_aload_n (i := 0) C dX4_comes_0 rfl rfl ?_
    refine V_iload_n (i := 1) C dX4_comes_1 rfl rfl ?_
    refine V_callV (n := 1) C (c_needLot1 r hI.1 hk) dX4_comes_2 gX4_comes_X4_needLot rfl (by first | assumption | exact hset_s _ _ _) rfl (by decide +kernel) rfl rfl (by exact Nat.le_of_ble_eq_true rfl) ⟨Nat.le_of_ble_eq_true rfl, Nat.le_of_ble_eq_true rfl⟩ ⟨Nat.le_of_ble_eq_true rfl, Nat.le_of_ble_eq_true rfl⟩ (fun v9 h9 hr9 => ?_)
    obtain ⟨rfl, rfl⟩ := hr9
    refine V_astore2 C dX4_comes_5 (by decide) ?_
    refine V_aload_n (i := 2) C dX4_comes_6 rfl rfl ?_
    refine V_get (ci := 2) (CN := RX2) (T := TX2) (N := 7) C dX4_comes_7 (by first | assumption | exact hset_s _ _ _) rfl 3 (by decide) flX4_comes_51 wiX4_comes_X2 (by rfl) ?_
    refine V_if_eq (tgt := 23) C dX4_comes_10 (by decide) (fun c10 => ?_) (fun c10 => ?_)
    · have c10 : lth (xlo X k) = 0 := c10
      rw [if_pos c10]
      refine V_aload_n (i := 2) C dX4_comes_23 rfl rfl ?_
      refine V_iconst (v := 1) C dX4_comes_24 (by decide) ?_
      refine V_put (ci := 2) (CN := RX2) (T := TX2) (N := 7) (ty := (tyX2 3)) C dX4_comes_25 (by first | assumption | exact hset_s _ _ _) rfl tyX2 tyX2_ok nmX2 3 (by decide) flX4_comes_51 wiX4_comes_X2 rfl (tyX2_ok 3 (by decide)) (by rfl) (by rfl) (by exact Nat.le_of_ble_eq_true rfl) ?_
      refine V_aload_n (i := 2) C dX4_comes_28 rfl rfl ?_
      refine V_get (ci := 2) (CN := RX2) (T := TX2) (N := 7) C dX4_comes_29 (by first | assumption | exact hset_s _ _ _) rfl 4 (by decide) flX4_comes_57 wiX4_comes_X2 (by rfl) ?_
      exact V_x (V_iret C dX4_comes_32 hr ⟨rfl, rfl, Z, ta, r.setLot hk (ldT (xlo X k)), t, rfl, r.ffr (hfr.lot hk)⟩ (by exact Nat.le_of_ble_eq_true rfl) (by exact Nat.le_of_ble_eq_true rfl))
    · have c10 : ¬ lth (xlo X k) = 0 := c10
      rw [if_neg c10]
      exact V_throw (Post := fun _ _ => True) (cls := "java/lang/IllegalStateException") (text := "the lot is there") (names := ["java/lang/RuntimeException", "java/lang/Exception"]) (ik := 36) (is := 55) (ic := 40) C hlt (by decide +kernel) (by decide +kernel) (by decide +kernel) (by decide +kernel) (zz_hat (Cx_ts C) hsz (by decide +kernel) (by decide +kernel)) (by decide +kernel) hz (hsz.1 _ (List.mem_of_getElem? (i := 3) rfl)) hex dX4_comes_13 dX4_comes_16 dX4_comes_17 dX4_comes_19 dX4_comes_22 (by exact Nat.le_of_ble_eq_true rfl) (by exact Nat.le_of_ble_eq_true rfl) (by exact Nat.le_of_ble_eq_true rfl) (by exact Nat.le_of_ble_eq_true rfl) ⟨rfl, rfl⟩ (by exact Nat.le_of_ble_eq_true rfl) (by exact Nat.le_of_ble_eq_true rfl)
  · have hsp : sp_comes X x = (some kIO, 0, X) := by unfold sp_comes; rw [if_neg hx]
    rw [hsp]
    refine Mx_of (cc := cX4_comes) (maxL := 3) (ret := (some .int)) (own := RX4) [some (.ref (Z 0 0)), some (.int x), none] rfl (by decide +kernel) rfl rfl (by exact Nat.le_of_ble_eq_true rfl) rfl ?_
    intro p9 e9 s9 m9 args9 below9 meth9 c9 C hr hex hz hsz
    refine V_aload_n (i := 0) C dX4_comes_0 rfl rfl ?_
    refine V_iload_n (i := 1) C dX4_comes_1 rfl rfl ?_
    refine V_xcallVg (n := 1) C (c_needLot0 hlt r hI.1 hx) dX4_comes_2 gX4_comes_X4_needLot rfl (by first | assumption | exact hset_s _ _ _) rfl (by decide +kernel) rfl rfl (by exact Nat.le_of_ble_eq_true rfl) ⟨Nat.le_of_ble_eq_true rfl, Nat.le_of_ble_eq_true rfl⟩ ⟨Nat.le_of_ble_eq_true rfl, Nat.le_of_ble_eq_true rfl⟩ (by exact Nat.le_of_ble_eq_true rfl) (by exact Nat.le_of_ble_eq_true rfl) hex hz SZr.moves hsz Psx_of (fun v9 h9 hr9 => ?_)
    exact hr9.elim
theorem mkP.base {h h1 : hE} {q a nb w g i : Nat} {tn : Int32} {zc : Nat → Nat} {e0 : va_E} (hq : h q = none) (m : mkP cA (hset h q e0) h1 q a nb w g tn i zc) : mkP cA h h1 q a nb w g tn i zc := by
  obtain ⟨m1, m2, m3, m4, m5, m6⟩ := m
  have un : ∀ b, hset h q e0 b = none → h b = none := fun b hb => by
    have : b ≠ q := fun z => by rw [z, hset_s] at hb; cases hb
    rw [hset_n this] at hb
    exact hb
  exact ⟨m1, m2, fun k hk => ⟨(m3 k hk).1, un _ (m3 k hk).2⟩, m4, fun b e hb hbq => m5 b e ((hset_n hbq).trans hb) hbq, un _ m6⟩
set_option maxHeartbeats 4000000 in
set_option maxRecDepth 100000 in
theorem m_picture (hlt : l.stackTraces = false) (r : XR cA Z X ta h) (t : tyv Z X ta) (hI : LI X) {a b c : Int32} : Mx l D cA bs SZr yX4_picture wsX4_picture (rmk 8 75 800) [.ref (Z 0 0), .int a, .int b, .int c] h (Pst cA Z X h (sp_picture X a b c)) (Psx h (sp_picture X a b c)) := by
  have hrow := r.row
  have hps := r.pics
  have hnp := hI.1.2.1
  by_cases ha : okR a 1 8
  · by_cases hb : okR b 1 8
    · by_cases hc : okR c 0 255
      · obtain ⟨w, w1, w2, rfl, ew⟩ := okR_of1 (b := 8) (by decide) ha
        obtain ⟨g, g1, g2, rfl, eg⟩ := okR_of1 (b := 8) (by decide) hb
        have hsp : sp_picture X (nI w) (nI g) c = if xnp X < 5 then (none, nI (xnp X), addP X w g c) else (some kIS, 0, X) := by unfold sp_picture; rw [if_pos ⟨ha, hb, hc⟩, ew, eg]
        rw [hsp]
        refine Mx_of (cc := cX4_picture) (maxL := 5) (ret := (some .int)) (own := RX4) [some (.ref (Z 0 0)), some (.int (nI w)), some (.int (nI g)), some (.int c), none] rfl (by decide +kernel) rfl rfl (by exact Nat.le_of_ble_eq_true rfl) rfl ?_
        intro p9 e9 s9 m9 args9 below9 meth9 c9 C hr hex hz hsz
        refine V_iload_n (i := 1) C dX4_picture_0 rfl rfl ?_
        refine V_iconst (v := 1) C dX4_picture_1 (by decide) ?_
        refine V_bipush (v := 8) C dX4_picture_2 (by decide) ?_
        refine V_callS (n := 3) C (c_range1 ha.1 ha.2) dX4_picture_4 gX4_picture_X4_needRange rfl (by decide +kernel) rfl rfl (by exact Nat.le_of_ble_eq_true rfl) ⟨Nat.le_of_ble_eq_true rfl, Nat.le_of_ble_eq_true rfl⟩ ⟨Nat.le_of_ble_eq_true rfl, Nat.le_of_ble_eq_true rfl⟩ (fun v9 h9 hr9 => ?_)
        obtain ⟨rfl, rfl⟩ := hr9
        refine V_iload_n (i := 2) C dX4_picture_7 rfl rfl ?_
        refine V_iconst (v := 1) C dX4_picture_8 (by decide) ?_
        refine V_bipush (v := 8) C dX4_picture_9 (by decide) ?_
        refine V_callS (n := 3) C (c_range1 hb.1 hb.2) dX4_picture_11 gX4_picture_X4_needRange rfl (by decide +kernel) rfl rfl (by exact Nat.le_of_ble_eq_true rfl) ⟨Nat.le_of_ble_eq_true rfl, Nat.le_of_ble_eq_true rfl⟩ ⟨Nat.le_of_ble_eq_true rfl, Nat.le_of_ble_eq_true rfl⟩ (fun v9 h9 hr9 => ?_)
        obtain ⟨rfl, rfl⟩ := hr9
        refine V_iload_n (i := 3) C dX4_picture_14 rfl rfl ?_
        refine V_iconst (v := 0) C dX4_picture_15 (by decide) ?_
        refine V_sipush (v := 255) C dX4_picture_16 (by decide) ?_
        refine V_callS (n := 3) C (c_range1 hc.1 hc.2) dX4_picture_19 gX4_picture_X4_needRange rfl (by decide +kernel) rfl rfl (by exact Nat.le_of_ble_eq_true rfl) ⟨Nat.le_of_ble_eq_true rfl, Nat.le_of_ble_eq_true rfl⟩ ⟨Nat.le_of_ble_eq_true rfl, Nat.le_of_ble_eq_true rfl⟩ (fun v9 h9 hr9 => ?_)
        obtain ⟨rfl, rfl⟩ := hr9
        refine V_aload_n (i := 0) C dX4_picture_22 rfl rfl ?_
        refine V_get (ci := 4) (CN := RX4) (T := TX4) (N := 6) C dX4_picture_23 (by first | assumption | exact hset_s _ _ _) rfl 4 (by decide) flX4_picture_60 wiX4_picture_X4 (by rfl) ?_
        refine V_aload_n (i := 0) C dX4_picture_26 rfl rfl ?_
        refine V_get (ci := 4) (CN := RX4) (T := TX4) (N := 6) C dX4_picture_27 (by first | assumption | exact hset_s _ _ _) rfl 1 (by decide) flX4_picture_17 wiX4_picture_X4 (by rfl) ?_
        refine V_alen C dX4_picture_30 (by first | assumption | exact hset_s _ _ _) (by rfl) (by rfl) ?_
        refine V_icmp_lt (tgt := 44) C dX4_picture_31 (by decide) (fun c31 => ?_) (fun c31 => ?_)
        · have c31 : xnp X < 5 := (nI_ltI (b := 5) (by omega) (by decide)).mp c31
          rw [if_pos c31]
          refine V_aload_n (i := 0) C dX4_picture_44 rfl rfl ?_
          refine V_get (ci := 4) (CN := RX4) (T := TX4) (N := 6) C dX4_picture_45 (by first | assumption | exact hset_s _ _ _) rfl 4 (by decide) flX4_picture_60 wiX4_picture_X4 (by rfl) ?_
          refine V_istore4 C dX4_picture_48 (by decide) ?_
          refine V_aload_n (i := 0) C dX4_picture_50 rfl rfl ?_
          refine V_get (ci := 4) (CN := RX4) (T := TX4) (N := 6) C dX4_picture_51 (by first | assumption | exact hset_s _ _ _) rfl 1 (by decide) flX4_picture_17 wiX4_picture_X4 (by rfl) ?_
          refine V_iload C dX4_picture_54 rfl ?_
          refine V_new (ci := 3) (CN := RX3) (T := TX3) (N := 4) (fs := [.int 0, .int 0, .int 0, .null]) C dX4_picture_56 rfl tyX3 tyX3_ok wiX4_picture_X3 (by decide +kernel) (by decide +kernel) (by decide +kernel) (by decide +kernel) (by exact Nat.le_of_ble_eq_true rfl) (by exact Nat.le_of_ble_eq_true rfl) (fun q9 hq9 bq9 => ?_)
          have hqq := hset_s h9 q9 (.inr (3, [.int 0, .int 0, .int 0, .null]))
          refine V_dup C dX4_picture_59 rfl ?_
          refine V_iload C dX4_picture_60 rfl ?_
          refine V_iload_n (i := 1) C dX4_picture_62 rfl rfl ?_
          refine V_iload_n (i := 2) C dX4_picture_63 rfl rfl ?_
          refine V_iload_n (i := 3) C dX4_picture_64 rfl rfl ?_
          refine V_scallI (n := 4) C (c_Pic_init hqq w1 w2 g2) dX4_picture_65 gX4_picture_X3_init rfl (by decide +kernel) (by decide +kernel) (by decide +kernel) rfl (by decide +kernel) rfl rfl (by exact Nat.le_of_ble_eq_true rfl) ⟨Nat.le_of_ble_eq_true rfl, Nat.le_of_ble_eq_true rfl⟩ ⟨Nat.le_of_ble_eq_true rfl, Nat.le_of_ble_eq_true rfl⟩ SZr.moves hsz (fun v9 h9 hr9 => ?_)
          obtain ⟨rfl, a9, zc, mk⟩ := hr9
          have mk := mk.base hq9
          have hm := mk.2.2.2.2.1
          have nq : ∀ A i, xvd X A i → Z A i ≠ q9 := fun A i hv z => by have := r.1 A i hv; rw [z, hq9] at this; cases this
          have hps2 := hm _ _ hps (nq 0 2 (show 2 < 4 by decide))
          have hrow2 := hm _ _ hrow (nq 0 0 (show 0 < 4 by decide))
          have n2 : Z 0 0 ≠ Z 0 2 := ne_arr hrow hps
          refine V_aastK C dX4_picture_68 hps2 rfl mk.1 rfl rfl (by omega) (by decide) ?_
          have hrow3 := (hset_n (e := qarr (cA 5) 5 (fset (qfun Z 2 (xnp X)) (xnp X) (some q9))) n2).trans hrow2
          refine V_aload_n (i := 0) C dX4_picture_69 rfl rfl ?_
          refine V_dup C dX4_picture_70 rfl ?_
          refine V_get (ci := 4) (CN := RX4) (T := TX4) (N := 6) C dX4_picture_71 (by first | assumption | exact hset_s _ _ _) rfl 4 (by decide) flX4_picture_60 wiX4_picture_X4 (by rfl) ?_
          refine V_iconst (v := 1) C dX4_picture_74 (by decide) ?_
          refine V_iadd C dX4_picture_75 ?_
          rw [nI_1]
          refine V_put (ci := 4) (CN := RX4) (T := TX4) (N := 6) (ty := (tyX4 4)) C dX4_picture_76 (by first | assumption | exact hset_s _ _ _) rfl tyX4 tyX4_ok nmX4 4 (by decide) flX4_picture_60 wiX4_picture_X4 rfl (tyX4_ok 4 (by decide)) (by rfl) (by rfl) (by exact Nat.le_of_ble_eq_true rfl) ?_
          refine V_iload C dX4_picture_79 rfl ?_
          exact V_x (V_iret C dX4_picture_81 hr ⟨rfl, rfl, _, ta, r.addPic hI hq9 (hset_s _ _ _) ((hset_n (Ne.symm n2)).trans (hset_s _ _ _)) mk (fun a2 e2 he h1 h2 => (hset_n h1).trans ((hset_n h2).trans he)), fun c2 hc2 => by obtain ⟨t1, t2, t3⟩ := t c2 hc2; exact ⟨t1, t2, fun i b hi => by rw [t3 i b hi]; congr 1⟩, by simp, zfr.addPic (fun a2 e2 he g2 => (hset_n (g2 0 0 (show 0 < 4 by decide))).trans ((hset_n (g2 0 2 (show 2 < 4 by decide))).trans (hm _ _ he (fun z => by rw [z, hq9] at he; cases he)))) hq9 mk⟩ (by exact Nat.le_of_ble_eq_true rfl) (by exact Nat.le_of_ble_eq_true rfl))
        · have c31 : ¬ xnp X < 5 := fun z => c31 ((nI_ltI (b := 5) (by omega) (by decide)).mpr z)
          rw [if_neg c31]
          exact V_throw (Post := fun _ _ => True) (cls := "java/lang/IllegalStateException") (text := "there are 5 pictures") (names := ["java/lang/RuntimeException", "java/lang/Exception"]) (ik := 36) (is := 63) (ic := 40) C hlt (by decide +kernel) (by decide +kernel) (by decide +kernel) (by decide +kernel) (zz_hat (Cx_ts C) hsz (by decide +kernel) (by decide +kernel)) (by decide +kernel) hz (hsz.1 _ (List.mem_of_getElem? (i := 4) rfl)) hex dX4_picture_34 dX4_picture_37 dX4_picture_38 dX4_picture_40 dX4_picture_43 (by exact Nat.le_of_ble_eq_true rfl) (by exact Nat.le_of_ble_eq_true rfl) (by exact Nat.le_of_ble_eq_true rfl) (by exact Nat.le_of_ble_eq_true rfl) ⟨rfl, rfl⟩ (by exact Nat.le_of_ble_eq_true rfl) (by exact Nat.le_of_ble_eq_true rfl)
      · have hsp : sp_picture X a b c = (some kIA, 0, X) := by unfold sp_picture; rw [if_neg (fun q => hc q.2.2)]
        rw [hsp]
        refine Mx_of (cc := cX4_picture) (maxL := 5) (ret := (some .int)) (own := RX4) [some (.ref (Z 0 0)), some (.int a), some (.int b), some (.int c), none] rfl (by decide +kernel) rfl rfl (by exact Nat.le_of_ble_eq_true rfl) rfl ?_
        intro p9 e9 s9 m9 args9 below9 meth9 c9 C hr hex hz hsz
        refine V_iload_n (i := 1) C dX4_picture_0 rfl rfl ?_
        refine V_iconst (v := 1) C dX4_picture_1 (by decide) ?_
        refine V_bipush (v := 8) C dX4_picture_2 (by decide) ?_
        refine V_callS (n := 3) C (c_range1 ha.1 ha.2) dX4_picture_4 gX4_picture_X4_needRange rfl (by decide +kernel) rfl rfl (by exact Nat.le_of_ble_eq_true rfl) ⟨Nat.le_of_ble_eq_true rfl, Nat.le_of_ble_eq_true rfl⟩ ⟨Nat.le_of_ble_eq_true rfl, Nat.le_of_ble_eq_true rfl⟩ (fun v9 h9 hr9 => ?_)
        obtain ⟨rfl, rfl⟩ := hr9
        refine V_iload_n (i := 2) C dX4_picture_7 rfl rfl ?_
        refine V_iconst (v := 1) C dX4_picture_8 (by decide) ?_
        refine V_bipush (v := 8) C dX4_picture_9 (by decide) ?_
        refine V_callS (n := 3) C (c_range1 hb.1 hb.2) dX4_picture_11 gX4_picture_X4_needRange rfl (by decide +kernel) rfl rfl (by exact Nat.le_of_ble_eq_true rfl) ⟨Nat.le_of_ble_eq_true rfl, Nat.le_of_ble_eq_true rfl⟩ ⟨Nat.le_of_ble_eq_true rfl, Nat.le_of_ble_eq_true rfl⟩ (fun v9 h9 hr9 => ?_)
        obtain ⟨rfl, rfl⟩ := hr9
        refine V_iload_n (i := 3) C dX4_picture_14 rfl rfl ?_
        refine V_iconst (v := 0) C dX4_picture_15 (by decide) ?_
        refine V_sipush (v := 255) C dX4_picture_16 (by decide) ?_
        refine V_xcallSg (n := 3) C (c_range0 hlt hc) dX4_picture_19 gX4_picture_X4_needRange rfl (by decide +kernel) rfl rfl (by exact Nat.le_of_ble_eq_true rfl) ⟨Nat.le_of_ble_eq_true rfl, Nat.le_of_ble_eq_true rfl⟩ ⟨Nat.le_of_ble_eq_true rfl, Nat.le_of_ble_eq_true rfl⟩ (by exact Nat.le_of_ble_eq_true rfl) (by exact Nat.le_of_ble_eq_true rfl) hex hz SZr.moves hsz Psx_of (fun v9 h9 hr9 => ?_)
        exact hr9.elim
    · have hsp : sp_picture X a b c = (some kIA, 0, X) := by unfold sp_picture; rw [if_neg (fun q => hb q.2.1)]
      rw [hsp]
      refine Mx_of (cc := cX4_picture) (maxL := 5) (ret := (some .int)) (own := RX4) [some (.ref (Z 0 0)), some (.int a), some (.int b), some (.int c), none] rfl (by decide +kernel) rfl rfl (by exact Nat.le_of_ble_eq_true rfl) rfl ?_
      intro p9 e9 s9 m9 args9 below9 meth9 c9 C hr hex hz hsz
      refine V_iload_n (i := 1) C dX4_picture_0 rfl rfl ?_
      refine V_iconst (v := 1) C dX4_picture_1 (by decide) ?_
      refine V_bipush (v := 8) C dX4_picture_2 (by decide) ?_
      refine V_callS (n := 3) C (c_range1 ha.1 ha.2) dX4_picture_4 gX4_picture_X4_needRange rfl (by decide +kernel) rfl rfl (by exact Nat.le_of_ble_eq_true rfl) ⟨Nat.le_of_ble_eq_true rfl, Nat.le_of_ble_eq_true rfl⟩ ⟨Nat.le_of_ble_eq_true rfl, Nat.le_of_ble_eq_true rfl⟩ (fun v9 h9 hr9 => ?_)
      obtain ⟨rfl, rfl⟩ := hr9
      refine V_iload_n (i := 2) C dX4_picture_7 rfl rfl ?_
      refine V_iconst (v := 1) C dX4_picture_8 (by decide) ?_
      refine V_bipush (v := 8) C dX4_picture_9 (by decide) ?_
      refine V_xcallSg (n := 3) C (c_range0 hlt hb) dX4_picture_11 gX4_picture_X4_needRange rfl (by decide +kernel) rfl rfl (by exact Nat.le_of_ble_eq_true rfl) ⟨Nat.le_of_ble_eq_true rfl, Nat.le_of_ble_eq_true rfl⟩ ⟨Nat.le_of_ble_eq_true rfl, Nat.le_of_ble_eq_true rfl⟩ (by exact Nat.le_of_ble_eq_true rfl) (by exact Nat.le_of_ble_eq_true rfl) hex hz SZr.moves hsz Psx_of (fun v9 h9 hr9 => ?_)
      exact hr9.elim
  · have hsp : sp_picture X a b c = (some kIA, 0, X) := by unfold sp_picture; rw [if_neg (fun q => ha q.1)]
    rw [hsp]
    refine Mx_of (cc := cX4_picture) (maxL := 5) (ret := (some .int)) (own := RX4) [some (.ref (Z 0 0)), some (.int a), some (.int b), some (.int c), none] rfl (by decide +kernel) rfl rfl (by exact Nat.le_of_ble_eq_true rfl) rfl ?_
    intro p9 e9 s9 m9 args9 below9 meth9 c9 C hr hex hz hsz
    refine V_iload_n (i := 1) C dX4_picture_0 rfl rfl ?_
    refine V_iconst (v := 1) C dX4_picture_1 (by decide) ?_
    refine V_bipush (v := 8) C dX4_picture_2 (by decide) ?_
    refine V_xcallSg (n := 3) C (c_range0 hlt ha) dX4_picture_4 gX4_picture_X4_needRange rfl (by decide +kernel) rfl rfl (by exact Nat.le_of_ble_eq_true rfl) ⟨Nat.le_of_ble_eq_true rfl, Nat.le_of_ble_eq_true rfl⟩ ⟨Nat.le_of_ble_eq_true rfl, Nat.le_of_ble_eq_true rfl⟩ (by exact Nat.le_of_ble_eq_true rfl) (by exact Nat.le_of_ble_eq_true rfl) hex hz SZr.moves hsz Psx_of (fun v9 h9 hr9 => ?_)
    exact hr9.elim
set_option maxHeartbeats 4000000 in
set_option maxRecDepth 100000 in
theorem m_cell (hlt : l.stackTraces = false) (r : XR cA Z X ta h) (t : tyv Z X ta) (hI : LI X) {a b c d : Int32} : Mx l D cA bs SZr yX4_cell wsX4_cell (rmk 9 4 30) [.ref (Z 0 0), .int a, .int b, .int c, .int d] h (Pst cA Z X h (sp_cell X a b c d)) (Psx h (sp_cell X a b c d)) := by
  have hrow := r.row
  by_cases hx : celN X a b c
  · obtain ⟨k, i, j, hk, hi, hj, rfl, rfl, rfl, ek, ec⟩ := celN_of hI.1 hx
    have hkk := at_lt hi hj
    have hce := r.cell hk hkk
    by_cases hd : okR d 0 255
    · have hsp : sp_cell X (nI k) (nI i) (nI j) d = if dn (xg X k (j * xwd X k + i)) then (some kIS, 0, X) else (none, cwn (xg X k (j * xwd X k + i)), setG X k (j * xwd X k + i) (cdW (xg X k (j * xwd X k + i)) d)) := by unfold sp_cell; rw [if_pos hx, if_pos hd, ek, ec]
      rw [hsp]
      refine Mx_of (cc := cX4_cell) (maxL := 7) (ret := (some .int)) (own := RX4) [some (.ref (Z 0 0)), some (.int (nI k)), some (.int (nI i)), some (.int (nI j)), some (.int d), none, none] rfl (by decide +kernel) rfl rfl (by exact Nat.le_of_ble_eq_true rfl) rfl ?_
      intro p9 e9 s9 m9 args9 below9 meth9 c9 C hr hex hz hsz
      refine V_aload_n (i := 0) C dX4_cell_0 rfl rfl ?_
      refine V_iload_n (i := 1) C dX4_cell_1 rfl rfl ?_
      refine V_iload_n (i := 2) C dX4_cell_2 rfl rfl ?_
      refine V_iload_n (i := 3) C dX4_cell_3 rfl rfl ?_
      refine V_callV (n := 3) C (c_needCell1 r hI.1 hk hi hj) dX4_cell_4 gX4_cell_X4_needCell rfl (by first | assumption | exact hset_s _ _ _) rfl (by decide +kernel) rfl rfl (by exact Nat.le_of_ble_eq_true rfl) ⟨Nat.le_of_ble_eq_true rfl, Nat.le_of_ble_eq_true rfl⟩ ⟨Nat.le_of_ble_eq_true rfl, Nat.le_of_ble_eq_true rfl⟩ (fun v9 h9 hr9 => ?_)
      obtain ⟨rfl, rfl⟩ := hr9
      refine V_astore5 C dX4_cell_7 (by decide) ?_
      refine V_iload C dX4_cell_9 rfl ?_
      refine V_iconst (v := 0) C dX4_cell_11 (by decide) ?_
      refine V_sipush (v := 255) C dX4_cell_12 (by decide) ?_
      refine V_callS (n := 3) C (c_range1 hd.1 hd.2) dX4_cell_15 gX4_cell_X4_needRange rfl (by decide +kernel) rfl rfl (by exact Nat.le_of_ble_eq_true rfl) ⟨Nat.le_of_ble_eq_true rfl, Nat.le_of_ble_eq_true rfl⟩ ⟨Nat.le_of_ble_eq_true rfl, Nat.le_of_ble_eq_true rfl⟩ (fun v9 h9 hr9 => ?_)
      obtain ⟨rfl, rfl⟩ := hr9
      refine V_aload C dX4_cell_18 rfl ?_
      refine V_callV (n := 0) C (c_isDone hce) dX4_cell_20 gX4_cell_X0_isDone rfl (by first | assumption | exact hset_s _ _ _) rfl (by decide +kernel) rfl rfl (by exact Nat.le_of_ble_eq_true rfl) ⟨Nat.le_of_ble_eq_true rfl, Nat.le_of_ble_eq_true rfl⟩ ⟨Nat.le_of_ble_eq_true rfl, Nat.le_of_ble_eq_true rfl⟩ (fun v9 h9 hr9 => ?_)
      obtain ⟨rfl, z9⟩ := hr9
      have z9 := z9.symm
      subst z9
      refine V_if_eq (tgt := 36) C dX4_cell_23 (by decide) (fun c23 => ?_) (fun c23 => ?_)
      · have c23 := ite0.mp c23
        rw [if_neg c23]
        refine V_aload C dX4_cell_36 rfl ?_
        refine V_get (ci := 0) (CN := RX0) (T := TX0) (N := 10) C dX4_cell_38 (by first | assumption | exact hset_s _ _ _) rfl 4 (by decide) flX4_cell_80 wiX4_cell_X0 (by rfl) ?_
        refine V_istore6 C dX4_cell_41 (by decide) ?_
        refine V_aload C dX4_cell_43 rfl ?_
        refine V_iload C dX4_cell_45 rfl ?_
        refine V_put (ci := 0) (CN := RX0) (T := TX0) (N := 10) (ty := (tyX0 4)) C dX4_cell_47 (by first | assumption | exact hset_s _ _ _) rfl tyX0 tyX0_ok nmX0 4 (by decide) flX4_cell_80 wiX4_cell_X0 rfl (tyX0_ok 4 (by decide)) (by rfl) (by rfl) (by exact Nat.le_of_ble_eq_true rfl) ?_
        refine V_iload C dX4_cell_50 rfl ?_
        exact V_x (V_iret C dX4_cell_52 hr ⟨rfl, rfl, Z, ta, r.setCell hk hkk (cdW (xg X k (j * xwd X k + i)) d), t, rfl, r.ffr (hfr.cell hk hkk)⟩ (by exact Nat.le_of_ble_eq_true rfl) (by exact Nat.le_of_ble_eq_true rfl))
      · have c23 : dn (xg X k (j * xwd X k + i)) := Classical.not_not.mp (fun z => c23 (ite0.mpr z))
        rw [if_pos c23]
        exact V_throw (Post := fun _ _ => True) (cls := "java/lang/IllegalStateException") (text := "the cell is laid or old") (names := ["java/lang/RuntimeException", "java/lang/Exception"]) (ik := 36) (is := 78) (ic := 40) C hlt (by decide +kernel) (by decide +kernel) (by decide +kernel) (by decide +kernel) (zz_hat (Cx_ts C) hsz (by decide +kernel) (by decide +kernel)) (by decide +kernel) hz (hsz.1 _ (List.mem_of_getElem? (i := 7) rfl)) hex dX4_cell_26 dX4_cell_29 dX4_cell_30 dX4_cell_32 dX4_cell_35 (by exact Nat.le_of_ble_eq_true rfl) (by exact Nat.le_of_ble_eq_true rfl) (by exact Nat.le_of_ble_eq_true rfl) (by exact Nat.le_of_ble_eq_true rfl) ⟨rfl, rfl⟩ (by exact Nat.le_of_ble_eq_true rfl) (by exact Nat.le_of_ble_eq_true rfl)
    · have hsp : sp_cell X (nI k) (nI i) (nI j) d = (some kIA, 0, X) := by unfold sp_cell; rw [if_pos hx, if_neg hd]
      rw [hsp]
      refine Mx_of (cc := cX4_cell) (maxL := 7) (ret := (some .int)) (own := RX4) [some (.ref (Z 0 0)), some (.int (nI k)), some (.int (nI i)), some (.int (nI j)), some (.int d), none, none] rfl (by decide +kernel) rfl rfl (by exact Nat.le_of_ble_eq_true rfl) rfl ?_
      intro p9 e9 s9 m9 args9 below9 meth9 c9 C hr hex hz hsz
      refine V_aload_n (i := 0) C dX4_cell_0 rfl rfl ?_
      refine V_iload_n (i := 1) C dX4_cell_1 rfl rfl ?_
      refine V_iload_n (i := 2) C dX4_cell_2 rfl rfl ?_
      refine V_iload_n (i := 3) C dX4_cell_3 rfl rfl ?_
      refine V_callV (n := 3) C (c_needCell1 r hI.1 hk hi hj) dX4_cell_4 gX4_cell_X4_needCell rfl (by first | assumption | exact hset_s _ _ _) rfl (by decide +kernel) rfl rfl (by exact Nat.le_of_ble_eq_true rfl) ⟨Nat.le_of_ble_eq_true rfl, Nat.le_of_ble_eq_true rfl⟩ ⟨Nat.le_of_ble_eq_true rfl, Nat.le_of_ble_eq_true rfl⟩ (fun v9 h9 hr9 => ?_)
      obtain ⟨rfl, rfl⟩ := hr9
      refine V_astore5 C dX4_cell_7 (by decide) ?_
      refine V_iload C dX4_cell_9 rfl ?_
      refine V_iconst (v := 0) C dX4_cell_11 (by decide) ?_
      refine V_sipush (v := 255) C dX4_cell_12 (by decide) ?_
      refine V_xcallSg (n := 3) C (c_range0 hlt hd) dX4_cell_15 gX4_cell_X4_needRange rfl (by decide +kernel) rfl rfl (by exact Nat.le_of_ble_eq_true rfl) ⟨Nat.le_of_ble_eq_true rfl, Nat.le_of_ble_eq_true rfl⟩ ⟨Nat.le_of_ble_eq_true rfl, Nat.le_of_ble_eq_true rfl⟩ (by exact Nat.le_of_ble_eq_true rfl) (by exact Nat.le_of_ble_eq_true rfl) hex hz SZr.moves hsz Psx_of (fun v9 h9 hr9 => ?_)
      exact hr9.elim
  · have hsp : sp_cell X a b c d = (some kIO, 0, X) := by unfold sp_cell; rw [if_neg hx]
    rw [hsp]
    refine Mx_of (cc := cX4_cell) (maxL := 7) (ret := (some .int)) (own := RX4) [some (.ref (Z 0 0)), some (.int a), some (.int b), some (.int c), some (.int d), none, none] rfl (by decide +kernel) rfl rfl (by exact Nat.le_of_ble_eq_true rfl) rfl ?_
    intro p9 e9 s9 m9 args9 below9 meth9 c9 C hr hex hz hsz
    refine V_aload_n (i := 0) C dX4_cell_0 rfl rfl ?_
    refine V_iload_n (i := 1) C dX4_cell_1 rfl rfl ?_
    refine V_iload_n (i := 2) C dX4_cell_2 rfl rfl ?_
    refine V_iload_n (i := 3) C dX4_cell_3 rfl rfl ?_
    refine V_xcallVg (n := 3) C (c_needCell0 hlt r hI.1 (celN_no hI.1 hx)) dX4_cell_4 gX4_cell_X4_needCell rfl (by first | assumption | exact hset_s _ _ _) rfl (by decide +kernel) rfl rfl (by exact Nat.le_of_ble_eq_true rfl) ⟨Nat.le_of_ble_eq_true rfl, Nat.le_of_ble_eq_true rfl⟩ ⟨Nat.le_of_ble_eq_true rfl, Nat.le_of_ble_eq_true rfl⟩ (by exact Nat.le_of_ble_eq_true rfl) (by exact Nat.le_of_ble_eq_true rfl) hex hz SZr.moves hsz Psx_of (fun v9 h9 hr9 => ?_)
    exact hr9.elim
set_option maxHeartbeats 4000000 in
set_option maxRecDepth 100000 in
theorem m_old (hlt : l.stackTraces = false) (r : XR cA Z X ta h) (t : tyv Z X ta) (hI : LI X) {a b c d : Int32} : Mx l D cA bs SZr yX4_old wsX4_old (rmk 9 4 30) [.ref (Z 0 0), .int a, .int b, .int c, .int d] h (Pst cA Z X h (sp_old X a b c d)) (Psx h (sp_old X a b c d)) := by
  have hrow := r.row
  by_cases hx : celN X a b c
  · obtain ⟨k, i, j, hk, hi, hj, rfl, rfl, rfl, ek, ec⟩ := celN_of hI.1 hx
    have hkk := at_lt hi hj
    have hce := r.cell hk hkk
    by_cases hd : okR d 0 255
    · have hsp : sp_old X (nI k) (nI i) (nI j) d = if (xg X k (j * xwd X k + i)).1 = 0 then (none, nI (cntN (fset (xg X k) (j * xwd X k + i) (cdO (xg X k (j * xwd X k + i)) d)) 3 (xN X k)), setG X k (j * xwd X k + i) (cdO (xg X k (j * xwd X k + i)) d)) else (some kIS, 0, X) := by unfold sp_old; rw [if_pos hx, if_pos hd, ek, ec]
      rw [hsp]
      refine Mx_of (cc := cX4_old) (maxL := 6) (ret := (some .int)) (own := RX4) [some (.ref (Z 0 0)), some (.int (nI k)), some (.int (nI i)), some (.int (nI j)), some (.int d), none] rfl (by decide +kernel) rfl rfl (by exact Nat.le_of_ble_eq_true rfl) rfl ?_
      intro p9 e9 s9 m9 args9 below9 meth9 c9 C hr hex hz hsz
      refine V_aload_n (i := 0) C dX4_old_0 rfl rfl ?_
      refine V_iload_n (i := 1) C dX4_old_1 rfl rfl ?_
      refine V_iload_n (i := 2) C dX4_old_2 rfl rfl ?_
      refine V_iload_n (i := 3) C dX4_old_3 rfl rfl ?_
      refine V_callV (n := 3) C (c_needCell1 r hI.1 hk hi hj) dX4_old_4 gX4_old_X4_needCell rfl (by first | assumption | exact hset_s _ _ _) rfl (by decide +kernel) rfl rfl (by exact Nat.le_of_ble_eq_true rfl) ⟨Nat.le_of_ble_eq_true rfl, Nat.le_of_ble_eq_true rfl⟩ ⟨Nat.le_of_ble_eq_true rfl, Nat.le_of_ble_eq_true rfl⟩ (fun v9 h9 hr9 => ?_)
      obtain ⟨rfl, rfl⟩ := hr9
      refine V_astore5 C dX4_old_7 (by decide) ?_
      refine V_iload C dX4_old_9 rfl ?_
      refine V_iconst (v := 0) C dX4_old_11 (by decide) ?_
      refine V_sipush (v := 255) C dX4_old_12 (by decide) ?_
      refine V_callS (n := 3) C (c_range1 hd.1 hd.2) dX4_old_15 gX4_old_X4_needRange rfl (by decide +kernel) rfl rfl (by exact Nat.le_of_ble_eq_true rfl) ⟨Nat.le_of_ble_eq_true rfl, Nat.le_of_ble_eq_true rfl⟩ ⟨Nat.le_of_ble_eq_true rfl, Nat.le_of_ble_eq_true rfl⟩ (fun v9 h9 hr9 => ?_)
      obtain ⟨rfl, rfl⟩ := hr9
      refine V_aload C dX4_old_18 rfl ?_
      refine V_get (ci := 0) (CN := RX0) (T := TX0) (N := 10) C dX4_old_20 (by first | assumption | exact hset_s _ _ _) rfl 2 (by decide) flX4_old_83 wiX4_old_X0 (by rfl) ?_
      refine V_if_eq (tgt := 36) C dX4_old_23 (by decide) (fun c23 => ?_) (fun c23 => ?_)
      · have c23 : (xg X k (j * xwd X k + i)).1 = 0 := c23
        rw [if_pos c23]
        refine V_aload C dX4_old_36 rfl ?_
        refine V_iconst (v := 3) C dX4_old_38 (by decide) ?_
        refine V_put (ci := 0) (CN := RX0) (T := TX0) (N := 10) (ty := (tyX0 2)) C dX4_old_39 (by first | assumption | exact hset_s _ _ _) rfl tyX0 tyX0_ok nmX0 2 (by decide) flX4_old_83 wiX4_old_X0 rfl (tyX0_ok 2 (by decide)) (by rfl) (by rfl) (by exact Nat.le_of_ble_eq_true rfl) ?_
        refine V_aload C dX4_old_42 rfl ?_
        refine V_iload C dX4_old_44 rfl ?_
        refine V_put (ci := 0) (CN := RX0) (T := TX0) (N := 10) (ty := (tyX0 4)) C dX4_old_46 (by first | assumption | exact hset_s _ _ _) rfl tyX0 tyX0_ok nmX0 4 (by decide) flX4_old_80 wiX4_old_X0 rfl (tyX0_ok 4 (by decide)) (by rfl) (by rfl) (by exact Nat.le_of_ble_eq_true rfl) ?_
        rw [hset_hset]
        have r2 : XR cA Z (setG X k (j * xwd X k + i) (cdO (xg X k (j * xwd X k + i)) d)) ta _ := r.setCell hk hkk (cdO (xg X k (j * xwd X k + i)) d)
        have f2 := r.ffr (Y := setG X k (j * xwd X k + i) (cdO (xg X k (j * xwd X k + i)) d)) (hfr.cell hk hkk (e := cellC Z (xwd X k) (j * xwd X k + i) (cdO (xg X k (j * xwd X k + i)) d)))
        refine V_h (h2 := hset h9 (Z (k + 6) (j * xwd X k + i)) (cellC Z (xwd X k) (j * xwd X k + i) (cdO (xg X k (j * xwd X k + i)) d))) rfl ?_
        generalize hset h9 (Z (k + 6) (j * xwd X k + i)) (cellC Z (xwd X k) (j * xwd X k + i) (cdO (xg X k (j * xwd X k + i)) d)) = h8 at r2 f2 ⊢
        have hrow := r2.row
        have hpic := r2.pic (p := k) hk
        refine V_aload_n (i := 0) C dX4_old_49 rfl rfl ?_
        refine V_iload_n (i := 1) C dX4_old_50 rfl rfl ?_
        refine V_callV (n := 1) C (c_needPic1 r2 hI.1 hk) dX4_old_51 gX4_old_X4_needPicture rfl (by first | assumption | exact hset_s _ _ _) rfl (by decide +kernel) rfl rfl (by exact Nat.le_of_ble_eq_true rfl) ⟨Nat.le_of_ble_eq_true rfl, Nat.le_of_ble_eq_true rfl⟩ ⟨Nat.le_of_ble_eq_true rfl, Nat.le_of_ble_eq_true rfl⟩ (fun v9 h9 hr9 => ?_)
        obtain ⟨rfl, rfl⟩ := hr9
        refine V_iconst (v := 3) C dX4_old_54 (by decide) ?_
        refine V_callV (n := 1) C (c_count (kd := 3) (r2.to_pl k) hI.1 hk) dX4_old_55 gX4_old_X3_count rfl (by first | assumption | exact hset_s _ _ _) rfl (by decide +kernel) rfl rfl (by exact Nat.le_of_ble_eq_true rfl) ⟨Nat.le_of_ble_eq_true rfl, Nat.le_of_ble_eq_true rfl⟩ ⟨Nat.le_of_ble_eq_true rfl, Nat.le_of_ble_eq_true rfl⟩ (fun v9 h9 hr9 => ?_)
        obtain ⟨rfl, rfl⟩ := hr9
        exact V_x (V_iret C dX4_old_58 hr ⟨rfl, by rw [show xg (setG X k (j * xwd X k + i) (cdO (xg X k (j * xwd X k + i)) d)) k = fset (xg X k) (j * xwd X k + i) (cdO (xg X k (j * xwd X k + i)) d) from xg_wG _ _]; rfl, Z, ta, r2, t, rfl, f2⟩ (by exact Nat.le_of_ble_eq_true rfl) (by exact Nat.le_of_ble_eq_true rfl))
      · have c23 : ¬ (xg X k (j * xwd X k + i)).1 = 0 := c23
        rw [if_neg c23]
        exact V_throw (Post := fun _ _ => True) (cls := "java/lang/IllegalStateException") (text := "the cell is not open") (names := ["java/lang/RuntimeException", "java/lang/Exception"]) (ik := 36) (is := 86) (ic := 40) C hlt (by decide +kernel) (by decide +kernel) (by decide +kernel) (by decide +kernel) (zz_hat (Cx_ts C) hsz (by decide +kernel) (by decide +kernel)) (by decide +kernel) hz (hsz.1 _ (List.mem_of_getElem? (i := 8) rfl)) hex dX4_old_26 dX4_old_29 dX4_old_30 dX4_old_32 dX4_old_35 (by exact Nat.le_of_ble_eq_true rfl) (by exact Nat.le_of_ble_eq_true rfl) (by exact Nat.le_of_ble_eq_true rfl) (by exact Nat.le_of_ble_eq_true rfl) ⟨rfl, rfl⟩ (by exact Nat.le_of_ble_eq_true rfl) (by exact Nat.le_of_ble_eq_true rfl)
    · have hsp : sp_old X (nI k) (nI i) (nI j) d = (some kIA, 0, X) := by unfold sp_old; rw [if_pos hx, if_neg hd]
      rw [hsp]
      refine Mx_of (cc := cX4_old) (maxL := 6) (ret := (some .int)) (own := RX4) [some (.ref (Z 0 0)), some (.int (nI k)), some (.int (nI i)), some (.int (nI j)), some (.int d), none] rfl (by decide +kernel) rfl rfl (by exact Nat.le_of_ble_eq_true rfl) rfl ?_
      intro p9 e9 s9 m9 args9 below9 meth9 c9 C hr hex hz hsz
      refine V_aload_n (i := 0) C dX4_old_0 rfl rfl ?_
      refine V_iload_n (i := 1) C dX4_old_1 rfl rfl ?_
      refine V_iload_n (i := 2) C dX4_old_2 rfl rfl ?_
      refine V_iload_n (i := 3) C dX4_old_3 rfl rfl ?_
      refine V_callV (n := 3) C (c_needCell1 r hI.1 hk hi hj) dX4_old_4 gX4_old_X4_needCell rfl (by first | assumption | exact hset_s _ _ _) rfl (by decide +kernel) rfl rfl (by exact Nat.le_of_ble_eq_true rfl) ⟨Nat.le_of_ble_eq_true rfl, Nat.le_of_ble_eq_true rfl⟩ ⟨Nat.le_of_ble_eq_true rfl, Nat.le_of_ble_eq_true rfl⟩ (fun v9 h9 hr9 => ?_)
      obtain ⟨rfl, rfl⟩ := hr9
      refine V_astore5 C dX4_old_7 (by decide) ?_
      refine V_iload C dX4_old_9 rfl ?_
      refine V_iconst (v := 0) C dX4_old_11 (by decide) ?_
      refine V_sipush (v := 255) C dX4_old_12 (by decide) ?_
      refine V_xcallSg (n := 3) C (c_range0 hlt hd) dX4_old_15 gX4_old_X4_needRange rfl (by decide +kernel) rfl rfl (by exact Nat.le_of_ble_eq_true rfl) ⟨Nat.le_of_ble_eq_true rfl, Nat.le_of_ble_eq_true rfl⟩ ⟨Nat.le_of_ble_eq_true rfl, Nat.le_of_ble_eq_true rfl⟩ (by exact Nat.le_of_ble_eq_true rfl) (by exact Nat.le_of_ble_eq_true rfl) hex hz SZr.moves hsz Psx_of (fun v9 h9 hr9 => ?_)
      exact hr9.elim
  · have hsp : sp_old X a b c d = (some kIO, 0, X) := by unfold sp_old; rw [if_neg hx]
    rw [hsp]
    refine Mx_of (cc := cX4_old) (maxL := 6) (ret := (some .int)) (own := RX4) [some (.ref (Z 0 0)), some (.int a), some (.int b), some (.int c), some (.int d), none] rfl (by decide +kernel) rfl rfl (by exact Nat.le_of_ble_eq_true rfl) rfl ?_
    intro p9 e9 s9 m9 args9 below9 meth9 c9 C hr hex hz hsz
    refine V_aload_n (i := 0) C dX4_old_0 rfl rfl ?_
    refine V_iload_n (i := 1) C dX4_old_1 rfl rfl ?_
    refine V_iload_n (i := 2) C dX4_old_2 rfl rfl ?_
    refine V_iload_n (i := 3) C dX4_old_3 rfl rfl ?_
    refine V_xcallVg (n := 3) C (c_needCell0 hlt r hI.1 (celN_no hI.1 hx)) dX4_old_4 gX4_old_X4_needCell rfl (by first | assumption | exact hset_s _ _ _) rfl (by decide +kernel) rfl rfl (by exact Nat.le_of_ble_eq_true rfl) ⟨Nat.le_of_ble_eq_true rfl, Nat.le_of_ble_eq_true rfl⟩ ⟨Nat.le_of_ble_eq_true rfl, Nat.le_of_ble_eq_true rfl⟩ (by exact Nat.le_of_ble_eq_true rfl) (by exact Nat.le_of_ble_eq_true rfl) hex hz SZr.moves hsz Psx_of (fun v9 h9 hr9 => ?_)
    exact hr9.elim
set_option maxHeartbeats 4000000 in
set_option maxRecDepth 100000 in
theorem m_fill (hlt : l.stackTraces = false) (r : XR cA Z X ta h) (t : tyv Z X ta) (hI : LI X) {x : Int32} : Mx l D cA bs SZr yX4_fill wsX4_fill (rmk 9 4 30) [.ref (Z 0 0), .int x] h (Pst cA Z X h (sp_fill X x)) (Psx h (sp_fill X x)) := by
  have hrow := r.row
  by_cases hx : picN X x
  · obtain ⟨k, hk, rfl, ek⟩ := picN_of hI.1 hx
    have hpic := r.pic hk
    have hsp : sp_fill X (nI k) = (none, nI (flX X k).2, xpl X k (xlo X) (flX X k).1) := by unfold sp_fill; rw [if_pos hx, ek]
    rw [hsp]
    refine Mx_of (cc := cX4_fill) (maxL := 2) (ret := (some .int)) (own := RX4) [some (.ref (Z 0 0)), some (.int (nI k))] rfl (by decide +kernel) rfl rfl (by exact Nat.le_of_ble_eq_true rfl) rfl ?_
    intro p9 e9 s9 m9 args9 below9 meth9 c9 C hr hex hz hsz
    refine V_aload_n (i := 0) C dX4_fill_0 rfl rfl ?_
    refine V_iload_n (i := 1) C dX4_fill_1 rfl rfl ?_
    refine V_callV (n := 1) C (c_needPic1 r hI.1 hk) dX4_fill_2 gX4_fill_X4_needPicture rfl (by first | assumption | exact hset_s _ _ _) rfl (by decide +kernel) rfl rfl (by exact Nat.le_of_ble_eq_true rfl) ⟨Nat.le_of_ble_eq_true rfl, Nat.le_of_ble_eq_true rfl⟩ ⟨Nat.le_of_ble_eq_true rfl, Nat.le_of_ble_eq_true rfl⟩ (fun v9 h9 hr9 => ?_)
    obtain ⟨rfl, rfl⟩ := hr9
    refine V_callV (n := 0) C (c_fillGaps (r.to_pl k) hI.1 hk (fun q hq => ((hI.2.1 k hk).1 q hq).2.2)) dX4_fill_5 gX4_fill_X3_fillGaps rfl (by first | assumption | exact hset_s _ _ _) rfl (by decide +kernel) rfl rfl (by exact Nat.le_of_ble_eq_true rfl) ⟨Nat.le_of_ble_eq_true rfl, Nat.le_of_ble_eq_true rfl⟩ ⟨Nat.le_of_ble_eq_true rfl, Nat.le_of_ble_eq_true rfl⟩ (fun v9 h9 hr9 => ?_)
    obtain ⟨rfl, r2, f2⟩ := hr9
    exact V_x (V_iret C dX4_fill_8 hr ⟨rfl, rfl, Z, ta, r2, t, rfl, r.ffr f2⟩ (by exact Nat.le_of_ble_eq_true rfl) (by exact Nat.le_of_ble_eq_true rfl))
  · have hsp : sp_fill X x = (some kIO, 0, X) := by unfold sp_fill; rw [if_neg hx]
    rw [hsp]
    refine Mx_of (cc := cX4_fill) (maxL := 2) (ret := (some .int)) (own := RX4) [some (.ref (Z 0 0)), some (.int x)] rfl (by decide +kernel) rfl rfl (by exact Nat.le_of_ble_eq_true rfl) rfl ?_
    intro p9 e9 s9 m9 args9 below9 meth9 c9 C hr hex hz hsz
    refine V_aload_n (i := 0) C dX4_fill_0 rfl rfl ?_
    refine V_iload_n (i := 1) C dX4_fill_1 rfl rfl ?_
    refine V_xcallVg (n := 1) C (c_needPic0 hlt r hI.1 hx) dX4_fill_2 gX4_fill_X4_needPicture rfl (by first | assumption | exact hset_s _ _ _) rfl (by decide +kernel) rfl rfl (by exact Nat.le_of_ble_eq_true rfl) ⟨Nat.le_of_ble_eq_true rfl, Nat.le_of_ble_eq_true rfl⟩ ⟨Nat.le_of_ble_eq_true rfl, Nat.le_of_ble_eq_true rfl⟩ (by exact Nat.le_of_ble_eq_true rfl) (by exact Nat.le_of_ble_eq_true rfl) hex hz SZr.moves hsz Psx_of (fun v9 h9 hr9 => ?_)
    exact hr9.elim
end PUB2
