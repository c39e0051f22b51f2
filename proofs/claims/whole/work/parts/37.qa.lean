/-! the reference's calls: aimAnew -/
theorem brT_ceq {w g : Nat} {G : Nat → Cd} {x y : Int32} {v : UInt32} (j : Nat) : ceq (G j) (brT w g G x y v j) := by
  unfold brT
  split
  · unfold fset
    by_cases e : j = y.toNatClampNeg * w + x.toNatClampNeg
    · rw [if_pos e, ← e]
      exact ⟨rfl, rfl, rfl, rfl, rfl, rfl⟩
    · rw [if_neg e]
      exact ceq.rf _
  · exact ceq.rf _
theorem pass_ceq {w g k : Nat} {G : Nat → Cd} {u : UInt32} (j : Nat) : ceq (G j) (passG w g k G u j) := by
  unfold passG
  split
  · exact ceq.rf _
  · exact (brT_ceq j).tr ((brT_ceq j).tr ((brT_ceq j).tr (brT_ceq j)))
theorem fg_ceq {G : Nat → Cd} {i : Nat} (j : Nat) : ceq (G j) (fgG G i j) := by
  unfold fgG
  split
  · exact ⟨rfl, rfl, rfl, rfl, rfl, rfl⟩
  · exact ceq.rf _
theorem an_ceq {w g : Nat} {L : Nat → Ld} {G : Nat → Cd} (i j : Nat) : ceq (G j) (anS w g L G i j) := by
  induction i with
  | zero => exact ceq.rf _
  | succ i ih => exact ih.tr (pass_ceq j)
theorem PR.f18 {X : XS} {I : MI} {F : MF} (h : PR X I F) (B : Nat → UInt32) : PR X I (fset F 18 B) := h
theorem bR_fg {w g : Nat} (hw1 : 1 ≤ w) (hw : w ≤ 8) (hg : g ≤ 8) {G : Nat → Cd} {B : Nat → UInt32} (hB : ∀ j, j < 64 → B j = FP.fconst0) : bR w (w * g) (fgG G (w * g)) B := by
  intro k hk
  have h1 := k_mod (k := k) hw1
  have h2 := k_div hk
  rw [hB _ (by omega), show fgG G (w * g) k = cdB (G k) FP.fconst0 from if_pos hk]
  rfl
theorem pass_0 {w g k : Nat} {G : Nat → Cd} : passG w g k G FP.fconst0 = G := by
  unfold passG
  exact if_pos (by decide +kernel)
section RPUB10
variable {l : Launch} {D : va_G} {cA : Nat → ClassId} {bs : Nat} {A : Nat → Nat} {I : MI} {F : MF} {n : MN} {h : hE} {X : XS} {th : Int32} {M : Nat}
set_option maxHeartbeats 4000000 in
set_option maxRecDepth 100000 in
theorem q_aim (r : MR cA A I F (mnn X th) h) (hI : CI M X) (hP : PR X I F) {a b c : Int32} : Mt l D cA bs yX5_aimAnew wsX5_aimAnew (rmk 3 0 0) [.ref (A 0), .int a, .int b, .int c] h (Rst cA A kIO kIA (sp_aim X a b c) h) := by
  have m0 := r.m0
  have hd := hI.1.1
  have hnp := hd.2.1
  have hnl := hd.1
  by_cases hx : celN X a b c
  · obtain ⟨p, i, j, hp, hi, hj, rfl, rfl, rfl, ep, ec⟩ := celN_of hd hx
    have hk := at_lt hi hj
    obtain ⟨⟨w1, w2⟩, g1, g2⟩ := hd.2.2 p hp
    have hN := (hd.N hp).2
    have hN2 : xwd X p * xhg X p ≤ 64 := hN
    have hPI := hI.1.2.1 p hp
    have hcl := cx_lt (p := p) w1 w2 g2 (by omega) hk
    have hw0 : ¬ nI (xwd X p) = 0 := nI_ne0 (by omega) (by omega)
    obtain ⟨p1, p2⟩ := hP.2.2.1 p hp
    have e : sp_aim X (nI p) (nI i) (nI j) = (none, (FP.fadd (FP.i2f (cwn (anX X p (j * xwd X p + i) (j * xwd X p + i)))) (cbr (anX X p (j * xwd X p + i) (j * xwd X p + i)))).toInt32, xpl X p (xlo X) (anX X p (j * xwd X p + i))) := by unfold sp_aim; rw [if_pos hx, ep, ec]
    rw [e]
    have hfin := an_aim hI.1 hp hk
    have hPIg := hPI.fg (xN X p)
    have hnb := fun {q : Nat} (hq : q ≤ xN X p) => an_nb (g := xhg X p) hPIg w1 w2 g2 hN (fg_nb (xwd X p) (xN X p) (xg X p)) hq
    have hix : ∀ x y : Nat, (8 : Int32) * nI y + nI x = nI (8 * y + x) := fun x y => by rw [show (8 : Int32) = nI 8 from rfl, pk_mul, nI_add]
    have han : ∀ q k, ceq (xg X p k) (anX X p q k) := fun q k => (fg_ceq k).tr (an_ceq q k)
    have hP0 : PR (xpl X p (xlo X) (xg X p)) I F := by rw [xpl_id]; exact hP
    refine Mt_of (cc := cX5_aimAnew) (maxL := 8) (ret := (some .int)) (own := RX5) [some (.ref (A 0)), some (.int (nI p)), some (.int (nI i)), some (.int (nI j)), none, none, none, none] rfl (by decide +kernel) rfl rfl (by exact Nat.le_of_ble_eq_true rfl) rfl ?_
    intro p9 e9 s9 m9 args9 below9 meth9 c9 C hr hnm
    refine V_aload_n (i := 0) C dX5_aimAnew_0 rfl rfl ?_
    refine V_aload_n (i := 0) C dX5_aimAnew_1 rfl rfl ?_
    refine V_iload_n (i := 1) C dX5_aimAnew_2 rfl rfl ?_
    refine V_iload_n (i := 2) C dX5_aimAnew_3 rfl rfl ?_
    refine V_iload_n (i := 3) C dX5_aimAnew_4 rfl rfl ?_
    refine V_callV (n := 3) C (r_isCell r hd hP) dX5_aimAnew_5 gX5_aimAnew_X5_isCell rfl (by first | assumption | exact hset_s _ _ _) rfl (by decide +kernel) rfl rfl (by exact Nat.le_of_ble_eq_true rfl) ⟨Nat.le_of_ble_eq_true rfl, Nat.le_of_ble_eq_true rfl⟩ ⟨Nat.le_of_ble_eq_true rfl, Nat.le_of_ble_eq_true rfl⟩ (fun v9 h9 hr9 => ?_)
    rw [if_pos hx] at hr9
    obtain ⟨rfl, z9⟩ := hr9
    have z9 := z9.symm
    subst z9
    refine V_callV (n := 1) C (r_asked1 (P := True) r rfl) dX5_aimAnew_8 gX5_aimAnew_X5_asked rfl (by first | assumption | exact hset_s _ _ _) rfl (by decide +kernel) rfl rfl (by exact Nat.le_of_ble_eq_true rfl) ⟨Nat.le_of_ble_eq_true rfl, Nat.le_of_ble_eq_true rfl⟩ ⟨Nat.le_of_ble_eq_true rfl, Nat.le_of_ble_eq_true rfl⟩ (fun v9 h9 hr9 => ?_)
    obtain ⟨rfl, r2, f2⟩ := hr9
    rw [if_pos trivial] at r2
    have r2 : MR cA A I F (mnn X 0) h9 := r2
    refine V_if_ne (tgt := 16) C dX5_aimAnew_11 (by decide) (fun _ => ?_) (fun z9 => absurd z9 (by decide))
    refine V_iconst (v := 0) C dX5_aimAnew_16 (by decide) ?_
    refine V_istore4 C dX5_aimAnew_17 (by decide) ?_
    refine V_for 64 (fun q h4 ls4 => (∃ B, MR cA A I (fset F 18 B) (mnn X 0) h4 ∧ ∀ j, j < q → B j = FP.fconst0) ∧ mfr h h4 ∧ ls4 = [some (.ref (A 0)), some (.int (nI p)), some (.int (nI i)), some (.int (nI j)), some (.int (nI q)), none, none, none]) ?_ ?_ 0 (by decide) ⟨⟨F 18, by rw [fset_id rfl]; exact r2, fun j hj => absurd hj (Nat.not_lt_zero j)⟩, f2, rfl⟩
    · rintro q h4 ls4 hq ⟨⟨B, r4, hB⟩, f4, rfl⟩ ih
      have m0 := r4.m0
      have m18 := r4.m18
      refine V_iload C dX5_aimAnew_19 rfl ?_
      refine V_bipush (v := 64) C dX5_aimAnew_21 (by decide) ?_
      refine V_icmp_ge (tgt := 40) C dX5_aimAnew_23 (by decide) (fun z9 => absurd z9 (nI_ge (b := 64) hq (by decide))) (fun _ => ?_)
      refine V_aload_n (i := 0) C dX5_aimAnew_26 rfl rfl ?_
      refine V_get (ci := 5) (CN := RX5) (T := TX5) (N := 26) C dX5_aimAnew_27 (by first | assumption | exact hset_s _ _ _) rfl 18 (by decide) flX5_aimAnew_54 wiX5_aimAnew_X5 (by rfl) ?_
      refine V_iload C dX5_aimAnew_30 rfl ?_
      refine V_fconst0 C dX5_aimAnew_32 ?_
      refine V_fastK C dX5_aimAnew_33 (by first | assumption | exact hset_s _ _ _) rfl hq (by decide) ?_
      have r5 := r4.s18 (fset B q FP.fconst0)
      rw [fset_fset] at r5
      refine V_iinc4 (v := nI (q + 1)) C dX5_aimAnew_34 (nI_1 _) (by decide) ?_
      refine V_goto (tgt := 19) C dX5_aimAnew_37 (by decide) ?_
      exact V_wk (by simp [lle]) (ih _ _ ⟨⟨_, r5, fun j hj => by
        by_cases hjq : j = q
        · rw [hjq, fset_s]
        · rw [fset_n hjq]; exact hB j (by omega)⟩, f4.tr (r4.f18 _), rfl⟩)
    · rintro h4 ls4 ⟨⟨B, r4, hB⟩, f4, rfl⟩
      refine V_iload C dX5_aimAnew_19 rfl ?_
      refine V_bipush (v := 64) C dX5_aimAnew_21 (by decide) ?_
      refine V_icmp_ge (tgt := 40) C dX5_aimAnew_23 (by decide) (fun _ => ?_) (fun z9 => absurd (nI_le (b := 64) (Nat.le_refl _) (by decide)) z9)
      refine V_iconst (v := 0) C dX5_aimAnew_40 (by decide) ?_
      refine V_istore4 C dX5_aimAnew_41 (by decide) ?_
      refine V_for (j * xwd X p + i) (fun q h6 ls6 => (∃ B, MR cA A I (fset F 18 B) (mnn X 0) h6 ∧ bR (xwd X p) (xwd X p * xhg X p) (anX X p q) B) ∧ mfr h h6 ∧ ls6 = [some (.ref (A 0)), some (.int (nI p)), some (.int (nI i)), some (.int (nI j)), some (.int (nI q)), none, none, none]) ?_ ?_ 0 (Nat.zero_le _) ⟨⟨B, r4, bR_fg w1 w2 g2 hB⟩, f4, rfl⟩
      · rintro q h6 ls6 hq ⟨⟨B6, r6, hB6⟩, f6, rfl⟩ ih
        have hqN : q < xN X p := Nat.lt_trans hq hk
        have hqN2 : q < xwd X p * xhg X p := hqN
        have m0 := r6.m0
        have m3 := r6.m3
        have m10 := r6.m10
        have m11 := r6.m11
        have m12 := r6.m12
        have m14 := r6.m14
        have m18 := r6.m18
        have hqc := cx_lt (p := p) w1 w2 g2 (by omega) hqN2
        obtain ⟨q1, q2, q3, q4, q5, q6⟩ := (hP.2.2.2.1 p hp q hqN).eq (han q q)
        have hdiv : q / xwd X p < xhg X p := k_div hqN2
        have hmod : q % xwd X p < xwd X p := k_mod w1
        have hst : anX X p (q + 1) = passG (xwd X p) (xhg X p) q (anX X p q) (lackC (xlo X) (anX X p q q) (FP.fadd (FP.i2f (cwn (anX X p q q))) (cbr (anX X p q q)))) := rfl
        have hnq := hnb (Nat.le_of_lt hqN)
        have hPIq := hPIg.an (w := xwd X p) (g := xhg X p) q
        have ha1 : fb (FP.fadd (FP.i2f (cwn (anX X p q q))) (cbr (anX X p q q))) (255 + 16 * (32 * q)) := (aim_fb hPIq hN hqN hnq).1
        have hl1 : fb (lackC (xlo X) (anX X p q q) (FP.fadd (FP.i2f (cwn (anX X p q q))) (cbr (anX X p q q)))) (16 * (32 * (q + 1))) := lack_fb hPIq hN hqN ha1
        have hB7 : B6 (8 * (q / xwd X p) + q % xwd X p) = cbr (anX X p q q) := hB6 q hqN2
        have hnq2 : ∀ k, k < xwd X p * xhg X p → fb (cbr (anX X p q k)) (2 ^ 20) ∧ nz (cbr (anX X p q k)) := fun k hk => ⟨fb_mono (hnq k hk).1 (Nat.le_trans (difU_le (Nat.le_of_lt hqN) hN) (by decide)), (hnq k hk).2⟩
        refine V_join 145 (fun h8 ls8 st8 => (∃ B, MR cA A I (fset F 18 B) (mnn X 0) h8 ∧ bR (xwd X p) (xwd X p * xhg X p) (anX X p (q + 1)) B) ∧ mfr h h8 ∧ ls8 = [some (.ref (A 0)), some (.int (nI p)), some (.int (nI i)), some (.int (nI j)), some (.int (nI q)), none, none, none] ∧ st8 = []) ?_ (fun hj145 => ?_)
        · rintro h8 ls8 st8 ⟨hb8, f8, rfl, rfl⟩
          refine V_iinc4 (v := nI (q + 1)) C dX5_aimAnew_145 (nI_1 _) (by decide) ?_
          refine V_goto (tgt := 43) C dX5_aimAnew_148 (by decide) ?_
          exact V_wk (by simp [lle]) (ih _ _ ⟨hb8, f8, rfl⟩)
        rcases hcl2 : clt (anX X p q q) with _ | b2
        · rw [hcl2] at q3
          rw [show lackC (xlo X) (anX X p q q) (FP.fadd (FP.i2f (cwn (anX X p q q))) (cbr (anX X p q q))) = FP.fconst0 by unfold lackC; rw [hcl2], pass_0] at hst
          refine V_iload C dX5_aimAnew_43 rfl ?_
          refine V_aload_n (i := 0) C dX5_aimAnew_45 rfl rfl ?_
          refine V_get (ci := 5) (CN := RX5) (T := TX5) (N := 26) C dX5_aimAnew_46 (by first | assumption | exact hset_s _ _ _) rfl 10 (by decide) flX5_aimAnew_30 wiX5_aimAnew_X5 (by rfl) ?_
          refine V_iload_n (i := 1) C dX5_aimAnew_49 rfl rfl ?_
          refine V_ialdK C dX5_aimAnew_50 (by first | assumption | exact hset_s _ _ _) rfl (by omega) (by decide) p1 ?_
          refine V_iload_n (i := 3) C dX5_aimAnew_51 rfl rfl ?_
          refine V_imul C dX5_aimAnew_52 ?_
          refine V_iload_n (i := 2) C dX5_aimAnew_53 rfl rfl ?_
          refine V_iadd C dX5_aimAnew_54 ?_
          rw [pk_mul, nI_add]
          refine V_icmp_ge (tgt := 151) C dX5_aimAnew_55 (by decide) (fun z9 => absurd z9 (by rw [Nat.mul_comm]; exact nI_ge hq (by omega))) (fun _ => ?_)
          refine V_iload C dX5_aimAnew_58 rfl ?_
          refine V_aload_n (i := 0) C dX5_aimAnew_60 rfl rfl ?_
          refine V_get (ci := 5) (CN := RX5) (T := TX5) (N := 26) C dX5_aimAnew_61 (by first | assumption | exact hset_s _ _ _) rfl 10 (by decide) flX5_aimAnew_30 wiX5_aimAnew_X5 (by rfl) ?_
          refine V_iload_n (i := 1) C dX5_aimAnew_64 rfl rfl ?_
          refine V_ialdK C dX5_aimAnew_65 (by first | assumption | exact hset_s _ _ _) rfl (by omega) (by decide) p1 ?_
          refine V_irem C dX5_aimAnew_66 hw0 ?_
          rw [pk_rem (by omega) (by omega) (by omega)]
          refine V_istore5 C dX5_aimAnew_67 (by decide) ?_
          refine V_iload C dX5_aimAnew_69 rfl ?_
          refine V_aload_n (i := 0) C dX5_aimAnew_71 rfl rfl ?_
          refine V_get (ci := 5) (CN := RX5) (T := TX5) (N := 26) C dX5_aimAnew_72 (by first | assumption | exact hset_s _ _ _) rfl 10 (by decide) flX5_aimAnew_30 wiX5_aimAnew_X5 (by rfl) ?_
          refine V_iload_n (i := 1) C dX5_aimAnew_75 rfl rfl ?_
          refine V_ialdK C dX5_aimAnew_76 (by first | assumption | exact hset_s _ _ _) rfl (by omega) (by decide) p1 ?_
          refine V_idiv C dX5_aimAnew_77 hw0 ?_
          rw [pk_div (by omega) (by omega) (by omega)]
          refine V_istore6 C dX5_aimAnew_78 (by decide) ?_
          refine V_iload_n (i := 1) C dX5_aimAnew_80 rfl rfl ?_
          refine V_iload C dX5_aimAnew_81 rfl ?_
          refine V_iload C dX5_aimAnew_83 rfl ?_
          refine V_callS (n := 3) C (r_cellOf) dX5_aimAnew_85 gX5_aimAnew_X5_cellOf rfl (by decide +kernel) rfl rfl (by exact Nat.le_of_ble_eq_true rfl) ⟨Nat.le_of_ble_eq_true rfl, Nat.le_of_ble_eq_true rfl⟩ ⟨Nat.le_of_ble_eq_true rfl, Nat.le_of_ble_eq_true rfl⟩ (fun v9 h9 hr9 => ?_)
          obtain ⟨rfl, z9⟩ := hr9
          have z9 := z9.symm
          subst z9
          rw [show 64 * p + 8 * (q / xwd X p) + q % xwd X p = cx (xwd X p) p q from rfl]
          refine V_istore7 C dX5_aimAnew_88 (by decide) ?_
          refine V_aload_n (i := 0) C dX5_aimAnew_90 rfl rfl ?_
          refine V_get (ci := 5) (CN := RX5) (T := TX5) (N := 26) C dX5_aimAnew_91 (by first | assumption | exact hset_s _ _ _) rfl 14 (by decide) flX5_aimAnew_42 wiX5_aimAnew_X5 (by rfl) ?_
          refine V_iload C dX5_aimAnew_94 rfl ?_
          refine V_ialdK C dX5_aimAnew_96 (by first | assumption | exact hset_s _ _ _) rfl hqc (by decide) q3 ?_
          refine V_iconst (v := (-1)) C dX5_aimAnew_97 (by decide) ?_
          refine V_icmp_eq (tgt := 145) C dX5_aimAnew_98 (by decide) (fun _ => ?_) (fun z9 => absurd rfl z9)
          exact V_wk (ls2 := [some (.ref (A 0)), some (.int (nI p)), some (.int (nI i)), some (.int (nI j)), some (.int (nI q)), none, none, none]) (by simp [lle]) (hj145 _ _ _ ⟨⟨B6, r6, by rw [hst]; exact hB6⟩, f6, rfl, rfl⟩)
        · rw [hcl2] at q3
          have hb2 := (hPIq.1 q hqN).1 b2 hcl2
          have u1 := (hP.1 b2 hb2).1
          rw [show lackC (xlo X) (anX X p q q) (FP.fadd (FP.i2f (cwn (anX X p q q))) (cbr (anX X p q q))) = FP.fsub (FP.fadd (FP.i2f (cwn (anX X p q q))) (cbr (anX X p q q))) (ltn (xlo X b2)) by unfold lackC; rw [hcl2]] at hst hl1
          have n1 := fb_n32 ha1
          have n2 := fb_n32 hl1
          refine V_iload C dX5_aimAnew_43 rfl ?_
          refine V_aload_n (i := 0) C dX5_aimAnew_45 rfl rfl ?_
          refine V_get (ci := 5) (CN := RX5) (T := TX5) (N := 26) C dX5_aimAnew_46 (by first | assumption | exact hset_s _ _ _) rfl 10 (by decide) flX5_aimAnew_30 wiX5_aimAnew_X5 (by rfl) ?_
          refine V_iload_n (i := 1) C dX5_aimAnew_49 rfl rfl ?_
          refine V_ialdK C dX5_aimAnew_50 (by first | assumption | exact hset_s _ _ _) rfl (by omega) (by decide) p1 ?_
          refine V_iload_n (i := 3) C dX5_aimAnew_51 rfl rfl ?_
          refine V_imul C dX5_aimAnew_52 ?_
          refine V_iload_n (i := 2) C dX5_aimAnew_53 rfl rfl ?_
          refine V_iadd C dX5_aimAnew_54 ?_
          rw [pk_mul, nI_add]
          refine V_icmp_ge (tgt := 151) C dX5_aimAnew_55 (by decide) (fun z9 => absurd z9 (by rw [Nat.mul_comm]; exact nI_ge hq (by omega))) (fun _ => ?_)
          refine V_iload C dX5_aimAnew_58 rfl ?_
          refine V_aload_n (i := 0) C dX5_aimAnew_60 rfl rfl ?_
          refine V_get (ci := 5) (CN := RX5) (T := TX5) (N := 26) C dX5_aimAnew_61 (by first | assumption | exact hset_s _ _ _) rfl 10 (by decide) flX5_aimAnew_30 wiX5_aimAnew_X5 (by rfl) ?_
          refine V_iload_n (i := 1) C dX5_aimAnew_64 rfl rfl ?_
          refine V_ialdK C dX5_aimAnew_65 (by first | assumption | exact hset_s _ _ _) rfl (by omega) (by decide) p1 ?_
          refine V_irem C dX5_aimAnew_66 hw0 ?_
          rw [pk_rem (by omega) (by omega) (by omega)]
          refine V_istore5 C dX5_aimAnew_67 (by decide) ?_
          refine V_iload C dX5_aimAnew_69 rfl ?_
          refine V_aload_n (i := 0) C dX5_aimAnew_71 rfl rfl ?_
          refine V_get (ci := 5) (CN := RX5) (T := TX5) (N := 26) C dX5_aimAnew_72 (by first | assumption | exact hset_s _ _ _) rfl 10 (by decide) flX5_aimAnew_30 wiX5_aimAnew_X5 (by rfl) ?_
          refine V_iload_n (i := 1) C dX5_aimAnew_75 rfl rfl ?_
          refine V_ialdK C dX5_aimAnew_76 (by first | assumption | exact hset_s _ _ _) rfl (by omega) (by decide) p1 ?_
          refine V_idiv C dX5_aimAnew_77 hw0 ?_
          rw [pk_div (by omega) (by omega) (by omega)]
          refine V_istore6 C dX5_aimAnew_78 (by decide) ?_
          refine V_iload_n (i := 1) C dX5_aimAnew_80 rfl rfl ?_
          refine V_iload C dX5_aimAnew_81 rfl ?_
          refine V_iload C dX5_aimAnew_83 rfl ?_
          refine V_callS (n := 3) C (r_cellOf) dX5_aimAnew_85 gX5_aimAnew_X5_cellOf rfl (by decide +kernel) rfl rfl (by exact Nat.le_of_ble_eq_true rfl) ⟨Nat.le_of_ble_eq_true rfl, Nat.le_of_ble_eq_true rfl⟩ ⟨Nat.le_of_ble_eq_true rfl, Nat.le_of_ble_eq_true rfl⟩ (fun v9 h9 hr9 => ?_)
          obtain ⟨rfl, z9⟩ := hr9
          have z9 := z9.symm
          subst z9
          rw [show 64 * p + 8 * (q / xwd X p) + q % xwd X p = cx (xwd X p) p q from rfl]
          refine V_istore7 C dX5_aimAnew_88 (by decide) ?_
          refine V_aload_n (i := 0) C dX5_aimAnew_90 rfl rfl ?_
          refine V_get (ci := 5) (CN := RX5) (T := TX5) (N := 26) C dX5_aimAnew_91 (by first | assumption | exact hset_s _ _ _) rfl 14 (by decide) flX5_aimAnew_42 wiX5_aimAnew_X5 (by rfl) ?_
          refine V_iload C dX5_aimAnew_94 rfl ?_
          refine V_ialdK C dX5_aimAnew_96 (by first | assumption | exact hset_s _ _ _) rfl hqc (by decide) q3 ?_
          refine V_iconst (v := (-1)) C dX5_aimAnew_97 (by decide) ?_
          refine V_icmp_eq (tgt := 145) C dX5_aimAnew_98 (by decide) (fun z9 => absurd z9 (m1_ne b2 (by omega))) (fun _ => ?_)
          refine V_aload_n (i := 0) C dX5_aimAnew_101 rfl rfl ?_
          refine V_iload_n (i := 1) C dX5_aimAnew_102 rfl rfl ?_
          refine V_iload C dX5_aimAnew_103 rfl ?_
          refine V_iload C dX5_aimAnew_105 rfl ?_
          refine V_aload_n (i := 0) C dX5_aimAnew_107 rfl rfl ?_
          refine V_get (ci := 5) (CN := RX5) (T := TX5) (N := 26) C dX5_aimAnew_108 (by first | assumption | exact hset_s _ _ _) rfl 12 (by decide) flX5_aimAnew_36 wiX5_aimAnew_X5 (by rfl) ?_
          refine V_iload C dX5_aimAnew_111 rfl ?_
          refine V_ialdK C dX5_aimAnew_113 (by first | assumption | exact hset_s _ _ _) rfl hqc (by decide) q1 ?_
          refine V_i2f C dX5_aimAnew_114 ?_
          refine V_aload_n (i := 0) C dX5_aimAnew_115 rfl rfl ?_
          refine V_get (ci := 5) (CN := RX5) (T := TX5) (N := 26) C dX5_aimAnew_116 (by first | assumption | exact hset_s _ _ _) rfl 18 (by decide) flX5_aimAnew_54 wiX5_aimAnew_X5 (by rfl) ?_
          refine V_bipush (v := 8) C dX5_aimAnew_119 (by decide) ?_
          refine V_iload C dX5_aimAnew_121 rfl ?_
          refine V_imul C dX5_aimAnew_123 ?_
          refine V_iload C dX5_aimAnew_124 rfl ?_
          refine V_iadd C dX5_aimAnew_126 ?_
          refine V_faldK C dX5_aimAnew_127 (by first | assumption | exact hset_s _ _ _) (hix _ _) (by omega) (by decide) hB7 ?_
          refine V_fadd C dX5_aimAnew_128 (by assumption) ?_
          refine V_aload_n (i := 0) C dX5_aimAnew_129 rfl rfl ?_
          refine V_get (ci := 5) (CN := RX5) (T := TX5) (N := 26) C dX5_aimAnew_130 (by first | assumption | exact hset_s _ _ _) rfl 3 (by decide) flX5_aimAnew_7 wiX5_aimAnew_X5 (by rfl) ?_
          refine V_aload_n (i := 0) C dX5_aimAnew_133 rfl rfl ?_
          refine V_get (ci := 5) (CN := RX5) (T := TX5) (N := 26) C dX5_aimAnew_134 (by first | assumption | exact hset_s _ _ _) rfl 14 (by decide) flX5_aimAnew_42 wiX5_aimAnew_X5 (by rfl) ?_
          refine V_iload C dX5_aimAnew_137 rfl ?_
          refine V_ialdK C dX5_aimAnew_139 (by first | assumption | exact hset_s _ _ _) rfl hqc (by decide) q3 ?_
          refine V_faldK C dX5_aimAnew_140 (by first | assumption | exact hset_s _ _ _) rfl (by omega) (by decide) u1 ?_
          refine V_fsub C dX5_aimAnew_141 (by assumption) ?_
          refine V_callV (n := 4) C (r_passesOn r6 w1 w2 g2 (by omega) p1 p2 (by rw [fset_s]; exact hB6) hnq2 (fb_mono hl1 (by omega))) dX5_aimAnew_142 gX5_aimAnew_X5_passesOn rfl (by first | assumption | exact hset_s _ _ _) rfl (by decide +kernel) rfl rfl (by exact Nat.le_of_ble_eq_true rfl) ⟨Nat.le_of_ble_eq_true rfl, Nat.le_of_ble_eq_true rfl⟩ ⟨Nat.le_of_ble_eq_true rfl, Nat.le_of_ble_eq_true rfl⟩ (fun v9 h9 hr9 => ?_)
          obtain ⟨rfl, ⟨B8, r8, b8⟩, f8⟩ := hr9
          rw [fset_fset] at r8
          exact V_wk (ls2 := [some (.ref (A 0)), some (.int (nI p)), some (.int (nI i)), some (.int (nI j)), some (.int (nI q)), none, none, none]) (by simp [lle]) (hj145 _ _ _ ⟨⟨B8, r8, by rw [hst]; exact b8⟩, f6.tr f8, rfl, rfl⟩)
      · rintro h6 ls6 ⟨⟨B6, r6, hB6⟩, f6, rfl⟩
        have m0 := r6.m0
        have m10 := r6.m10
        have m12 := r6.m12
        have m18 := r6.m18
        obtain ⟨q1, q2, q3, q4, q5, q6⟩ := (hP.2.2.2.1 p hp _ hk).eq (han (j * xwd X p + i) (j * xwd X p + i))
        have hB7 := hB6 _ hk
        rw [at_mod hi, at_div hi] at hB7
        have n1 := fb_n32 (aim_fb (hPIg.an (w := xwd X p) (g := xhg X p) (j * xwd X p + i)) hN hk (hnb (Nat.le_of_lt hk))).1
        refine V_iload C dX5_aimAnew_43 rfl ?_
        refine V_aload_n (i := 0) C dX5_aimAnew_45 rfl rfl ?_
        refine V_get (ci := 5) (CN := RX5) (T := TX5) (N := 26) C dX5_aimAnew_46 (by first | assumption | exact hset_s _ _ _) rfl 10 (by decide) flX5_aimAnew_30 wiX5_aimAnew_X5 (by rfl) ?_
        refine V_iload_n (i := 1) C dX5_aimAnew_49 rfl rfl ?_
        refine V_ialdK C dX5_aimAnew_50 (by first | assumption | exact hset_s _ _ _) rfl (by omega) (by decide) p1 ?_
        refine V_iload_n (i := 3) C dX5_aimAnew_51 rfl rfl ?_
        refine V_imul C dX5_aimAnew_52 ?_
        refine V_iload_n (i := 2) C dX5_aimAnew_53 rfl rfl ?_
        refine V_iadd C dX5_aimAnew_54 ?_
        rw [pk_mul, nI_add]
        refine V_icmp_ge (tgt := 151) C dX5_aimAnew_55 (by decide) (fun _ => ?_) (fun z9 => absurd (by rw [Nat.mul_comm]; exact nI_le (Nat.le_refl _) (by omega)) z9)
        refine V_aload_n (i := 0) C dX5_aimAnew_151 rfl rfl ?_
        refine V_get (ci := 5) (CN := RX5) (T := TX5) (N := 26) C dX5_aimAnew_152 (by first | assumption | exact hset_s _ _ _) rfl 12 (by decide) flX5_aimAnew_36 wiX5_aimAnew_X5 (by rfl) ?_
        refine V_iload_n (i := 1) C dX5_aimAnew_155 rfl rfl ?_
        refine V_iload_n (i := 2) C dX5_aimAnew_156 rfl rfl ?_
        refine V_iload_n (i := 3) C dX5_aimAnew_157 rfl rfl ?_
        refine V_callS (n := 3) C (r_cellOf) dX5_aimAnew_158 gX5_aimAnew_X5_cellOf rfl (by decide +kernel) rfl rfl (by exact Nat.le_of_ble_eq_true rfl) ⟨Nat.le_of_ble_eq_true rfl, Nat.le_of_ble_eq_true rfl⟩ ⟨Nat.le_of_ble_eq_true rfl, Nat.le_of_ble_eq_true rfl⟩ (fun v9 h9 hr9 => ?_)
        obtain ⟨rfl, z9⟩ := hr9
        have z9 := z9.symm
        subst z9
        rw [← cx_at p hi]
        refine V_ialdK C dX5_aimAnew_161 (by first | assumption | exact hset_s _ _ _) rfl hcl (by decide) q1 ?_
        refine V_i2f C dX5_aimAnew_162 ?_
        refine V_aload_n (i := 0) C dX5_aimAnew_163 rfl rfl ?_
        refine V_get (ci := 5) (CN := RX5) (T := TX5) (N := 26) C dX5_aimAnew_164 (by first | assumption | exact hset_s _ _ _) rfl 18 (by decide) flX5_aimAnew_54 wiX5_aimAnew_X5 (by rfl) ?_
        refine V_bipush (v := 8) C dX5_aimAnew_167 (by decide) ?_
        refine V_iload_n (i := 3) C dX5_aimAnew_169 rfl rfl ?_
        refine V_imul C dX5_aimAnew_170 ?_
        refine V_iload_n (i := 2) C dX5_aimAnew_171 rfl rfl ?_
        refine V_iadd C dX5_aimAnew_172 ?_
        refine V_faldK C dX5_aimAnew_173 (by first | assumption | exact hset_s _ _ _) (hix _ _) (by omega) (by decide) hB7 ?_
        refine V_fadd C dX5_aimAnew_174 (by assumption) ?_
        refine V_callS (n := 1) C (j_bits hfin.1.ne_nan) dX5_aimAnew_175 gX5_aimAnew_Jxf58ca_floatToIntBits_5c35a rfl (by decide +kernel) rfl rfl (by exact Nat.le_of_ble_eq_true rfl) ⟨Nat.le_of_ble_eq_true rfl, Nat.le_of_ble_eq_true rfl⟩ ⟨Nat.le_of_ble_eq_true rfl, Nat.le_of_ble_eq_true rfl⟩ (fun v9 h9 hr9 => ?_)
        obtain ⟨rfl, z9⟩ := hr9
        have z9 := z9.symm
        subst z9
        exact V_iret C dX5_aimAnew_178 hr ⟨⟨_, rfl, fun _ => rfl⟩, ⟨I, fset F 18 B6, r6, (hP0.ceq (fun k _ => han (j * xwd X p + i) k)).f18 B6⟩, f6⟩ (by exact Nat.le_of_ble_eq_true rfl) (by exact Nat.le_of_ble_eq_true rfl)
  · have e : sp_aim X a b c = (some kIO, 0, X) := by unfold sp_aim; rw [if_neg hx]
    rw [e]
    refine Mt_of (cc := cX5_aimAnew) (maxL := 8) (ret := (some .int)) (own := RX5) [some (.ref (A 0)), some (.int a), some (.int b), some (.int c), none, none, none, none] rfl (by decide +kernel) rfl rfl (by exact Nat.le_of_ble_eq_true rfl) rfl ?_
    intro p9 e9 s9 m9 args9 below9 meth9 c9 C hr hnm
    refine V_aload_n (i := 0) C dX5_aimAnew_0 rfl rfl ?_
    refine V_aload_n (i := 0) C dX5_aimAnew_1 rfl rfl ?_
    refine V_iload_n (i := 1) C dX5_aimAnew_2 rfl rfl ?_
    refine V_iload_n (i := 2) C dX5_aimAnew_3 rfl rfl ?_
    refine V_iload_n (i := 3) C dX5_aimAnew_4 rfl rfl ?_
    refine V_callV (n := 3) C (r_isCell r hd hP) dX5_aimAnew_5 gX5_aimAnew_X5_isCell rfl (by first | assumption | exact hset_s _ _ _) rfl (by decide +kernel) rfl rfl (by exact Nat.le_of_ble_eq_true rfl) ⟨Nat.le_of_ble_eq_true rfl, Nat.le_of_ble_eq_true rfl⟩ ⟨Nat.le_of_ble_eq_true rfl, Nat.le_of_ble_eq_true rfl⟩ (fun v9 h9 hr9 => ?_)
    rw [if_neg hx] at hr9
    obtain ⟨rfl, z9⟩ := hr9
    have z9 := z9.symm
    subst z9
    refine V_callV (n := 1) C (r_asked1 (P := False) r rfl) dX5_aimAnew_8 gX5_aimAnew_X5_asked rfl (by first | assumption | exact hset_s _ _ _) rfl (by decide +kernel) rfl rfl (by exact Nat.le_of_ble_eq_true rfl) ⟨Nat.le_of_ble_eq_true rfl, Nat.le_of_ble_eq_true rfl⟩ ⟨Nat.le_of_ble_eq_true rfl, Nat.le_of_ble_eq_true rfl⟩ (fun v9 h9 hr9 => ?_)
    obtain ⟨rfl, r2, f2⟩ := hr9
    rw [if_neg (fun z => z)] at r2
    refine V_if_ne (tgt := 16) C dX5_aimAnew_11 (by decide) (fun z9 => absurd rfl z9) (fun _ => ?_)
    refine V_iconst (v := 0) C dX5_aimAnew_14 (by decide) ?_
    exact V_iret C dX5_aimAnew_15 hr (Rst_x r2 hP f2 (by decide +kernel)) (by exact Nat.le_of_ble_eq_true rfl) (by exact Nat.le_of_ble_eq_true rfl)
end RPUB10
