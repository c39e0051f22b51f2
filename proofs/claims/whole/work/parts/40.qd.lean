/-! the reference's calls: fill's start and rounds -/
section RPUB13
variable {l : Launch} {D : va_G} {cA : Nat → ClassId} {bs : Nat} {A : Nat → Nat} {I : MI} {F : MF} {n : MN} {h h0 : hE} {X : XS} {th : Int32} {M : Nat}
def r0v (x : Int32) : Int32 := if x = 2 ∨ x = 3 then 1 else 0
theorem fl0_ceq {G : Nat → Cd} {i : Nat} (j : Nat) : ceq (G j) (fl0 G i j) := by
  unfold fl0
  split
  · exact ⟨rfl, rfl, rfl, rfl, rfl, rfl⟩
  · exact ceq.rf _
set_option maxHeartbeats 4000000 in
set_option maxRecDepth 100000 in
theorem q_fill (r : MR cA A I F (mnn X th) h) (hI : CI M X) (hP : PR X I F) {x : Int32} : Mt l D cA bs yX5_fill wsX5_fill (rmk 3 0 0) [.ref (A 0), .int x] h (Rst cA A kIO kIA (sp_fill X x) h) := by
  have m0 := r.m0
  have hd := hI.1.1
  have hnp := hd.2.1
  by_cases hx : picN X x
  · obtain ⟨p, hp, rfl, ep⟩ := picN_of hd hx
    obtain ⟨⟨w1, w2⟩, g1, g2⟩ := hd.2.2 p hp
    have hN := (hd.N hp).2
    have hN2 : xwd X p * xhg X p ≤ 64 := hN
    have hPI := hI.1.2.1 p hp
    have hW : WB (xN X p) (xg X p) := fun k hk => (hPI.1 k hk).2.2
    have e : sp_fill X (nI p) = (none, nI (flX X p).2, xpl X p (xlo X) (flX X p).1) := by unfold sp_fill; rw [if_pos hx, ep]
    rw [e]
    have hix : ∀ x y : Nat, (64 : Int32) * nI y + nI x = nI (64 * y + x) := fun x y => by rw [show (64 : Int32) = nI 64 from rfl, pk_mul, nI_add]
    have hP0 : PR (xpl X p (xlo X) (xg X p)) I F := by rw [xpl_id]; exact hP
    refine Mt_of (cc := cX5_fill) (maxL := 14) (ret := (some .int)) (own := RX5) [some (.ref (A 0)), some (.int (nI p)), none, none, none, none, none, none, none, none, none, none, none, none] rfl (by decide +kernel) rfl rfl (by exact Nat.le_of_ble_eq_true rfl) rfl ?_
    intro p9 e9 s9 m9 args9 below9 meth9 c9 C hr hnm
    refine V_aload_n (i := 0) C dX5_fill_0 rfl rfl ?_
    refine V_aload_n (i := 0) C dX5_fill_1 rfl rfl ?_
    refine V_iload_n (i := 1) C dX5_fill_2 rfl rfl ?_
    refine V_callV (n := 1) C (r_isPicX r hd) dX5_fill_3 gX5_fill_X5_isPicture rfl (by first | assumption | exact hset_s _ _ _) rfl (by decide +kernel) rfl rfl (by exact Nat.le_of_ble_eq_true rfl) ⟨Nat.le_of_ble_eq_true rfl, Nat.le_of_ble_eq_true rfl⟩ ⟨Nat.le_of_ble_eq_true rfl, Nat.le_of_ble_eq_true rfl⟩ (fun v9 h9 hr9 => ?_)
    rw [if_pos hx] at hr9
    obtain ⟨rfl, z9⟩ := hr9
    have z9 := z9.symm
    subst z9
    refine V_callV (n := 1) C (r_asked1 (P := True) r rfl) dX5_fill_6 gX5_fill_X5_asked rfl (by first | assumption | exact hset_s _ _ _) rfl (by decide +kernel) rfl rfl (by exact Nat.le_of_ble_eq_true rfl) ⟨Nat.le_of_ble_eq_true rfl, Nat.le_of_ble_eq_true rfl⟩ ⟨Nat.le_of_ble_eq_true rfl, Nat.le_of_ble_eq_true rfl⟩ (fun v9 h9 hr9 => ?_)
    obtain ⟨rfl, r2, f2⟩ := hr9
    rw [if_pos trivial] at r2
    have r2 : MR cA A I F (mnn X 0) h9 := r2
    refine V_if_ne (tgt := 14) C dX5_fill_9 (by decide) (fun _ => ?_) (fun z9 => absurd z9 (by decide))
    refine V_iconst (v := 0) C dX5_fill_14 (by decide) ?_
    refine V_istore2 C dX5_fill_15 (by decide) ?_
    refine V_for 64 (fun q h4 ls4 => (∃ R, MR cA A (fset I 19 R) F (mnn X 0) h4 ∧ ∀ j, j < q → R j = r0v (I 13 (64 * p + j))) ∧ mfr h h4 ∧ ls4 = [some (.ref (A 0)), some (.int (nI p)), some (.int (nI q)), none, none, none, none, none, none, none, none, none, none, none]) ?_ ?_ 0 (by decide) ⟨⟨I 19, by rw [fset_id rfl]; exact r2, fun j hj => absurd hj (Nat.not_lt_zero j)⟩, f2, rfl⟩
    · rintro q h4 ls4 hq ⟨⟨R, r4, hR⟩, f4, rfl⟩ ih
      have m0 := r4.m0
      have m13 := r4.m13
      have m19 := r4.m19
      refine V_join 54 (fun h8 ls8 st8 => h8 = h4 ∧ ls8 = [some (.ref (A 0)), some (.int (nI p)), some (.int (nI q)), none, none, none, none, none, none, none, none, none, none, none] ∧ st8 = [.int (r0v (I 13 (64 * p + q))), .int (nI q), .ref (A 19)]) ?_ (fun hj54 => ?_)
      · rintro h8 ls8 st8 ⟨z9, rfl, rfl⟩
        have z9 := z9.symm
        subst z9
        refine V_iastK C dX5_fill_54 (by first | assumption | exact hset_s _ _ _) rfl hq (by decide) ?_
        have r5 := r4.s19 (fset R q (r0v (I 13 (64 * p + q))))
        rw [fset_fset] at r5
        refine V_iinc2 (v := nI (q + 1)) C dX5_fill_55 (nI_1 _) (by decide) ?_
        refine V_goto (tgt := 16) C dX5_fill_58 (by decide) ?_
        exact V_wk (by simp [lle]) (ih _ _ ⟨⟨_, r5, fun j hj => by
          by_cases hjq : j = q
          · rw [hjq, fset_s]
          · rw [fset_n hjq]; exact hR j (by omega)⟩, f4.tr (r4.f19 _), rfl⟩)
      · refine V_iload_n (i := 2) C dX5_fill_16 rfl rfl ?_
        refine V_bipush (v := 64) C dX5_fill_17 (by decide) ?_
        refine V_icmp_ge (tgt := 61) C dX5_fill_19 (by decide) (fun z9 => absurd z9 (nI_ge (b := 64) hq (by decide))) (fun _ => ?_)
        refine V_aload_n (i := 0) C dX5_fill_22 rfl rfl ?_
        refine V_get (ci := 5) (CN := RX5) (T := TX5) (N := 26) C dX5_fill_23 (by first | assumption | exact hset_s _ _ _) rfl 13 (by decide) flX5_fill_39 wiX5_fill_X5 (by rfl) ?_
        refine V_bipush (v := 64) C dX5_fill_26 (by decide) ?_
        refine V_iload_n (i := 1) C dX5_fill_28 rfl rfl ?_
        refine V_imul C dX5_fill_29 ?_
        refine V_iload_n (i := 2) C dX5_fill_30 rfl rfl ?_
        refine V_iadd C dX5_fill_31 ?_
        refine V_ialdK C dX5_fill_32 (by first | assumption | exact hset_s _ _ _) (hix _ _) (by omega) (by decide) rfl ?_
        refine V_istore3 C dX5_fill_33 (by decide) ?_
        refine V_aload_n (i := 0) C dX5_fill_34 rfl rfl ?_
        refine V_get (ci := 5) (CN := RX5) (T := TX5) (N := 26) C dX5_fill_35 (by first | assumption | exact hset_s _ _ _) rfl 19 (by decide) flX5_fill_57 wiX5_fill_X5 (by rfl) ?_
        refine V_iload_n (i := 2) C dX5_fill_38 rfl rfl ?_
        refine V_iload_n (i := 3) C dX5_fill_39 rfl rfl ?_
        refine V_iconst (v := 3) C dX5_fill_40 (by decide) ?_
        refine V_icmp_eq (tgt := 49) C dX5_fill_41 (by decide) (fun c41 => ?_) (fun c41 => ?_)
        · have c41 : I 13 (64 * p + q) = 3 := c41
          have e9 : r0v (I 13 (64 * p + q)) = 1 := if_pos (Or.inr c41)
          refine V_iconst (v := 1) C dX5_fill_49 (by decide) ?_
          refine V_goto (tgt := 54) C dX5_fill_50 (by decide) ?_
          exact V_wk (ls2 := [some (.ref (A 0)), some (.int (nI p)), some (.int (nI q)), none, none, none, none, none, none, none, none, none, none, none]) (by simp [lle]) (hj54 _ _ _ ⟨rfl, rfl, by rw [e9]⟩)
        · have c41 : ¬ I 13 (64 * p + q) = 3 := c41
          refine V_iload_n (i := 3) C dX5_fill_44 rfl rfl ?_
          refine V_iconst (v := 2) C dX5_fill_45 (by decide) ?_
          refine V_icmp_ne (tgt := 53) C dX5_fill_46 (by decide) (fun c46 => ?_) (fun c46 => ?_)
          · have c46 : ¬ I 13 (64 * p + q) = 2 := c46
            have e9 : r0v (I 13 (64 * p + q)) = 0 := if_neg (fun z => z.elim c46 c41)
            refine V_iconst (v := 0) C dX5_fill_53 (by decide) ?_
            exact V_wk (ls2 := [some (.ref (A 0)), some (.int (nI p)), some (.int (nI q)), none, none, none, none, none, none, none, none, none, none, none]) (by simp [lle]) (hj54 _ _ _ ⟨rfl, rfl, by rw [e9]⟩)
          · have c46 : I 13 (64 * p + q) = 2 := c46
            have e9 : r0v (I 13 (64 * p + q)) = 1 := if_pos (Or.inl c46)
            refine V_iconst (v := 1) C dX5_fill_49 (by decide) ?_
            refine V_goto (tgt := 54) C dX5_fill_50 (by decide) ?_
            exact V_wk (ls2 := [some (.ref (A 0)), some (.int (nI p)), some (.int (nI q)), none, none, none, none, none, none, none, none, none, none, none]) (by simp [lle]) (hj54 _ _ _ ⟨rfl, rfl, by rw [e9]⟩)
    · rintro h4 ls4 ⟨⟨R, r4, hR⟩, f4, rfl⟩
      have hP4 : PR (xpl X p (xlo X) (fl0 (xg X p) (xN X p))) (fset I 19 R) F := hP0.ceq (fun k _ => fl0_ceq k)
      have hW4 := fl0_W hW (xN X p)
      have hR4 : rR (xwd X p) (xwd X p * xhg X p) (fl0 (xg X p) (xN X p)) R := fun k hk => by
        have h1 := k_mod (k := k) w1
        have h2 := k_div hk
        have hcx : 64 * p + (8 * (k / xwd X p) + k % xwd X p) = cx (xwd X p) p k := by unfold cx; omega
        have q2 := (hP.2.2.2.1 p hp k hk).2.1
        have hk2 : k < xN X p := hk
        rw [hR _ (by omega), hcx, q2, show fl0 (xg X p) (xN X p) k = cdR (xg X p k) (if dn (xg X p k) then 0 else -1) from if_pos hk2]
        by_cases hdn : dn (xg X p k)
        · exact ⟨1, by decide, if_pos hdn, (if_pos hdn).trans (by decide)⟩
        · exact ⟨0, by decide, if_neg hdn, (if_neg hdn).trans (by decide)⟩
      obtain ⟨G0, hG0⟩ : ∃ G0, G0 = fl0 (xg X p) (xN X p) := ⟨_, rfl⟩
      have hfl : flX X p = flR (xwd X p) (xhg X p) (xN X p) (xN X p) 1 G0 0 := by rw [hG0]; rfl
      rw [← hG0] at hP4 hR4 hW4
      refine V_iload_n (i := 2) C dX5_fill_16 rfl rfl ?_
      refine V_bipush (v := 64) C dX5_fill_17 (by decide) ?_
      refine V_icmp_ge (tgt := 61) C dX5_fill_19 (by decide) (fun _ => ?_) (fun z9 => absurd (nI_le (b := 64) (Nat.le_refl _) (by decide)) z9)
      refine V_iconst (v := 0) C dX5_fill_61 (by decide) ?_
      refine V_istore2 C dX5_fill_62 (by decide) ?_
      refine V_iconst (v := 1) C dX5_fill_63 (by decide) ?_
      refine V_istore3 C dX5_fill_64 (by decide) ?_
      refine V_iconst (v := 1) C dX5_fill_65 (by decide) ?_
      refine V_istore4 C dX5_fill_66 (by decide) ?_
      refine V_rec (fun f h8 ls8 => ∃ (rd c : Nat) (G : Nat → Cd) (I8 : MI), rd + f = xN X p + 1 ∧ flX X p = flR (xwd X p) (xhg X p) (xN X p) f rd G c ∧ unf G (xN X p) ≤ f ∧ MR cA A I8 F (mnn X 0) h8 ∧ PR (xpl X p (xlo X) G) I8 F ∧ rR (xwd X p) (xwd X p * xhg X p) G (I8 19) ∧ WB (xN X p) G ∧ mfr h h8 ∧ ls8 = [some (.ref (A 0)), some (.int (nI p)), some (.int (nI c)), some (.int (nI rd)), some (.int 1), none, none, none, none, none, none, none, none, none]) ?_ ?_ (xN X p) ⟨1, 0, G0, fset I 19 R, by omega, hfl, unf_le _ _, r4, hP4, hR4, hW4, f4, rfl⟩
      · rintro f h8 ls8 ⟨rd, c, G, I8, hrf, hfe, hu, r8, hP8, hR8, hW8, f8, rfl⟩ ih
        have hng : ¬ nI rd < 0 := nI_nlt (b := 0) (Nat.zero_le _) (by omega)
        have hcn := frS_c (w := xwd X p) (g := xhg X p) (G := G) hng (n := xN X p) (xN X p) (Nat.le_refl _)
        have hW9 := frS_W (w := xwd X p) (g := xhg X p) (rd := nI rd) w2 g2 hW8 (xN X p)
        have hfe : flX X p = if (frS (xwd X p) (xhg X p) G (nI rd) (xN X p)).2 = 0 then ((frS (xwd X p) (xhg X p) G (nI rd) (xN X p)).1, c) else flR (xwd X p) (xhg X p) (xN X p) f (rd + 1) (frS (xwd X p) (xhg X p) G (nI rd) (xN X p)).1 (c + (frS (xwd X p) (xhg X p) G (nI rd) (xN X p)).2) := hfe
        refine V_iload C dX5_fill_68 rfl ?_
        refine V_if_eq (tgt := 331) C dX5_fill_70 (by decide) (fun z9 => absurd z9 (by decide)) (fun _ => ?_)
        refine V_wk (ls2 := [some (.ref (A 0)), some (.int (nI p)), some (.int (nI c)), some (.int (nI rd)), none, none, none, none, none, none, none, none, none, none]) (by simp [lle]) (rf_round C hd hp (by omega) r8 hP8 hR8 hW8 f8 (fun h9 I9 r9 hP9 hR9 f9 => ?_))
        by_cases hz : (frS (xwd X p) (xhg X p) G (nI rd) (xN X p)).2 = 0
        · rw [if_pos hz] at hfe
          rw [hz, show gB 0 = 0 from rfl, Nat.add_zero]
          have m0 := r9.m0
          refine V_iload C dX5_fill_68 rfl ?_
          refine V_if_eq (tgt := 331) C dX5_fill_70 (by decide) (fun _ => ?_) (fun z9 => absurd rfl z9)
          refine V_iload_n (i := 2) C dX5_fill_331 rfl rfl ?_
          exact V_iret C dX5_fill_332 hr ⟨⟨_, rfl, fun _ => by rw [hfe]⟩, ⟨I9, F, r9, by rw [hfe]; exact hP9⟩, f9⟩ (by exact Nat.le_of_ble_eq_true rfl) (by exact Nat.le_of_ble_eq_true rfl)
        · rw [if_neg hz] at hfe
          rw [show gB (frS (xwd X p) (xhg X p) G (nI rd) (xN X p)).2 = 1 from if_neg hz]
          exact ih _ _ ⟨rd + 1, _, _, I9, by omega, hfe, by omega, r9, hP9, hR9, hW9, f9, rfl⟩
      · rintro h8 ls8 ⟨rd, c, G, I8, hrf, hfe, hu, r8, hP8, hR8, hW8, f8, rfl⟩
        have hng : ¬ nI rd < 0 := nI_nlt (b := 0) (Nat.zero_le _) (by omega)
        have hcn := frS_c (w := xwd X p) (g := xhg X p) (G := G) hng (n := xN X p) (xN X p) (Nat.le_refl _)
        have hz : (frS (xwd X p) (xhg X p) G (nI rd) (xN X p)).2 = 0 := by omega
        have hGe := frS_0 (xN X p) hz
        have hfe : flX X p = (G, c) := hfe
        refine V_iload C dX5_fill_68 rfl ?_
        refine V_if_eq (tgt := 331) C dX5_fill_70 (by decide) (fun z9 => absurd z9 (by decide)) (fun _ => ?_)
        refine V_wk (ls2 := [some (.ref (A 0)), some (.int (nI p)), some (.int (nI c)), some (.int (nI rd)), none, none, none, none, none, none, none, none, none, none]) (by simp [lle]) (rf_round C hd hp (by omega) r8 hP8 hR8 hW8 f8 (fun h9 I9 r9 hP9 hR9 f9 => ?_))
        rw [hGe] at hP9
        rw [hz, show gB 0 = 0 from rfl, Nat.add_zero]
        have m0 := r9.m0
        refine V_iload C dX5_fill_68 rfl ?_
        refine V_if_eq (tgt := 331) C dX5_fill_70 (by decide) (fun _ => ?_) (fun z9 => absurd rfl z9)
        refine V_iload_n (i := 2) C dX5_fill_331 rfl rfl ?_
        exact V_iret C dX5_fill_332 hr ⟨⟨_, rfl, fun _ => by rw [hfe]⟩, ⟨I9, F, r9, by rw [hfe]; exact hP9⟩, f9⟩ (by exact Nat.le_of_ble_eq_true rfl) (by exact Nat.le_of_ble_eq_true rfl)
  · have e : sp_fill X x = (some kIO, 0, X) := by unfold sp_fill; rw [if_neg hx]
    rw [e]
    refine Mt_of (cc := cX5_fill) (maxL := 14) (ret := (some .int)) (own := RX5) [some (.ref (A 0)), some (.int x), none, none, none, none, none, none, none, none, none, none, none, none] rfl (by decide +kernel) rfl rfl (by exact Nat.le_of_ble_eq_true rfl) rfl ?_
    intro p9 e9 s9 m9 args9 below9 meth9 c9 C hr hnm
    refine V_aload_n (i := 0) C dX5_fill_0 rfl rfl ?_
    refine V_aload_n (i := 0) C dX5_fill_1 rfl rfl ?_
    refine V_iload_n (i := 1) C dX5_fill_2 rfl rfl ?_
    refine V_callV (n := 1) C (r_isPicX r hd) dX5_fill_3 gX5_fill_X5_isPicture rfl (by first | assumption | exact hset_s _ _ _) rfl (by decide +kernel) rfl rfl (by exact Nat.le_of_ble_eq_true rfl) ⟨Nat.le_of_ble_eq_true rfl, Nat.le_of_ble_eq_true rfl⟩ ⟨Nat.le_of_ble_eq_true rfl, Nat.le_of_ble_eq_true rfl⟩ (fun v9 h9 hr9 => ?_)
    rw [if_neg hx] at hr9
    obtain ⟨rfl, z9⟩ := hr9
    have z9 := z9.symm
    subst z9
    refine V_callV (n := 1) C (r_asked1 (P := False) r rfl) dX5_fill_6 gX5_fill_X5_asked rfl (by first | assumption | exact hset_s _ _ _) rfl (by decide +kernel) rfl rfl (by exact Nat.le_of_ble_eq_true rfl) ⟨Nat.le_of_ble_eq_true rfl, Nat.le_of_ble_eq_true rfl⟩ ⟨Nat.le_of_ble_eq_true rfl, Nat.le_of_ble_eq_true rfl⟩ (fun v9 h9 hr9 => ?_)
    obtain ⟨rfl, r2, f2⟩ := hr9
    rw [if_neg (fun z => z)] at r2
    refine V_if_ne (tgt := 14) C dX5_fill_9 (by decide) (fun z9 => absurd rfl z9) (fun _ => ?_)
    refine V_iconst (v := 0) C dX5_fill_12 (by decide) ?_
    exact V_iret C dX5_fill_13 hr (Rst_x r2 hP f2 (by decide +kernel)) (by exact Nat.le_of_ble_eq_true rfl) (by exact Nat.le_of_ble_eq_true rfl)
end RPUB13
