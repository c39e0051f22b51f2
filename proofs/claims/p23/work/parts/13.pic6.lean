/-! Picture: old pavements filled -/
abbrev idx (w : Nat) (x y : Int32) : Nat := y.toNatClampNeg * w + x.toNatClampNeg
/-- what stands at a place beside -/
def fc1 (w g : Nat) (G : Nat → Cd) (i j : Nat) (rd : Int32) (t : Nat) (s : UInt32 × Nat) : UInt32 × Nat :=
  if isAt w g (nI (i + t % 3) - 1) (nI (j + t / 3) - 1) ∧ 0 ≤ crd (G (idx w (nI (i + t % 3) - 1) (nI (j + t / 3) - 1))) ∧ crd (G (idx w (nI (i + t % 3) - 1) (nI (j + t / 3) - 1))) < rd then (FP.fadd s.1 (FP.i2f (cwn (G (idx w (nI (i + t % 3) - 1) (nI (j + t / 3) - 1))))), s.2 + 1) else s
def fcT (w g : Nat) (G : Nat → Cd) (i j : Nat) (rd : Int32) : Nat → UInt32 × Nat
  | 0 => (FP.fconst0, 0)
  | t + 1 => fc1 w g G i j rd t (fcT w g G i j rd t)
def fcC (w g : Nat) (G : Nat → Cd) (k : Nat) (rd : Int32) : (Nat → Cd) × Nat :=
  if (fcT w g G (k % w) (k / w) rd 9).2 = 0 then (G, 0) else (fset G k (cdR (cdW (G k) (FP.f2i (FP.fdiv (fcT w g G (k % w) (k / w) rd 9).1 (FP.i2f (nI (fcT w g G (k % w) (k / w) rd 9).2))))) rd), 1)
def frS (w g : Nat) (G : Nat → Cd) (rd : Int32) : Nat → (Nat → Cd) × Nat
  | 0 => (G, 0)
  | k + 1 => if crd ((frS w g G rd k).1 k) < 0 then ((fcC w g (frS w g G rd k).1 k rd).1, (frS w g G rd k).2 + (fcC w g (frS w g G rd k).1 k rd).2) else frS w g G rd k
def fl0 (G : Nat → Cd) (i : Nat) : Nat → Cd := fun k => if k < i then cdR (G k) (if dn (G k) then 0 else -1) else G k
def flR (w g N : Nat) : Nat → Nat → (Nat → Cd) → Nat → (Nat → Cd) × Nat
  | 0, _, G, c => (G, c)
  | f + 1, rd, G, c => if (frS w g G (nI rd) N).2 = 0 then ((frS w g G (nI rd) N).1, c) else flR w g N f (rd + 1) (frS w g G (nI rd) N).1 (c + (frS w g G (nI rd) N).2)
theorem fl0_0 (G : Nat → Cd) : fl0 G 0 = G := by
  funext k
  exact if_neg (Nat.not_lt_zero k)
theorem fl0_s (G : Nat → Cd) (i : Nat) : fset (fl0 G i) i (cdR (fl0 G i i) (if dn (G i) then 0 else -1)) = fl0 G (i + 1) := by
  funext k
  unfold fset fl0
  by_cases h1 : k = i
  · subst h1
    simp
  · rw [if_neg h1]
    by_cases h2 : k < i
    · simp only [if_pos h2, if_pos (show k < i + 1 by omega)]
    · simp only [if_neg h2, if_neg (show ¬ k < i + 1 by omega)]
/-- wanted tones are bytes -/
def WB (N : Nat) (G : Nat → Cd) : Prop := ∀ k, k < N → ∃ v, v ≤ 255 ∧ cwn (G k) = nI v
theorem WB.set {N k : Nat} {G : Nat → Cd} {d : Cd} (h : WB N G) (hd : ∃ v, v ≤ 255 ∧ cwn d = nI v) : WB N (fset G k d) := by
  intro j hj
  unfold fset
  split
  · exact hd
  · exact h j hj
theorem isAt_idx {w g : Nat} {x y : Int32} (hw : w ≤ 8) (hg : g ≤ 8) (h : isAt w g x y) : idx w x y < w * g := by
  obtain ⟨i, j, hi, hj, rfl, rfl⟩ := isAt_of hw hg h
  show (nI j).toNatClampNeg * w + (nI i).toNatClampNeg < w * g
  rw [nI_clamp (by omega), nI_clamp (by omega)]
  exact at_lt hi hj
theorem fcT_b {w g : Nat} {G : Nat → Cd} {i j : Nat} {rd : Int32} (hw : w ≤ 8) (hg : g ≤ 8) (hW : WB (w * g) G) (t : Nat) (ht : t ≤ 9) : fp (fcT w g G i j rd t).1 (255 * (fcT w g G i j rd t).2) ∧ (fcT w g G i j rd t).2 ≤ t := by
  induction t with
  | zero => exact ⟨fp_0 _, Nat.le_refl _⟩
  | succ t ih =>
    obtain ⟨h1, h2⟩ := ih (by omega)
    unfold fcT fc1
    split
    · rename_i hc
      obtain ⟨v, hv, e⟩ := hW _ (isAt_idx hw hg hc.1)
      refine ⟨?_, Nat.succ_le_succ h2⟩
      dsimp only
      rw [e]
      exact fp_add h1 (fp_i2f hv (by decide)) (by omega) (by omega)
    · exact ⟨h1, by omega⟩
theorem fcC_W {w g : Nat} {G : Nat → Cd} {k : Nat} {rd : Int32} (hw : w ≤ 8) (hg : g ≤ 8) (hW : WB (w * g) G) : WB (w * g) (fcC w g G k rd).1 := by
  unfold fcC
  split
  · exact hW
  · rename_i hc
    obtain ⟨h1, h2⟩ := fcT_b (i := k % w) (j := k / w) (rd := rd) hw hg hW 9 (Nat.le_refl _)
    exact hW.set (fp_f2i (fp_div h1 (by omega) h2) (by decide))
theorem frS_W {w g : Nat} {G : Nat → Cd} {rd : Int32} (hw : w ≤ 8) (hg : g ≤ 8) (hW : WB (w * g) G) (k : Nat) : WB (w * g) (frS w g G rd k).1 := by
  induction k with
  | zero => exact hW
  | succ k ih =>
    unfold frS
    split
    · exact fcC_W hw hg ih
    · exact ih
theorem fcC_le (w g : Nat) (G : Nat → Cd) (k : Nat) (rd : Int32) : (fcC w g G k rd).2 ≤ 1 := by
  unfold fcC
  split
  · exact Nat.zero_le 1
  · exact Nat.le_refl 1
theorem frS_le (w g : Nat) (G : Nat → Cd) (rd : Int32) (k : Nat) : (frS w g G rd k).2 ≤ k := by
  induction k with
  | zero => exact Nat.le_refl _
  | succ k ih =>
    unfold frS
    split
    · have := fcC_le w g (frS w g G rd k).1 k rd
      show (frS w g G rd k).2 + (fcC w g (frS w g G rd k).1 k rd).2 ≤ k + 1
      omega
    · omega
theorem fl0_W {N : Nat} {G : Nat → Cd} (h : WB N G) (i : Nat) : WB N (fl0 G i) := by
  intro k hk
  unfold fl0
  split
  · exact h k hk
  · exact h k hk
section PIC6
variable {l : Launch} {D : va_G} {cA : Nat → ClassId} {bs : Nat} {Z : Nat → Nat → Nat} {X : XS} {ta : Nat → Nat → Option Nat} {h : hE} {p : Nat} {L : Nat → Ld} {G : Nat → Cd}
theorem nI_m1 (n : Nat) : nI n - 1 + 1 = nI (n + 1) - 1 := by
  rw [Int32.sub_add_cancel, nI_pred]
set_option maxHeartbeats 4000000 in
set_option maxRecDepth 100000 in
theorem c_fillCell {k : Nat} {rd : Int32} (r : XR cA Z (xpl X p L G) ta h) (hd : xdim X) (hp : p < xnp X) (hk : k < xN X p) (hW : WB (xN X p) G) : Mt l D cA bs yX3_fillCell wsX3_fillCell (rmk 1 0 0) [.ref (Z 2 p), .ref (Z (p + 6) k), .int rd] h (fun v h2 => v = some (.int (nI (fcC (xwd X p) (xhg X p) G k rd).2)) ∧ XR cA Z (xpl X p L (fcC (xwd X p) (xhg X p) G k rd).1) ta h2 ∧ hfr Z X h h2) := by
  obtain ⟨⟨w1, w2⟩, g1, g2⟩ := hd.2.2 p hp
  have hN := (hd.N hp).2
  have hpic := r.ppic hp
  have hc := r.pcell hp hk
  have hm := k_mod (k := k) w1
  have hv := k_div hk
  obtain ⟨i, hi⟩ : ∃ i, i = k % xwd X p := ⟨_, rfl⟩
  obtain ⟨j, hj⟩ : ∃ j, j = k / xwd X p := ⟨_, rfl⟩
  have hT := fun t (ht : t ≤ 9) => fcT_b (i := i) (j := j) (rd := rd) w2 g2 hW t ht
  have hfc : fcC (xwd X p) (xhg X p) G k rd = if (fcT (xwd X p) (xhg X p) G i j rd 9).2 = 0 then (G, 0) else (fset G k (cdR (cdW (G k) (FP.f2i (FP.fdiv (fcT (xwd X p) (xhg X p) G i j rd 9).1 (FP.i2f (nI (fcT (xwd X p) (xhg X p) G i j rd 9).2))))) rd), 1) := by rw [hi, hj]; rfl
  have hcx : h (Z (p + 6) k) = some (cellO (nI i) (nI j) (G k).1 ((clt (G k)).map (Z 1)) (cwn (G k)) (cam (G k)) (cbr (G k)) (crd (G k)) (cla (G k)) (cdr (G k))) := by rw [hi, hj]; exact hc
  rw [← hi] at hm
  rw [← hj] at hv
  have hn32 : ∀ n, n ≤ 20 → n < 2 ^ 31 := fun n hn => by omega
  refine Mt_of (cc := cX3_fillCell) (maxL := 8) (ret := (some .boolean)) (own := RX3) [some (.ref (Z 2 p)), some (.ref (Z (p + 6) k)), some (.int rd), none, none, none, none, none] rfl (by decide +kernel) rfl rfl (by exact Nat.le_of_ble_eq_true rfl) rfl ?_
  intro p9 e9 s9 m9 args9 below9 meth9 c9 C hr hnm
  refine V_fconst0 C dX3_fillCell_0 ?_
  refine V_fstore3 C dX3_fillCell_1 (by decide) ?_
  refine V_iconst (v := 0) C dX3_fillCell_2 (by decide) ?_
  refine V_istore4 C dX3_fillCell_3 (by decide) ?_
  refine V_aload_n (i := 1) C dX3_fillCell_5 rfl rfl ?_
  refine V_get (ci := 0) (CN := RX0) (T := TX0) (N := 10) C dX3_fillCell_6 (by first | assumption | exact hset_s _ _ _) rfl 1 (by decide) flX3_fillCell_81 wiX3_fillCell_X0 (by rfl) ?_
  refine V_iconst (v := 1) C dX3_fillCell_9 (by decide) ?_
  refine V_isub C dX3_fillCell_10 ?_
  refine V_istore5 C dX3_fillCell_11 (by decide) ?_
  refine V_for 3 (fun y h2 ls2 => h2 = h ∧ ls2 = [some (.ref (Z 2 p)), some (.ref (Z (p + 6) k)), some (.int rd), some (.float (fcT (xwd X p) (xhg X p) G i j rd (3 * y)).1), some (.int (nI (fcT (xwd X p) (xhg X p) G i j rd (3 * y)).2)), some (.int (nI (j + y) - 1)), none, none]) ?_ ?_ 0 (Nat.zero_le _) ⟨rfl, rfl⟩
  · rintro y h2 ls2 hy ⟨z0, rfl⟩ ih
    have z0 := z0.symm
    subst z0
    have c21 : ¬ nI j + 1 < nI (j + y) - 1 := by
      rw [nI_1]
      rcases Nat.eq_zero_or_pos (j + y) with z | z
      · rw [z, show j = 0 by omega]
        decide
      · obtain ⟨n, hn⟩ : ∃ n, j + y = n + 1 := ⟨j + y - 1, by omega⟩
        rw [hn, nI_pred]
        exact nI_nlt (by omega) (by omega)
    refine V_iload C dX3_fillCell_13 rfl ?_
    refine V_aload_n (i := 1) C dX3_fillCell_15 rfl rfl ?_
    refine V_get (ci := 0) (CN := RX0) (T := TX0) (N := 10) C dX3_fillCell_16 (by first | assumption | exact hset_s _ _ _) rfl 1 (by decide) flX3_fillCell_81 wiX3_fillCell_X0 (by rfl) ?_
    refine V_iconst (v := 1) C dX3_fillCell_19 (by decide) ?_
    refine V_iadd C dX3_fillCell_20 ?_
    refine V_icmp_gt (tgt := 99) C dX3_fillCell_21 (by decide) (fun z9 => absurd z9 c21) (fun _ => ?_)
    refine V_aload_n (i := 1) C dX3_fillCell_24 rfl rfl ?_
    refine V_get (ci := 0) (CN := RX0) (T := TX0) (N := 10) C dX3_fillCell_25 (by first | assumption | exact hset_s _ _ _) rfl 0 (by decide) flX3_fillCell_78 wiX3_fillCell_X0 (by rfl) ?_
    refine V_iconst (v := 1) C dX3_fillCell_28 (by decide) ?_
    refine V_isub C dX3_fillCell_29 ?_
    refine V_istore6 C dX3_fillCell_30 (by decide) ?_
    refine V_for 3 (fun x h2 ls2 => h2 = h ∧ ls2 = [some (.ref (Z 2 p)), some (.ref (Z (p + 6) k)), some (.int rd), some (.float (fcT (xwd X p) (xhg X p) G i j rd (3 * y + x)).1), some (.int (nI (fcT (xwd X p) (xhg X p) G i j rd (3 * y + x)).2)), some (.int (nI (j + y) - 1)), some (.int (nI (i + x) - 1)), none]) ?_ ?_ 0 (Nat.zero_le _) ⟨rfl, rfl⟩
    · rintro x h2 ls2 hx ⟨z0, rfl⟩ ih2
      have z0 := z0.symm
      subst z0
      have c40 : ¬ nI i + 1 < nI (i + x) - 1 := by
        rw [nI_1]
        rcases Nat.eq_zero_or_pos (i + x) with z | z
        · rw [z, show i = 0 by omega]
          decide
        · obtain ⟨n, hn⟩ : ∃ n, i + x = n + 1 := ⟨i + x - 1, by omega⟩
          rw [hn, nI_pred]
          exact nI_nlt (by omega) (by omega)
      have ht3 : (3 * y + x) / 3 = y := by omega
      have ht4 : (3 * y + x) % 3 = x := by omega
      have hst : fcT (xwd X p) (xhg X p) G i j rd (3 * y + (x + 1)) = fc1 (xwd X p) (xhg X p) G i j rd (3 * y + x) (fcT (xwd X p) (xhg X p) G i j rd (3 * y + x)) := rfl
      obtain ⟨s1, s2⟩ := hT (3 * y + x) (by omega)
      by_cases ho : isAt (xwd X p) (xhg X p) (nI (i + x) - 1) (nI (j + y) - 1)
      · have hix := isAt_idx w2 g2 ho
        obtain ⟨a, b, ha, hb, ea, eb⟩ := isAt_of w2 g2 ho
        have hix2 : idx (xwd X p) (nI (i + x) - 1) (nI (j + y) - 1) = b * xwd X p + a := by
          show (nI (j + y) - 1).toNatClampNeg * _ + (nI (i + x) - 1).toNatClampNeg = _
          rw [ea, eb, nI_clamp (by omega), nI_clamp (by omega)]
        have hc2 := r.pcell hp (at_lt ha hb)
        have cc := c_cellAt1 (l := l) (D := D) (bs := bs) r hd hp ha hb
        rw [← ea, ← eb] at cc
        obtain ⟨v, hv1, hv2⟩ := hW _ hix
        rw [hix2] at hv2
        have hn1 : vf_n32 (FP.fadd (fcT (xwd X p) (xhg X p) G i j rd (3 * y + x)).1 (FP.i2f (cwn (G (b * xwd X p + a))))) := by
          rw [hv2]
          exact fb_n32 (fp_add (C := 2 ^ 20) s1 (fp_i2f hv1 (by decide)) (by omega) (by decide)).1
        have hfp : (0 ≤ crd (G (b * xwd X p + a)) ∧ crd (G (b * xwd X p + a)) < rd) → fc1 (xwd X p) (xhg X p) G i j rd (3 * y + x) (fcT (xwd X p) (xhg X p) G i j rd (3 * y + x)) = (FP.fadd (fcT (xwd X p) (xhg X p) G i j rd (3 * y + x)).1 (FP.i2f (cwn (G (b * xwd X p + a)))), (fcT (xwd X p) (xhg X p) G i j rd (3 * y + x)).2 + 1) := by
          intro z
          unfold fc1
          rw [ht3, ht4, hix2, if_pos ⟨ho, z⟩]
        have hfn : ¬ (0 ≤ crd (G (b * xwd X p + a)) ∧ crd (G (b * xwd X p + a)) < rd) → fc1 (xwd X p) (xhg X p) G i j rd (3 * y + x) (fcT (xwd X p) (xhg X p) G i j rd (3 * y + x)) = fcT (xwd X p) (xhg X p) G i j rd (3 * y + x) := by
          intro z
          unfold fc1
          rw [ht3, ht4, hix2, if_neg (fun q => z q.2)]
        refine V_iload C dX3_fillCell_32 rfl ?_
        refine V_aload_n (i := 1) C dX3_fillCell_34 rfl rfl ?_
        refine V_get (ci := 0) (CN := RX0) (T := TX0) (N := 10) C dX3_fillCell_35 (by first | assumption | exact hset_s _ _ _) rfl 0 (by decide) flX3_fillCell_78 wiX3_fillCell_X0 (by rfl) ?_
        refine V_iconst (v := 1) C dX3_fillCell_38 (by decide) ?_
        refine V_iadd C dX3_fillCell_39 ?_
        refine V_icmp_gt (tgt := 93) C dX3_fillCell_40 (by decide) (fun z9 => absurd z9 c40) (fun _ => ?_)
        refine V_aload_n (i := 0) C dX3_fillCell_43 rfl rfl ?_
        refine V_iload C dX3_fillCell_44 rfl ?_
        refine V_iload C dX3_fillCell_46 rfl ?_
        refine V_callV (n := 2) C (cc) dX3_fillCell_48 gX3_fillCell_X3_cellAt rfl (by first | assumption | exact hset_s _ _ _) rfl (by decide +kernel) rfl rfl (by exact Nat.le_of_ble_eq_true rfl) ⟨Nat.le_of_ble_eq_true rfl, Nat.le_of_ble_eq_true rfl⟩ ⟨Nat.le_of_ble_eq_true rfl, Nat.le_of_ble_eq_true rfl⟩ (fun v9 h9 hr9 => ?_)
        obtain ⟨rfl, z9⟩ := hr9
        have z9 := z9.symm
        subst z9
        refine V_astore7 C dX3_fillCell_51 (by decide) ?_
        refine V_aload C dX3_fillCell_53 rfl ?_
        refine V_ifnull C dX3_fillCell_55 ?_
        refine V_aload C dX3_fillCell_58 rfl ?_
        refine V_get (ci := 0) (CN := RX0) (T := TX0) (N := 10) C dX3_fillCell_60 (by first | assumption | exact hset_s _ _ _) rfl 7 (by decide) flX3_fillCell_107 wiX3_fillCell_X0 (by rfl) ?_
        refine V_if_lt (tgt := 87) C dX3_fillCell_63 (by decide) (fun c63 => ?_) (fun c63 => ?_)
        · have c63 := Int32.not_le.mpr c63
          refine V_iinc6 (v := nI (i + (x + 1)) - 1) C dX3_fillCell_87 (nI_m1 _) (by decide) ?_
          refine V_goto (tgt := 32) C dX3_fillCell_90 (by decide) ?_
          first
            | exact V_wk (by rw [hst, hfp ⟨c63, c72⟩]; simp [lle]) (ih2 _ _ ⟨rfl, rfl⟩)
            | exact V_wk (by rw [hst, hfn (fun z => c63 z.1)]; simp [lle]) (ih2 _ _ ⟨rfl, rfl⟩)
            | exact V_wk (by rw [hst, hfn (fun z => c72 z.2)]; simp [lle]) (ih2 _ _ ⟨rfl, rfl⟩)
        · have c63 := Int32.not_lt.mp c63
          refine V_aload C dX3_fillCell_66 rfl ?_
          refine V_get (ci := 0) (CN := RX0) (T := TX0) (N := 10) C dX3_fillCell_68 (by first | assumption | exact hset_s _ _ _) rfl 7 (by decide) flX3_fillCell_107 wiX3_fillCell_X0 (by rfl) ?_
          refine V_iload_n (i := 2) C dX3_fillCell_71 rfl rfl ?_
          refine V_icmp_ge (tgt := 87) C dX3_fillCell_72 (by decide) (fun c72 => ?_) (fun c72 => ?_)
          · have c72 := Int32.not_lt.mpr c72
            refine V_iinc6 (v := nI (i + (x + 1)) - 1) C dX3_fillCell_87 (nI_m1 _) (by decide) ?_
            refine V_goto (tgt := 32) C dX3_fillCell_90 (by decide) ?_
            first
              | exact V_wk (by rw [hst, hfp ⟨c63, c72⟩]; simp [lle]) (ih2 _ _ ⟨rfl, rfl⟩)
              | exact V_wk (by rw [hst, hfn (fun z => c63 z.1)]; simp [lle]) (ih2 _ _ ⟨rfl, rfl⟩)
              | exact V_wk (by rw [hst, hfn (fun z => c72 z.2)]; simp [lle]) (ih2 _ _ ⟨rfl, rfl⟩)
          · have c72 := Int32.not_le.mp c72
            refine V_fload_n (i := 3) C dX3_fillCell_75 rfl rfl ?_
            refine V_aload C dX3_fillCell_76 rfl ?_
            refine V_get (ci := 0) (CN := RX0) (T := TX0) (N := 10) C dX3_fillCell_78 (by first | assumption | exact hset_s _ _ _) rfl 4 (by decide) flX3_fillCell_39 wiX3_fillCell_X0 (by rfl) ?_
            refine V_i2f C dX3_fillCell_81 ?_
            refine V_fadd C dX3_fillCell_82 (by assumption) ?_
            refine V_fstore3 C dX3_fillCell_83 (by decide) ?_
            refine V_iinc4 (v := nI ((fcT (xwd X p) (xhg X p) G i j rd (3 * y + x)).2 + 1)) C dX3_fillCell_84 (nI_1 _) (by decide) ?_
            refine V_iinc6 (v := nI (i + (x + 1)) - 1) C dX3_fillCell_87 (nI_m1 _) (by decide) ?_
            refine V_goto (tgt := 32) C dX3_fillCell_90 (by decide) ?_
            first
              | exact V_wk (by rw [hst, hfp ⟨c63, c72⟩]; simp [lle]) (ih2 _ _ ⟨rfl, rfl⟩)
              | exact V_wk (by rw [hst, hfn (fun z => c63 z.1)]; simp [lle]) (ih2 _ _ ⟨rfl, rfl⟩)
              | exact V_wk (by rw [hst, hfn (fun z => c72 z.2)]; simp [lle]) (ih2 _ _ ⟨rfl, rfl⟩)
      · refine V_iload C dX3_fillCell_32 rfl ?_
        refine V_aload_n (i := 1) C dX3_fillCell_34 rfl rfl ?_
        refine V_get (ci := 0) (CN := RX0) (T := TX0) (N := 10) C dX3_fillCell_35 (by first | assumption | exact hset_s _ _ _) rfl 0 (by decide) flX3_fillCell_78 wiX3_fillCell_X0 (by rfl) ?_
        refine V_iconst (v := 1) C dX3_fillCell_38 (by decide) ?_
        refine V_iadd C dX3_fillCell_39 ?_
        refine V_icmp_gt (tgt := 93) C dX3_fillCell_40 (by decide) (fun z9 => absurd z9 c40) (fun _ => ?_)
        refine V_aload_n (i := 0) C dX3_fillCell_43 rfl rfl ?_
        refine V_iload C dX3_fillCell_44 rfl ?_
        refine V_iload C dX3_fillCell_46 rfl ?_
        refine V_callV (n := 2) C (c_cellAt0 r hp ho) dX3_fillCell_48 gX3_fillCell_X3_cellAt rfl (by first | assumption | exact hset_s _ _ _) rfl (by decide +kernel) rfl rfl (by exact Nat.le_of_ble_eq_true rfl) ⟨Nat.le_of_ble_eq_true rfl, Nat.le_of_ble_eq_true rfl⟩ ⟨Nat.le_of_ble_eq_true rfl, Nat.le_of_ble_eq_true rfl⟩ (fun v9 h9 hr9 => ?_)
        obtain ⟨rfl, z9⟩ := hr9
        have z9 := z9.symm
        subst z9
        refine V_astoreN7 C dX3_fillCell_51 (by decide) ?_
        refine V_aloadN C dX3_fillCell_53 rfl ?_
        refine V_ifnullN (tgt := 87) C dX3_fillCell_55 (by decide) ?_
        refine V_iinc6 (v := nI (i + (x + 1)) - 1) C dX3_fillCell_87 (nI_m1 _) (by decide) ?_
        refine V_goto (tgt := 32) C dX3_fillCell_90 (by decide) ?_
        exact V_wk (by rw [hst, show fc1 (xwd X p) (xhg X p) G i j rd (3 * y + x) (fcT (xwd X p) (xhg X p) G i j rd (3 * y + x)) = fcT (xwd X p) (xhg X p) G i j rd (3 * y + x) by unfold fc1; rw [ht3, ht4, if_neg (fun q => ho q.1)]]; simp [lle]) (ih2 _ _ ⟨rfl, rfl⟩)
    · rintro h2 ls2 ⟨z0, rfl⟩
      have z0 := z0.symm
      subst z0
      have c40 : nI i + 1 < nI (i + 3) - 1 := by
        rw [nI_1, show i + 3 = (i + 2) + 1 by omega, nI_pred]
        exact nI_lt (by omega) (by omega)
      refine V_iload C dX3_fillCell_32 rfl ?_
      refine V_aload_n (i := 1) C dX3_fillCell_34 rfl rfl ?_
      refine V_get (ci := 0) (CN := RX0) (T := TX0) (N := 10) C dX3_fillCell_35 (by first | assumption | exact hset_s _ _ _) rfl 0 (by decide) flX3_fillCell_78 wiX3_fillCell_X0 (by rfl) ?_
      refine V_iconst (v := 1) C dX3_fillCell_38 (by decide) ?_
      refine V_iadd C dX3_fillCell_39 ?_
      refine V_icmp_gt (tgt := 93) C dX3_fillCell_40 (by decide) (fun _ => ?_) (fun z9 => absurd c40 z9)
      refine V_iinc5 (v := nI (j + (y + 1)) - 1) C dX3_fillCell_93 (nI_m1 _) (by decide) ?_
      refine V_goto (tgt := 13) C dX3_fillCell_96 (by decide) ?_
      exact V_wk (by simp [lle, Nat.mul_add]) (ih _ _ ⟨rfl, rfl⟩)
  · rintro h2 ls2 ⟨z0, rfl⟩
    have z0 := z0.symm
    subst z0
    have c21 : nI j + 1 < nI (j + 3) - 1 := by
      rw [nI_1, show j + 3 = (j + 2) + 1 by omega, nI_pred]
      exact nI_lt (by omega) (by omega)
    obtain ⟨s1, s2⟩ := hT 9 (Nat.le_refl _)
    have hz : nI (fcT (xwd X p) (xhg X p) G i j rd 9).2 = 0 ↔ (fcT (xwd X p) (xhg X p) G i j rd 9).2 = 0 := nI_eq (b := 0) (by omega) (by decide)
    rw [hfc]
    by_cases h0 : (fcT (xwd X p) (xhg X p) G i j rd 9).2 = 0
    · rw [if_pos h0]
      refine V_iload C dX3_fillCell_13 rfl ?_
      refine V_aload_n (i := 1) C dX3_fillCell_15 rfl rfl ?_
      refine V_get (ci := 0) (CN := RX0) (T := TX0) (N := 10) C dX3_fillCell_16 (by first | assumption | exact hset_s _ _ _) rfl 1 (by decide) flX3_fillCell_81 wiX3_fillCell_X0 (by rfl) ?_
      refine V_iconst (v := 1) C dX3_fillCell_19 (by decide) ?_
      refine V_iadd C dX3_fillCell_20 ?_
      refine V_icmp_gt (tgt := 99) C dX3_fillCell_21 (by decide) (fun _ => ?_) (fun z9 => absurd c21 z9)
      refine V_iload C dX3_fillCell_99 rfl ?_
      refine V_if_ne (tgt := 106) C dX3_fillCell_101 (by decide) (fun z9 => absurd (hz.mpr h0) z9) (fun _ => ?_)
      refine V_iconst (v := 0) C dX3_fillCell_104 (by decide) ?_
      exact V_zret C dX3_fillCell_105 hr (by rfl) ⟨rfl, r, hfr.rf⟩ (by exact Nat.le_of_ble_eq_true rfl) (by exact Nat.le_of_ble_eq_true rfl)
    · rw [if_neg h0]
      subst hi
      subst hj
      have hdv := fp_div s1 (by omega) s2
      have hnd := fb_n32 hdv.1
      refine V_iload C dX3_fillCell_13 rfl ?_
      refine V_aload_n (i := 1) C dX3_fillCell_15 rfl rfl ?_
      refine V_get (ci := 0) (CN := RX0) (T := TX0) (N := 10) C dX3_fillCell_16 (by first | assumption | exact hset_s _ _ _) rfl 1 (by decide) flX3_fillCell_81 wiX3_fillCell_X0 (by rfl) ?_
      refine V_iconst (v := 1) C dX3_fillCell_19 (by decide) ?_
      refine V_iadd C dX3_fillCell_20 ?_
      refine V_icmp_gt (tgt := 99) C dX3_fillCell_21 (by decide) (fun _ => ?_) (fun z9 => absurd c21 z9)
      refine V_iload C dX3_fillCell_99 rfl ?_
      refine V_if_ne (tgt := 106) C dX3_fillCell_101 (by decide) (fun _ => ?_) (fun z9 => absurd z9 (fun z => h0 (hz.mp z)))
      refine V_aload_n (i := 1) C dX3_fillCell_106 rfl rfl ?_
      refine V_fload_n (i := 3) C dX3_fillCell_107 rfl rfl ?_
      refine V_iload C dX3_fillCell_108 rfl ?_
      refine V_i2f C dX3_fillCell_110 ?_
      refine V_fdiv C dX3_fillCell_111 (by assumption) ?_
      refine V_f2i C dX3_fillCell_112 ?_
      refine V_put (ci := 0) (CN := RX0) (T := TX0) (N := 10) (ty := (tyX0 4)) C dX3_fillCell_113 (by first | assumption | exact hset_s _ _ _) rfl tyX0 tyX0_ok nmX0 4 (by decide) flX3_fillCell_39 wiX3_fillCell_X0 rfl (tyX0_ok 4 (by decide)) (by rfl) (by rfl) (by exact Nat.le_of_ble_eq_true rfl) ?_
      refine V_aload_n (i := 1) C dX3_fillCell_116 rfl rfl ?_
      refine V_iload_n (i := 2) C dX3_fillCell_117 rfl rfl ?_
      refine V_put (ci := 0) (CN := RX0) (T := TX0) (N := 10) (ty := (tyX0 7)) C dX3_fillCell_118 (by first | assumption | exact hset_s _ _ _) rfl tyX0 tyX0_ok nmX0 7 (by decide) flX3_fillCell_107 wiX3_fillCell_X0 rfl (tyX0_ok 7 (by decide)) (by rfl) (by rfl) (by exact Nat.le_of_ble_eq_true rfl) ?_
      rw [hset_hset]
      refine V_iconst (v := 1) C dX3_fillCell_121 (by decide) ?_
      exact V_zret C dX3_fillCell_122 hr (by rfl) ⟨rfl, r.psetG hp hk (cdR (cdW (G k) (FP.f2i (FP.fdiv (fcT (xwd X p) (xhg X p) G (k % xwd X p) (k / xwd X p) rd 9).1 (FP.i2f (nI (fcT (xwd X p) (xhg X p) G (k % xwd X p) (k / xwd X p) rd 9).2))))) rd), hfr.cell hp hk⟩ (by exact Nat.le_of_ble_eq_true rfl) (by exact Nat.le_of_ble_eq_true rfl)
set_option maxHeartbeats 4000000 in
set_option maxRecDepth 100000 in
theorem c_fillRound {rd : Int32} (r : XR cA Z (xpl X p L G) ta h) (hd : xdim X) (hp : p < xnp X) (hW : WB (xN X p) G) : Mt l D cA bs yX3_fillRound wsX3_fillRound (rmk 2 0 0) [.ref (Z 2 p), .int rd] h (fun v h2 => v = some (.int (nI (frS (xwd X p) (xhg X p) G rd (xN X p)).2)) ∧ XR cA Z (xpl X p L (frS (xwd X p) (xhg X p) G rd (xN X p)).1) ta h2 ∧ hfr Z X h h2) := by
  obtain ⟨⟨w1, w2⟩, g1, g2⟩ := hd.2.2 p hp
  have hN := (hd.N hp).2
  have hpic := r.ppic hp
  have hcs := r.pcells hp
  refine Mt_of (cc := cX3_fillRound) (maxL := 7) (ret := (some .int)) (own := RX3) [some (.ref (Z 2 p)), some (.int rd), none, none, none, none, none] rfl (by decide +kernel) rfl rfl (by exact Nat.le_of_ble_eq_true rfl) rfl ?_
  intro p9 e9 s9 m9 args9 below9 meth9 c9 C hr hnm
  refine V_iconst (v := 0) C dX3_fillRound_0 (by decide) ?_
  refine V_istore2 C dX3_fillRound_1 (by decide) ?_
  refine V_aload_n (i := 0) C dX3_fillRound_2 rfl rfl ?_
  refine V_get (ci := 3) (CN := RX3) (T := TX3) (N := 4) C dX3_fillRound_3 (by first | assumption | exact hset_s _ _ _) rfl 3 (by decide) flX3_fillRound_23 wiX3_fillRound_X3 (by rfl) ?_
  refine V_astore3 C dX3_fillRound_6 (by decide) ?_
  refine V_aload_n (i := 3) C dX3_fillRound_7 rfl rfl ?_
  refine V_alen C dX3_fillRound_8 (by first | assumption | exact hset_s _ _ _) (by rfl) (by rfl) ?_
  refine V_istore4 C dX3_fillRound_9 (by decide) ?_
  refine V_iconst (v := 0) C dX3_fillRound_11 (by decide) ?_
  refine V_istore5 C dX3_fillRound_12 (by decide) ?_
  refine V_for (xN X p) (fun i h2 ls2 => XR cA Z (xpl X p L (frS (xwd X p) (xhg X p) G rd i).1) ta h2 ∧ hfr Z X h h2 ∧ ls2 = [some (.ref (Z 2 p)), some (.int rd), some (.int (nI (frS (xwd X p) (xhg X p) G rd i).2)), some (.ref (Z 3 p)), some (.int (nI (xN X p))), some (.int (nI i)), none]) ?_ ?_ 0 (Nat.zero_le _) ⟨r, hfr.rf, rfl⟩
  · rintro i h4 ls2 hi ⟨r4, f4, rfl⟩ ih
    have hcs := r4.pcells hp
    have hpic := r4.ppic hp
    have hc := r4.pcell hp hi
    have hW2 := frS_W (rd := rd) w2 g2 hW i
    have hex : ∀ S, S = frS (xwd X p) (xhg X p) G rd i → frS (xwd X p) (xhg X p) G rd (i + 1) = if crd (S.1 i) < 0 then ((fcC (xwd X p) (xhg X p) S.1 i rd).1, S.2 + (fcC (xwd X p) (xhg X p) S.1 i rd).2) else S := fun S h1 => by rw [h1]; rfl
    obtain ⟨S4, hS4⟩ : ∃ S4, S4 = frS (xwd X p) (xhg X p) G rd i := ⟨_, rfl⟩
    have hex := hex S4 hS4
    rw [← hS4] at r4 hc hW2 ⊢
    have hle := fcC_le (xwd X p) (xhg X p) S4.1 i rd
    have hz : nI (fcC (xwd X p) (xhg X p) S4.1 i rd).2 = 0 ↔ (fcC (xwd X p) (xhg X p) S4.1 i rd).2 = 0 := nI_eq (b := 0) (by omega) (by decide)
    refine V_iload C dX3_fillRound_14 rfl ?_
    refine V_iload C dX3_fillRound_16 rfl ?_
    refine V_icmp_ge (tgt := 54) C dX3_fillRound_18 (by decide) (fun z9 => absurd z9 (nI_ge hi (by omega))) (fun _ => ?_)
    refine V_aload_n (i := 3) C dX3_fillRound_21 rfl rfl ?_
    refine V_iload C dX3_fillRound_22 rfl ?_
    refine V_aaldS C dX3_fillRound_24 (by first | assumption | exact hset_s _ _ _) (by rfl) rfl hi (Nat.le_trans hN (by decide)) (if_pos hi) ?_
    refine V_astore6 C dX3_fillRound_25 (by decide) ?_
    refine V_aload C dX3_fillRound_27 rfl ?_
    refine V_get (ci := 0) (CN := RX0) (T := TX0) (N := 10) C dX3_fillRound_29 (by first | assumption | exact hset_s _ _ _) rfl 7 (by decide) flX3_fillRound_107 wiX3_fillRound_X0 (by rfl) ?_
    refine V_if_ge (tgt := 48) C dX3_fillRound_32 (by decide) (fun c32 => ?_) (fun c32 => ?_)
    · have e8 := hex.trans (if_neg (Int32.not_lt.mpr c32))
      refine V_iinc5 (v := nI (i + 1)) C dX3_fillRound_48 (nI_1 _) (by decide) ?_
      refine V_goto (tgt := 14) C dX3_fillRound_51 (by decide) ?_
      first
        | exact V_wk (by rw [e8]; simp [lle, c42]) (ih _ _ ⟨by rw [e8]; exact r5, f4.tr f5, rfl⟩)
        | exact V_wk (by rw [e8]; simp [lle]) (ih _ _ ⟨by rw [e8]; exact r4, f4, rfl⟩)
    · have e8 := hex.trans (if_pos (Int32.not_le.mp c32))
      refine V_aload_n (i := 0) C dX3_fillRound_35 rfl rfl ?_
      refine V_aload C dX3_fillRound_36 rfl ?_
      refine V_iload_n (i := 1) C dX3_fillRound_38 rfl rfl ?_
      refine V_callV (n := 2) C (c_fillCell r4 hd hp hi hW2) dX3_fillRound_39 gX3_fillRound_X3_fillCell rfl (by first | assumption | exact hset_s _ _ _) rfl (by decide +kernel) rfl rfl (by exact Nat.le_of_ble_eq_true rfl) ⟨Nat.le_of_ble_eq_true rfl, Nat.le_of_ble_eq_true rfl⟩ ⟨Nat.le_of_ble_eq_true rfl, Nat.le_of_ble_eq_true rfl⟩ (fun v9 h9 hr9 => ?_)
      obtain ⟨rfl, r5, f5⟩ := hr9
      refine V_if_eq (tgt := 48) C dX3_fillRound_42 (by decide) (fun c42 => ?_) (fun c42 => ?_)
      · have c42 := hz.mp c42
        refine V_iinc5 (v := nI (i + 1)) C dX3_fillRound_48 (nI_1 _) (by decide) ?_
        refine V_goto (tgt := 14) C dX3_fillRound_51 (by decide) ?_
        first
          | exact V_wk (by rw [e8]; simp [lle, c42]) (ih _ _ ⟨by rw [e8]; exact r5, f4.tr f5, rfl⟩)
          | exact V_wk (by rw [e8]; simp [lle]) (ih _ _ ⟨by rw [e8]; exact r4, f4, rfl⟩)
      · have c42 : (fcC (xwd X p) (xhg X p) S4.1 i rd).2 = 1 := by have : ¬ _ := fun z => c42 (hz.mpr z); omega
        refine V_iinc2 (v := nI (S4.2 + 1)) C dX3_fillRound_45 (nI_1 _) (by decide) ?_
        refine V_iinc5 (v := nI (i + 1)) C dX3_fillRound_48 (nI_1 _) (by decide) ?_
        refine V_goto (tgt := 14) C dX3_fillRound_51 (by decide) ?_
        first
          | exact V_wk (by rw [e8]; simp [lle, c42]) (ih _ _ ⟨by rw [e8]; exact r5, f4.tr f5, rfl⟩)
          | exact V_wk (by rw [e8]; simp [lle]) (ih _ _ ⟨by rw [e8]; exact r4, f4, rfl⟩)
  · rintro h4 ls2 ⟨r4, f4, rfl⟩
    refine V_iload C dX3_fillRound_14 rfl ?_
    refine V_iload C dX3_fillRound_16 rfl ?_
    refine V_icmp_ge (tgt := 54) C dX3_fillRound_18 (by decide) (fun _ => ?_) (fun z9 => absurd (nI_le (Nat.le_refl _) (by omega)) z9)
    refine V_iload_n (i := 2) C dX3_fillRound_54 rfl rfl ?_
    exact V_iret C dX3_fillRound_55 hr ⟨rfl, r4, f4⟩ (by exact Nat.le_of_ble_eq_true rfl) (by exact Nat.le_of_ble_eq_true rfl)
set_option maxHeartbeats 4000000 in
set_option maxRecDepth 100000 in
theorem c_fillGaps (r : XR cA Z (xpl X p L G) ta h) (hd : xdim X) (hp : p < xnp X) (hW : WB (xN X p) G) : Mt l D cA bs yX3_fillGaps wsX3_fillGaps (rmk 3 0 0) [.ref (Z 2 p)] h (fun v h2 => v = some (.int (nI (flR (xwd X p) (xhg X p) (xN X p) (xN X p) 1 (fl0 G (xN X p)) 0).2)) ∧ XR cA Z (xpl X p L (flR (xwd X p) (xhg X p) (xN X p) (xN X p) 1 (fl0 G (xN X p)) 0).1) ta h2 ∧ hfr Z X h h2) := by
  obtain ⟨⟨w1, w2⟩, g1, g2⟩ := hd.2.2 p hp
  have hN := (hd.N hp).2
  have hpic := r.ppic hp
  have hcs := r.pcells hp
  refine Mt_of (cc := cX3_fillGaps) (maxL := 5) (ret := (some .int)) (own := RX3) [some (.ref (Z 2 p)), none, none, none, none] rfl (by decide +kernel) rfl rfl (by exact Nat.le_of_ble_eq_true rfl) rfl ?_
  intro p9 e9 s9 m9 args9 below9 meth9 c9 C hr hnm
  refine V_aload_n (i := 0) C dX3_fillGaps_0 rfl rfl ?_
  refine V_get (ci := 3) (CN := RX3) (T := TX3) (N := 4) C dX3_fillGaps_1 (by first | assumption | exact hset_s _ _ _) rfl 3 (by decide) flX3_fillGaps_23 wiX3_fillGaps_X3 (by rfl) ?_
  refine V_astore1 C dX3_fillGaps_4 (by decide) ?_
  refine V_aload_n (i := 1) C dX3_fillGaps_5 rfl rfl ?_
  refine V_alen C dX3_fillGaps_6 (by first | assumption | exact hset_s _ _ _) (by rfl) (by rfl) ?_
  refine V_istore2 C dX3_fillGaps_7 (by decide) ?_
  refine V_iconst (v := 0) C dX3_fillGaps_8 (by decide) ?_
  refine V_istore3 C dX3_fillGaps_9 (by decide) ?_
  refine V_for (xN X p) (fun i h2 ls2 => XR cA Z (xpl X p L (fl0 G i)) ta h2 ∧ hfr Z X h h2 ∧ ls2 = [some (.ref (Z 2 p)), some (.ref (Z 3 p)), some (.int (nI (xN X p))), some (.int (nI i)), none]) ?_ ?_ 0 (Nat.zero_le _) ⟨by rw [fl0_0]; exact r, hfr.rf, rfl⟩
  · rintro i h4 ls2 hi ⟨r4, f4, rfl⟩ ih
    have hcs := r4.pcells hp
    have hc := r4.pcell hp hi
    have hgi : fl0 G i i = G i := if_neg (Nat.lt_irrefl i)
    refine V_iload_n (i := 3) C dX3_fillGaps_10 rfl rfl ?_
    refine V_iload_n (i := 2) C dX3_fillGaps_11 rfl rfl ?_
    refine V_icmp_ge (tgt := 44) C dX3_fillGaps_12 (by decide) (fun z9 => absurd z9 (nI_ge hi (by omega))) (fun _ => ?_)
    refine V_aload_n (i := 1) C dX3_fillGaps_15 rfl rfl ?_
    refine V_iload_n (i := 3) C dX3_fillGaps_16 rfl rfl ?_
    refine V_aaldS C dX3_fillGaps_17 (by first | assumption | exact hset_s _ _ _) (by rfl) rfl hi (Nat.le_trans hN (by decide)) (if_pos hi) ?_
    refine V_astore4 C dX3_fillGaps_18 (by decide) ?_
    refine V_aload C dX3_fillGaps_20 rfl ?_
    refine V_aload C dX3_fillGaps_22 rfl ?_
    refine V_callV (n := 0) C (c_isDone hc) dX3_fillGaps_24 gX3_fillGaps_X0_isDone rfl (by first | assumption | exact hset_s _ _ _) rfl (by decide +kernel) rfl rfl (by exact Nat.le_of_ble_eq_true rfl) ⟨Nat.le_of_ble_eq_true rfl, Nat.le_of_ble_eq_true rfl⟩ ⟨Nat.le_of_ble_eq_true rfl, Nat.le_of_ble_eq_true rfl⟩ (fun v9 h9 hr9 => ?_)
    obtain ⟨rfl, z9⟩ := hr9
    have z9 := z9.symm
    subst z9
    refine V_if_eq (tgt := 34) C dX3_fillGaps_27 (by decide) (fun c27 => ?_) (fun c27 => ?_)
    · have c27 : ¬ dn (G i) := by rw [← hgi]; exact ite0.mp c27
      refine V_iconst (v := (-1)) C dX3_fillGaps_34 (by decide) ?_
      refine V_put (ci := 0) (CN := RX0) (T := TX0) (N := 10) (ty := (tyX0 7)) C dX3_fillGaps_35 (by first | assumption | exact hset_s _ _ _) rfl tyX0 tyX0_ok nmX0 7 (by decide) flX3_fillGaps_107 wiX3_fillGaps_X0 rfl (tyX0_ok 7 (by decide)) (by rfl) (by rfl) (by exact Nat.le_of_ble_eq_true rfl) ?_
      refine V_iinc3 (v := nI (i + 1)) C dX3_fillGaps_38 (nI_1 _) (by decide) ?_
      refine V_goto (tgt := 10) C dX3_fillGaps_41 (by decide) ?_
      first
        | exact V_wk (by simp [lle]) (ih _ _ ⟨by rw [← fl0_s, if_pos c27]; exact r4.psetG hp hi (cdR (fl0 G i i) 0), f4.tr (hfr.cell hp hi), rfl⟩)
        | exact V_wk (by simp [lle]) (ih _ _ ⟨by rw [← fl0_s, if_neg c27]; exact r4.psetG hp hi (cdR (fl0 G i i) (-1)), f4.tr (hfr.cell hp hi), rfl⟩)
    · have c27 : dn (G i) := by rw [← hgi]; exact Classical.not_not.mp (fun z => c27 (ite0.mpr z))
      refine V_iconst (v := 0) C dX3_fillGaps_30 (by decide) ?_
      refine V_goto (tgt := 35) C dX3_fillGaps_31 (by decide) ?_
      refine V_put (ci := 0) (CN := RX0) (T := TX0) (N := 10) (ty := (tyX0 7)) C dX3_fillGaps_35 (by first | assumption | exact hset_s _ _ _) rfl tyX0 tyX0_ok nmX0 7 (by decide) flX3_fillGaps_107 wiX3_fillGaps_X0 rfl (tyX0_ok 7 (by decide)) (by rfl) (by rfl) (by exact Nat.le_of_ble_eq_true rfl) ?_
      refine V_iinc3 (v := nI (i + 1)) C dX3_fillGaps_38 (nI_1 _) (by decide) ?_
      refine V_goto (tgt := 10) C dX3_fillGaps_41 (by decide) ?_
      first
        | exact V_wk (by simp [lle]) (ih _ _ ⟨by rw [← fl0_s, if_pos c27]; exact r4.psetG hp hi (cdR (fl0 G i i) 0), f4.tr (hfr.cell hp hi), rfl⟩)
        | exact V_wk (by simp [lle]) (ih _ _ ⟨by rw [← fl0_s, if_neg c27]; exact r4.psetG hp hi (cdR (fl0 G i i) (-1)), f4.tr (hfr.cell hp hi), rfl⟩)
  · rintro h4 ls2 ⟨r4, f4, rfl⟩
    have hW0 := fl0_W hW (xN X p)
    refine V_iload_n (i := 3) C dX3_fillGaps_10 rfl rfl ?_
    refine V_iload_n (i := 2) C dX3_fillGaps_11 rfl rfl ?_
    refine V_icmp_ge (tgt := 44) C dX3_fillGaps_12 (by decide) (fun _ => ?_) (fun z9 => absurd (nI_le (Nat.le_refl _) (by omega)) z9)
    refine V_iconst (v := 0) C dX3_fillGaps_44 (by decide) ?_
    refine V_istore1 C dX3_fillGaps_45 (by decide) ?_
    refine V_iconst (v := 1) C dX3_fillGaps_46 (by decide) ?_
    refine V_istore2 C dX3_fillGaps_47 (by decide) ?_
    refine V_wk (ls2 := [some (.ref (Z 2 p)), some (.int (nI 0)), some (.int (nI 1)), none, none]) ⟨rfl, by rw [nI_0], rfl, trivial⟩ ?_
    refine V_rec (fun n h5 ls5 => ∃ (G5 : Nat → Cd) (c5 rd : Nat), n + rd = xN X p + 1 ∧ 1 ≤ rd ∧ c5 ≤ rd * 64 ∧ WB (xN X p) G5 ∧ flR (xwd X p) (xhg X p) (xN X p) (xN X p) 1 (fl0 G (xN X p)) 0 = flR (xwd X p) (xhg X p) (xN X p) n rd G5 c5 ∧ XR cA Z (xpl X p L G5) ta h5 ∧ hfr Z X h h5 ∧ ls5 = [some (.ref (Z 2 p)), some (.int (nI c5)), some (.int (nI rd)), none, none]) ?_ ?_ (xN X p) ⟨fl0 G (xN X p), 0, 1, rfl, Nat.le_refl _, by decide, hW0, rfl, r4, f4, rfl⟩
    · rintro n h5 ls5 ⟨G5, c5, rd, q1, q2, q3, hW5, q4, r5, f5, rfl⟩ ih
      have hcs := r5.pcells hp
      have hpic := r5.ppic hp
      have hfl := frS_le (xwd X p) (xhg X p) G5 (nI rd) (xN X p)
      have hz : nI (frS (xwd X p) (xhg X p) G5 (nI rd) (xN X p)).2 = 0 ↔ (frS (xwd X p) (xhg X p) G5 (nI rd) (xN X p)).2 = 0 := nI_eq (b := 0) (by omega) (by decide)
      have hex : flR (xwd X p) (xhg X p) (xN X p) (n + 1) rd G5 c5 = if (frS (xwd X p) (xhg X p) G5 (nI rd) (xN X p)).2 = 0 then ((frS (xwd X p) (xhg X p) G5 (nI rd) (xN X p)).1, c5) else flR (xwd X p) (xhg X p) (xN X p) n (rd + 1) (frS (xwd X p) (xhg X p) G5 (nI rd) (xN X p)).1 (c5 + (frS (xwd X p) (xhg X p) G5 (nI rd) (xN X p)).2) := rfl
      rw [hex] at q4
      refine V_iload_n (i := 2) C dX3_fillGaps_48 rfl rfl ?_
      refine V_aload_n (i := 0) C dX3_fillGaps_49 rfl rfl ?_
      refine V_get (ci := 3) (CN := RX3) (T := TX3) (N := 4) C dX3_fillGaps_50 (by first | assumption | exact hset_s _ _ _) rfl 3 (by decide) flX3_fillGaps_23 wiX3_fillGaps_X3 (by rfl) ?_
      refine V_alen C dX3_fillGaps_53 (by first | assumption | exact hset_s _ _ _) (by rfl) (by rfl) ?_
      refine V_icmp_gt (tgt := 80) C dX3_fillGaps_54 (by decide) (fun z9 => absurd z9 (nI_nlt (by omega) (by omega))) (fun _ => ?_)
      refine V_aload_n (i := 0) C dX3_fillGaps_57 rfl rfl ?_
      refine V_iload_n (i := 2) C dX3_fillGaps_58 rfl rfl ?_
      refine V_callV (n := 1) C (c_fillRound r5 hd hp hW5) dX3_fillGaps_59 gX3_fillGaps_X3_fillRound rfl (by first | assumption | exact hset_s _ _ _) rfl (by decide +kernel) rfl rfl (by exact Nat.le_of_ble_eq_true rfl) ⟨Nat.le_of_ble_eq_true rfl, Nat.le_of_ble_eq_true rfl⟩ ⟨Nat.le_of_ble_eq_true rfl, Nat.le_of_ble_eq_true rfl⟩ (fun v9 h9 hr9 => ?_)
      obtain ⟨rfl, r6, f6⟩ := hr9
      refine V_istore3 C dX3_fillGaps_62 (by decide) ?_
      refine V_iload_n (i := 3) C dX3_fillGaps_63 rfl rfl ?_
      refine V_if_ne (tgt := 70) C dX3_fillGaps_64 (by decide) (fun c64 => ?_) (fun c64 => ?_)
      · have e8 := q4.trans (if_neg (fun z => c64 (hz.mpr z)))
        refine V_iload_n (i := 1) C dX3_fillGaps_70 rfl rfl ?_
        refine V_iload_n (i := 3) C dX3_fillGaps_71 rfl rfl ?_
        refine V_iadd C dX3_fillGaps_72 ?_
        rw [nI_add]
        refine V_istore1 C dX3_fillGaps_73 (by decide) ?_
        refine V_iinc2 (v := nI (rd + 1)) C dX3_fillGaps_74 (nI_1 _) (by decide) ?_
        refine V_goto (tgt := 48) C dX3_fillGaps_77 (by decide) ?_
        exact V_wk (by simp [lle]) (ih _ _ ⟨_, _, rd + 1, by omega, by omega, by omega, frS_W w2 g2 hW5 _, e8, r6, f5.tr f6, rfl⟩)
      · have e8 := q4.trans (if_pos (hz.mp c64))
        refine V_goto (tgt := 80) C dX3_fillGaps_67 (by decide) ?_
        refine V_iload_n (i := 1) C dX3_fillGaps_80 rfl rfl ?_
        exact V_iret C dX3_fillGaps_81 hr ⟨by rw [e8], by rw [e8]; exact r6, f5.tr f6⟩ (by exact Nat.le_of_ble_eq_true rfl) (by exact Nat.le_of_ble_eq_true rfl)
    · rintro h5 ls5 ⟨G5, c5, rd, q1, q2, q3, hW5, q4, r5, f5, rfl⟩
      have hcs := r5.pcells hp
      have hpic := r5.ppic hp
      have e8 : flR (xwd X p) (xhg X p) (xN X p) (xN X p) 1 (fl0 G (xN X p)) 0 = (G5, c5) := q4
      refine V_iload_n (i := 2) C dX3_fillGaps_48 rfl rfl ?_
      refine V_aload_n (i := 0) C dX3_fillGaps_49 rfl rfl ?_
      refine V_get (ci := 3) (CN := RX3) (T := TX3) (N := 4) C dX3_fillGaps_50 (by first | assumption | exact hset_s _ _ _) rfl 3 (by decide) flX3_fillGaps_23 wiX3_fillGaps_X3 (by rfl) ?_
      refine V_alen C dX3_fillGaps_53 (by first | assumption | exact hset_s _ _ _) (by rfl) (by rfl) ?_
      refine V_icmp_gt (tgt := 80) C dX3_fillGaps_54 (by decide) (fun _ => ?_) (fun z9 => absurd (nI_lt (by omega) (by omega)) z9)
      refine V_iload_n (i := 1) C dX3_fillGaps_80 rfl rfl ?_
      exact V_iret C dX3_fillGaps_81 hr ⟨by rw [e8], by rw [e8]; exact r5, f5⟩ (by exact Nat.le_of_ble_eq_true rfl) (by exact Nat.le_of_ble_eq_true rfl)
end PIC6
