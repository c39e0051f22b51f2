/-! Picture: cells at places, counts, what is brought -/
def xpl (X : XS) (p : Nat) (L : Nat → Ld) (G : Nat → Cd) : XS := (X.1, L, xwd X, xhg X, fset (xg X) p G, xcr X)
def xdim (X : XS) : Prop := xnl X ≤ 12 ∧ xnp X ≤ 5 ∧ ∀ p, p < xnp X → (1 ≤ xwd X p ∧ xwd X p ≤ 8) ∧ 1 ≤ xhg X p ∧ xhg X p ≤ 8
theorem xdim.N {X : XS} (hd : xdim X) {p : Nat} (hp : p < xnp X) : 1 ≤ xN X p ∧ xN X p ≤ 64 := by
  obtain ⟨⟨h1, h2⟩, h3, h4⟩ := hd.2.2 p hp
  exact ⟨Nat.mul_le_mul h1 h3, Nat.mul_le_mul h2 h4⟩
/-- a cell of row j and column i -/
theorem at_lt {w g i j : Nat} (hi : i < w) (hj : j < g) : j * w + i < w * g := by
  have h1 : (j + 1) * w ≤ g * w := Nat.mul_le_mul_right w hj
  rw [Nat.add_mul, Nat.one_mul] at h1
  rw [Nat.mul_comm w g]
  omega
theorem at_mod {w i j : Nat} (hi : i < w) : (j * w + i) % w = i := by
  rw [Nat.add_comm, Nat.mul_comm, Nat.add_mul_mod_self_left, Nat.mod_eq_of_lt hi]
theorem at_div {w i j : Nat} (hi : i < w) : (j * w + i) / w = j := by
  rw [Nat.add_comm, Nat.mul_comm, Nat.add_mul_div_left _ _ (by omega), Nat.div_eq_of_lt hi, Nat.zero_add]
theorem at_kk {w : Nat} (k : Nat) : k / w * w + k % w = k := by
  rw [Nat.mul_comm]; exact Nat.div_add_mod k w
theorem k_mod {w k : Nat} (hw : 1 ≤ w) : k % w < w := Nat.mod_lt k hw
theorem k_div {w g k : Nat} (hk : k < w * g) : k / w < g := Nat.div_lt_of_lt_mul hk
section XPL
variable {cA : Nat → ClassId} {Z : Nat → Nat → Nat} {X : XS} {ta : Nat → Nat → Option Nat} {h : hE} {p : Nat} {L : Nat → Ld} {G : Nat → Cd}
theorem xpl_id (X : XS) (p : Nat) : xpl X p (xlo X) (xg X p) = X := by
  show (X.1, xlo X, xwd X, xhg X, fset (xg X) p (xg X p), xcr X) = X
  rw [fset_id rfl]
theorem xvd_xpl : xvd (xpl X p L G) = xvd X := by
  funext a i
  match a with
  | 0 => rfl
  | 1 => rfl
  | 2 => rfl
  | 3 => rfl
  | 4 => rfl
  | 5 => rfl
  | p + 6 => rfl
theorem XR.plot (r : XR cA Z (xpl X p L G) ta h) {k : Nat} (hk : k < xnl X) : h (Z 1 k) = some (lotC k (L k)) := r.lot hk
theorem XR.ppic (r : XR cA Z (xpl X p L G) ta h) (hp : p < xnp X) : h (Z 2 p) = some (picO (nI p) (nI (xwd X p)) (nI (xhg X p)) (Z 3 p)) := r.pic hp
theorem XR.pcells (r : XR cA Z (xpl X p L G) ta h) (hp : p < xnp X) : h (Z 3 p) = some (qarr (cA 7) (xN X p) (qfun Z (p + 6) (xN X p))) := r.cells hp
theorem XR.plots (r : XR cA Z (xpl X p L G) ta h) : h (Z 0 1) = some (qarr (cA 4) 12 (qfun Z 1 (xnl X))) := r.lots
theorem XR.pcell (r : XR cA Z (xpl X p L G) ta h) (hp : p < xnp X) {k : Nat} (hk : k < xN X p) : h (Z (p + 6) k) = some (cellC Z (xwd X p) k (G k)) := by
  have h1 := r.cell (p := p) (k := k) hp hk
  have h2 : xg (xpl X p L G) p = G := fset_s _ _ _
  rw [h2] at h1
  exact h1
theorem XR.psetG (r : XR cA Z (xpl X p L G) ta h) (hp : p < xnp X) {k : Nat} (hk : k < xN X p) (d : Cd) : XR cA Z (xpl X p L (fset G k d)) ta (hset h (Z (p + 6) k) (cellC Z (xwd X p) k d)) := by
  have h1 := r.setCell (p := p) (k := k) hp hk d
  have h2 : xg (xpl X p L G) p = G := fset_s _ _ _
  rw [h2] at h1
  have h3 : wG (xpl X p L G) p (fset G k d) = xpl X p L (fset G k d) := by
    show (_, _, _, _, fset (fset (xg X) p G) p (fset G k d), _) = (_, _, _, _, fset (xg X) p (fset G k d), _)
    rw [fset_fset]
    rfl
  rw [h3] at h1
  exact h1
theorem XR.psetL (r : XR cA Z (xpl X p L G) ta h) {k : Nat} (hk : k < xnl X) (d : Ld) : XR cA Z (xpl X p (fset L k d) G) ta (hset h (Z 1 k) (lotC k d)) := r.setLot (k := k) hk d
theorem hfr.cell (hp : p < xnp X) {k : Nat} (hk : k < xN X p) {e : va_E} : hfr Z X h (hset h (Z (p + 6) k) e) := hfr.st (a := p + 6) (i := k) ⟨hp, hk⟩
theorem hfr.lot {k : Nat} (hk : k < xnl X) {e : va_E} : hfr Z X h (hset h (Z 1 k) e) := hfr.st (a := 1) (i := k) hk
end XPL
def cdA (d : Cd) (v : UInt32) : Cd := (d.1, d.2.1, d.2.2.1, v, d.2.2.2.2)
def cdB (d : Cd) (v : UInt32) : Cd := (d.1, d.2.1, d.2.2.1, d.2.2.2.1, v, d.2.2.2.2.2)
def cdR (d : Cd) (v : Int32) : Cd := (d.1, d.2.1, d.2.2.1, d.2.2.2.1, d.2.2.2.2.1, v, d.2.2.2.2.2.2)
def cdW (d : Cd) (v : Int32) : Cd := (d.1, d.2.1, v, d.2.2.2)
def cdP (d : Cd) (k : Int32) (b : Option Nat) : Cd := (k, b, d.2.2)
abbrev cbr (d : Cd) : UInt32 := d.2.2.2.2.1
abbrev cwn (d : Cd) : Int32 := d.2.2.1
abbrev clt (d : Cd) : Option Nat := d.2.1
abbrev cam (d : Cd) : UInt32 := d.2.2.2.1
abbrev crd (d : Cd) : Int32 := d.2.2.2.2.2.1
abbrev cla (d : Cd) : Int32 := d.2.2.2.2.2.2.1
abbrev cdr (d : Cd) : Int32 := d.2.2.2.2.2.2.2
def cntN (G : Nat → Cd) (kd : Int32) : Nat → Nat
  | 0 => 0
  | n + 1 => cntN G kd n + (if (G n).1 = kd then 1 else 0)
theorem cntN_le (G : Nat → Cd) (kd : Int32) (n : Nat) : cntN G kd n ≤ n := by
  induction n with
  | zero => exact Nat.le_refl _
  | succ n ih =>
    unfold cntN
    split <;> omega
def fgG (G : Nat → Cd) (i : Nat) : Nat → Cd := fun k => if k < i then cdB (G k) FP.fconst0 else G k
theorem fgG_0 (G : Nat → Cd) : fgG G 0 = G := by
  funext k
  exact if_neg (Nat.not_lt_zero k)
theorem fgG_s (G : Nat → Cd) (i : Nat) : fset (fgG G i) i (cdB (fgG G i i) FP.fconst0) = fgG G (i + 1) := by
  funext k
  unfold fset fgG
  by_cases h1 : k = i
  · subst h1
    simp
  · rw [if_neg h1]
    by_cases h2 : k < i
    · rw [if_pos h2, if_pos (by omega)]
    · rw [if_neg h2, if_neg (by omega)]
def fab (d : UInt32) : UInt32 := if FP.fcmp d FP.fconst0 = some .lt then FP.fneg d else d
/-- whether x, y is a place of the picture -/
abbrev isAt (w g : Nat) (x y : Int32) : Prop := 0 ≤ x ∧ x < nI w ∧ 0 ≤ y ∧ y < nI g
theorem isAt_of {w g : Nat} {x y : Int32} (hw : w ≤ 8) (hg : g ≤ 8) (h : isAt w g x y) : ∃ i j, i < w ∧ j < g ∧ x = nI i ∧ y = nI j := by
  obtain ⟨h1, h2, h3, h4⟩ := h
  have f : ∀ {z : Int32} {n : Nat}, n ≤ 8 → 0 ≤ z → z < nI n → ∃ i, i < n ∧ z = nI i := by
    intro z n hn a b
    refine vp_in_of (vp_in_iff.mpr ⟨?_, ?_⟩) (by omega)
    · have := Int32.le_iff_toInt_le.mp a
      simpa using this
    · have := Int32.lt_iff_toInt_lt.mp b
      rwa [nI_toInt (by omega)] at this
  obtain ⟨i, hi, rfl⟩ := f hw h1 h2
  obtain ⟨j, hj, rfl⟩ := f hg h3 h4
  exact ⟨i, j, hi, hj, rfl, rfl⟩
theorem isAt_nI {w g i j : Nat} (hw : w ≤ 8) (hg : g ≤ 8) (hi : i < w) (hj : j < g) : isAt w g (nI i) (nI j) := ⟨nI_pos' (by omega), nI_lt hi (by omega), nI_pos' (by omega), nI_lt hj (by omega)⟩
/-- what is brought to a place -/
def brT (w g : Nat) (G : Nat → Cd) (x y : Int32) (v : UInt32) : Nat → Cd := if isAt w g x y then fset G (y.toNatClampNeg * w + x.toNatClampNeg) (cdB (G (y.toNatClampNeg * w + x.toNatClampNeg)) (FP.fadd (cbr (G (y.toNatClampNeg * w + x.toNatClampNeg))) v)) else G
theorem brT_fb {w g N A B : Nat} {G : Nat → Cd} {x y : Int32} {v : UInt32} (C : Nat) (hG : ∀ k, k < N → fb (cbr (G k)) A) (hv : fb v B) (hC : A + B ≤ C) (hC2 : C ≤ 2 ^ 24) : ∀ k, k < N → fb (cbr (brT w g G x y v k)) C := by
  intro k hk
  unfold brT
  split
  · unfold fset
    split
    · rename_i h1
      rw [← h1]
      exact fb_add (hG k hk) hv hC hC2
    · exact fb_mono (hG k hk) (by omega)
  · exact fb_mono (hG k hk) (by omega)
def passG (w g k : Nat) (G : Nat → Cd) (u : UInt32) : Nat → Cd :=
  if FP.fcmp u FP.fconst0 = some .eq then G else
  brT w g (brT w g (brT w g (brT w g G (nI (k % w) + 1) (nI (k / w)) (FP.fmul u 1054867456)) (nI (k % w) - 1) (nI (k / w) + 1) (FP.fmul u 1044381696)) (nI (k % w)) (nI (k / w) + 1) (FP.fmul u 1050673152)) (nI (k % w) + 1) (nI (k / w) + 1) (FP.fmul u 1031798784)
section PIC1
variable {l : Launch} {D : va_G} {cA : Nat → ClassId} {bs : Nat} {Z : Nat → Nat → Nat} {X : XS} {ta : Nat → Nat → Option Nat} {h : hE} {p : Nat} {L : Nat → Ld} {G : Nat → Cd}
set_option maxHeartbeats 4000000 in
set_option maxRecDepth 100000 in
theorem c_cellAt1 {i j : Nat} (r : XR cA Z (xpl X p L G) ta h) (hd : xdim X) (hp0 : p < xnp X) (hi : i < xwd X p) (hj : j < xhg X p) : Mt l D cA bs yX3_cellAt wsX3_cellAt (rmk 0 0 0) [.ref (Z 2 p), .int (nI i), .int (nI j)] h (fun v h2 => v = some (.ref (Z (p + 6) (j * xwd X p + i))) ∧ h2 = h) := by
  obtain ⟨⟨w1, w2⟩, g1, g2⟩ := hd.2.2 p hp0
  have hN := (hd.N hp0).2
  have hpic := r.ppic hp0
  have hcs := r.pcells hp0
  refine Mt_of (cc := cX3_cellAt) (maxL := 3) (ret := (some (.object "TesseraeRow$Cell"))) (own := RX3) [some (.ref (Z 2 p)), some (.int (nI i)), some (.int (nI j))] rfl (by decide +kernel) rfl rfl (by exact Nat.le_of_ble_eq_true rfl) rfl ?_
  intro p9 e9 s9 m9 args9 below9 meth9 c9 C hr hnm
  refine V_iload_n (i := 1) C dX3_cellAt_0 rfl rfl ?_
  refine V_if_lt (tgt := 24) C dX3_cellAt_1 (by decide) (fun z9 => absurd z9 (nI_pos (by omega))) (fun _ => ?_)
  refine V_iload_n (i := 1) C dX3_cellAt_4 rfl rfl ?_
  refine V_aload_n (i := 0) C dX3_cellAt_5 rfl rfl ?_
  refine V_get (ci := 3) (CN := RX3) (T := TX3) (N := 4) C dX3_cellAt_6 (by first | assumption | exact hset_s _ _ _) rfl 1 (by decide) flX3_cellAt_15 wiX3_cellAt_X3 (by rfl) ?_
  refine V_icmp_ge (tgt := 24) C dX3_cellAt_9 (by decide) (fun z9 => absurd z9 (nI_ge hi (by omega))) (fun _ => ?_)
  refine V_iload_n (i := 2) C dX3_cellAt_12 rfl rfl ?_
  refine V_if_lt (tgt := 24) C dX3_cellAt_13 (by decide) (fun z9 => absurd z9 (nI_pos (by omega))) (fun _ => ?_)
  refine V_iload_n (i := 2) C dX3_cellAt_16 rfl rfl ?_
  refine V_aload_n (i := 0) C dX3_cellAt_17 rfl rfl ?_
  refine V_get (ci := 3) (CN := RX3) (T := TX3) (N := 4) C dX3_cellAt_18 (by first | assumption | exact hset_s _ _ _) rfl 2 (by decide) flX3_cellAt_18 wiX3_cellAt_X3 (by rfl) ?_
  refine V_icmp_lt (tgt := 26) C dX3_cellAt_21 (by decide) (fun _ => ?_) (fun z9 => absurd (nI_lt hj (by omega)) z9)
  refine V_aload_n (i := 0) C dX3_cellAt_26 rfl rfl ?_
  refine V_get (ci := 3) (CN := RX3) (T := TX3) (N := 4) C dX3_cellAt_27 (by first | assumption | exact hset_s _ _ _) rfl 3 (by decide) flX3_cellAt_23 wiX3_cellAt_X3 (by rfl) ?_
  refine V_iload_n (i := 2) C dX3_cellAt_30 rfl rfl ?_
  refine V_aload_n (i := 0) C dX3_cellAt_31 rfl rfl ?_
  refine V_get (ci := 3) (CN := RX3) (T := TX3) (N := 4) C dX3_cellAt_32 (by first | assumption | exact hset_s _ _ _) rfl 1 (by decide) flX3_cellAt_15 wiX3_cellAt_X3 (by rfl) ?_
  refine V_imul C dX3_cellAt_35 ?_
  refine V_iload_n (i := 1) C dX3_cellAt_36 rfl rfl ?_
  refine V_iadd C dX3_cellAt_37 ?_
  refine V_aaldS C dX3_cellAt_38 (by first | assumption | exact hset_s _ _ _) (by rfl) (by rw [pk_mul, nI_add]) (at_lt hi hj) (Nat.le_trans hN (by decide)) (if_pos (at_lt hi hj)) ?_
  exact V_aret C dX3_cellAt_39 hr (Or.inl ⟨_, rfl⟩) (by first | exact Or.inl rfl | exact Or.inr ⟨_, rfl⟩) ⟨rfl, rfl⟩ (by exact Nat.le_of_ble_eq_true rfl) (by exact Nat.le_of_ble_eq_true rfl)
set_option maxHeartbeats 4000000 in
set_option maxRecDepth 100000 in
theorem c_cellAt0 {x y : Int32} (r : XR cA Z (xpl X p L G) ta h) (hp0 : p < xnp X) (ho : ¬ isAt (xwd X p) (xhg X p) x y) : Mt l D cA bs yX3_cellAt wsX3_cellAt (rmk 0 0 0) [.ref (Z 2 p), .int x, .int y] h (fun v h2 => v = some .null ∧ h2 = h) := by
  have hpic := r.ppic hp0
  refine Mt_of (cc := cX3_cellAt) (maxL := 3) (ret := (some (.object "TesseraeRow$Cell"))) (own := RX3) [some (.ref (Z 2 p)), some (.int x), some (.int y)] rfl (by decide +kernel) rfl rfl (by exact Nat.le_of_ble_eq_true rfl) rfl ?_
  intro p9 e9 s9 m9 args9 below9 meth9 c9 C hr hnm
  refine V_iload_n (i := 1) C dX3_cellAt_0 rfl rfl ?_
  refine V_if_lt (tgt := 24) C dX3_cellAt_1 (by decide) (fun c1 => ?_) (fun c1 => ?_)
  · refine V_null C dX3_cellAt_24 ?_
    exact V_aret C dX3_cellAt_25 hr (Or.inl ⟨_, rfl⟩) (by first | exact Or.inl rfl | exact Or.inr ⟨_, rfl⟩) ⟨rfl, rfl⟩ (by exact Nat.le_of_ble_eq_true rfl) (by exact Nat.le_of_ble_eq_true rfl)
  · refine V_iload_n (i := 1) C dX3_cellAt_4 rfl rfl ?_
    refine V_aload_n (i := 0) C dX3_cellAt_5 rfl rfl ?_
    refine V_get (ci := 3) (CN := RX3) (T := TX3) (N := 4) C dX3_cellAt_6 (by first | assumption | exact hset_s _ _ _) rfl 1 (by decide) flX3_cellAt_15 wiX3_cellAt_X3 (by rfl) ?_
    refine V_icmp_ge (tgt := 24) C dX3_cellAt_9 (by decide) (fun c9 => ?_) (fun c9 => ?_)
    · refine V_null C dX3_cellAt_24 ?_
      exact V_aret C dX3_cellAt_25 hr (Or.inl ⟨_, rfl⟩) (by first | exact Or.inl rfl | exact Or.inr ⟨_, rfl⟩) ⟨rfl, rfl⟩ (by exact Nat.le_of_ble_eq_true rfl) (by exact Nat.le_of_ble_eq_true rfl)
    · refine V_iload_n (i := 2) C dX3_cellAt_12 rfl rfl ?_
      refine V_if_lt (tgt := 24) C dX3_cellAt_13 (by decide) (fun c13 => ?_) (fun c13 => ?_)
      · refine V_null C dX3_cellAt_24 ?_
        exact V_aret C dX3_cellAt_25 hr (Or.inl ⟨_, rfl⟩) (by first | exact Or.inl rfl | exact Or.inr ⟨_, rfl⟩) ⟨rfl, rfl⟩ (by exact Nat.le_of_ble_eq_true rfl) (by exact Nat.le_of_ble_eq_true rfl)
      · refine V_iload_n (i := 2) C dX3_cellAt_16 rfl rfl ?_
        refine V_aload_n (i := 0) C dX3_cellAt_17 rfl rfl ?_
        refine V_get (ci := 3) (CN := RX3) (T := TX3) (N := 4) C dX3_cellAt_18 (by first | assumption | exact hset_s _ _ _) rfl 2 (by decide) flX3_cellAt_18 wiX3_cellAt_X3 (by rfl) ?_
        refine V_icmp_lt (tgt := 26) C dX3_cellAt_21 (by decide) (fun c21 => ?_) (fun c21 => ?_)
        · exact absurd ⟨Int32.not_lt.mp c1, Int32.not_le.mp c9, Int32.not_lt.mp c13, c21⟩ ho
        · refine V_null C dX3_cellAt_24 ?_
          exact V_aret C dX3_cellAt_25 hr (Or.inl ⟨_, rfl⟩) (by first | exact Or.inl rfl | exact Or.inr ⟨_, rfl⟩) ⟨rfl, rfl⟩ (by exact Nat.le_of_ble_eq_true rfl) (by exact Nat.le_of_ble_eq_true rfl)
set_option maxHeartbeats 4000000 in
set_option maxRecDepth 100000 in
theorem c_count {kd : Int32} (r : XR cA Z (xpl X p L G) ta h) (hd : xdim X) (hp0 : p < xnp X) : Mt l D cA bs yX3_count wsX3_count (rmk 0 0 0) [.ref (Z 2 p), .int kd] h (fun v h2 => v = some (.int (nI (cntN G kd (xN X p)))) ∧ h2 = h) := by
  have hN := (hd.N hp0).2
  have hpic := r.ppic hp0
  have hcs := r.pcells hp0
  refine Mt_of (cc := cX3_count) (maxL := 7) (ret := (some .int)) (own := RX3) [some (.ref (Z 2 p)), some (.int kd), none, none, none, none, none] rfl (by decide +kernel) rfl rfl (by exact Nat.le_of_ble_eq_true rfl) rfl ?_
  intro p9 e9 s9 m9 args9 below9 meth9 c9 C hr hnm
  refine V_iconst (v := 0) C dX3_count_0 (by decide) ?_
  refine V_istore2 C dX3_count_1 (by decide) ?_
  refine V_aload_n (i := 0) C dX3_count_2 rfl rfl ?_
  refine V_get (ci := 3) (CN := RX3) (T := TX3) (N := 4) C dX3_count_3 (by first | assumption | exact hset_s _ _ _) rfl 3 (by decide) flX3_count_23 wiX3_count_X3 (by rfl) ?_
  refine V_astore3 C dX3_count_6 (by decide) ?_
  refine V_aload_n (i := 3) C dX3_count_7 rfl rfl ?_
  refine V_alen C dX3_count_8 (by first | assumption | exact hset_s _ _ _) (by rfl) (by rfl) ?_
  refine V_istore4 C dX3_count_9 (by decide) ?_
  refine V_iconst (v := 0) C dX3_count_11 (by decide) ?_
  refine V_istore5 C dX3_count_12 (by decide) ?_
  refine V_for (xN X p) (fun i h2 ls2 => h2 = h ∧ ls2 = [some (.ref (Z 2 p)), some (.int kd), some (.int (nI (cntN G kd i))), some (.ref (Z 3 p)), some (.int (nI (xN X p))), some (.int (nI i)), none]) ?_ ?_ 0 (Nat.zero_le _) ⟨rfl, rfl⟩
  · rintro i h2 ls2 hi ⟨rfl, rfl⟩ ih
    have hc := r.pcell hp0 hi
    refine V_iload C dX3_count_14 rfl ?_
    refine V_iload C dX3_count_16 rfl ?_
    refine V_icmp_ge (tgt := 45) C dX3_count_18 (by decide) (fun z9 => absurd z9 (nI_ge hi (by omega))) (fun _ => ?_)
    refine V_aload_n (i := 3) C dX3_count_21 rfl rfl ?_
    refine V_iload C dX3_count_22 rfl ?_
    refine V_aaldS C dX3_count_24 (by first | assumption | exact hset_s _ _ _) (by rfl) rfl hi (Nat.le_trans hN (by decide)) (if_pos hi) ?_
    refine V_astore6 C dX3_count_25 (by decide) ?_
    refine V_aload C dX3_count_27 rfl ?_
    refine V_get (ci := 0) (CN := RX0) (T := TX0) (N := 10) C dX3_count_29 (by first | assumption | exact hset_s _ _ _) rfl 2 (by decide) flX3_count_30 wiX3_count_X0 (by rfl) ?_
    refine V_iload_n (i := 1) C dX3_count_32 rfl rfl ?_
    refine V_icmp_ne (tgt := 39) C dX3_count_33 (by decide) (fun c33 => ?_) (fun c33 => ?_)
    · refine V_iinc5 (v := nI (i + 1)) C dX3_count_39 (nI_1 _) (by decide) ?_
      refine V_goto (tgt := 14) C dX3_count_42 (by decide) ?_
      exact V_wk (by simp [lle, cntN, c33]) (ih _ _ ⟨rfl, rfl⟩)
    · refine V_iinc2 (v := nI (cntN G kd i + 1)) C dX3_count_36 (nI_1 _) (by decide) ?_
      refine V_iinc5 (v := nI (i + 1)) C dX3_count_39 (nI_1 _) (by decide) ?_
      refine V_goto (tgt := 14) C dX3_count_42 (by decide) ?_
      exact V_wk (by simp [lle, cntN, c33]) (ih _ _ ⟨rfl, rfl⟩)
  · rintro h2 ls2 ⟨rfl, rfl⟩
    refine V_iload C dX3_count_14 rfl ?_
    refine V_iload C dX3_count_16 rfl ?_
    refine V_icmp_ge (tgt := 45) C dX3_count_18 (by decide) (fun _ => ?_) (fun z9 => absurd (nI_le (Nat.le_refl _) (by omega)) z9)
    refine V_iload_n (i := 2) C dX3_count_45 rfl rfl ?_
    exact V_iret C dX3_count_46 hr ⟨rfl, rfl⟩ (by exact Nat.le_of_ble_eq_true rfl) (by exact Nat.le_of_ble_eq_true rfl)
set_option maxHeartbeats 4000000 in
set_option maxRecDepth 100000 in
theorem c_forget (r : XR cA Z (xpl X p L G) ta h) (hd : xdim X) (hp0 : p < xnp X) : Mt l D cA bs yX3_forgetBrought wsX3_forgetBrought (rmk 0 0 0) [.ref (Z 2 p)] h (fun v h2 => v = none ∧ XR cA Z (xpl X p L (fgG G (xN X p))) ta h2 ∧ hfr Z X h h2) := by
  have hN := (hd.N hp0).2
  have hpic := r.ppic hp0
  have hcs := r.pcells hp0
  refine Mt_of (cc := cX3_forgetBrought) (maxL := 5) (ret := (none)) (own := RX3) [some (.ref (Z 2 p)), none, none, none, none] rfl (by decide +kernel) rfl rfl (by exact Nat.le_of_ble_eq_true rfl) rfl ?_
  intro p9 e9 s9 m9 args9 below9 meth9 c9 C hr hnm
  refine V_aload_n (i := 0) C dX3_forgetBrought_0 rfl rfl ?_
  refine V_get (ci := 3) (CN := RX3) (T := TX3) (N := 4) C dX3_forgetBrought_1 (by first | assumption | exact hset_s _ _ _) rfl 3 (by decide) flX3_forgetBrought_23 wiX3_forgetBrought_X3 (by rfl) ?_
  refine V_astore1 C dX3_forgetBrought_4 (by decide) ?_
  refine V_aload_n (i := 1) C dX3_forgetBrought_5 rfl rfl ?_
  refine V_alen C dX3_forgetBrought_6 (by first | assumption | exact hset_s _ _ _) (by rfl) (by rfl) ?_
  refine V_istore2 C dX3_forgetBrought_7 (by decide) ?_
  refine V_iconst (v := 0) C dX3_forgetBrought_8 (by decide) ?_
  refine V_istore3 C dX3_forgetBrought_9 (by decide) ?_
  refine V_for (xN X p) (fun i h2 ls2 => XR cA Z (xpl X p L (fgG G i)) ta h2 ∧ hfr Z X h h2 ∧ ls2 = [some (.ref (Z 2 p)), some (.ref (Z 3 p)), some (.int (nI (xN X p))), some (.int (nI i)), none]) ?_ ?_ 0 (Nat.zero_le _) ⟨by rw [fgG_0]; exact r, hfr.rf, rfl⟩
  · rintro i h2 ls2 hi ⟨r2, f2, rfl⟩ ih
    have hcs := r2.pcells hp0
    have hc := r2.pcell hp0 hi
    refine V_iload_n (i := 3) C dX3_forgetBrought_10 rfl rfl ?_
    refine V_iload_n (i := 2) C dX3_forgetBrought_11 rfl rfl ?_
    refine V_icmp_ge (tgt := 32) C dX3_forgetBrought_12 (by decide) (fun z9 => absurd z9 (nI_ge hi (by omega))) (fun _ => ?_)
    refine V_aload_n (i := 1) C dX3_forgetBrought_15 rfl rfl ?_
    refine V_iload_n (i := 3) C dX3_forgetBrought_16 rfl rfl ?_
    refine V_aaldS C dX3_forgetBrought_17 (by first | assumption | exact hset_s _ _ _) (by rfl) rfl hi (Nat.le_trans hN (by decide)) (if_pos hi) ?_
    refine V_astore4 C dX3_forgetBrought_18 (by decide) ?_
    refine V_aload C dX3_forgetBrought_20 rfl ?_
    refine V_fconst0 C dX3_forgetBrought_22 ?_
    refine V_put (ci := 0) (CN := RX0) (T := TX0) (N := 10) (ty := (tyX0 6)) C dX3_forgetBrought_23 (by first | assumption | exact hset_s _ _ _) rfl tyX0 tyX0_ok nmX0 6 (by decide) flX3_forgetBrought_42 wiX3_forgetBrought_X0 rfl (tyX0_ok 6 (by decide)) (by rfl) (by rfl) (by exact Nat.le_of_ble_eq_true rfl) ?_
    refine V_iinc3 (v := nI (i + 1)) C dX3_forgetBrought_26 (nI_1 _) (by decide) ?_
    refine V_goto (tgt := 10) C dX3_forgetBrought_29 (by decide) ?_
    exact V_wk (by simp [lle]) (ih _ _ ⟨by rw [← fgG_s]; exact r2.psetG hp0 hi _, f2.tr (hfr.cell hp0 hi), rfl⟩)
  · rintro h2 ls2 ⟨r2, f2, rfl⟩
    refine V_iload_n (i := 3) C dX3_forgetBrought_10 rfl rfl ?_
    refine V_iload_n (i := 2) C dX3_forgetBrought_11 rfl rfl ?_
    refine V_icmp_ge (tgt := 32) C dX3_forgetBrought_12 (by decide) (fun _ => ?_) (fun z9 => absurd (nI_le (Nat.le_refl _) (by omega)) z9)
    exact V_vret C dX3_forgetBrought_32 hr ⟨rfl, r2, f2⟩ (by exact Nat.le_of_ble_eq_true rfl) (by exact Nat.le_of_ble_eq_true rfl)
set_option maxHeartbeats 4000000 in
set_option maxRecDepth 100000 in
theorem c_distance {u v : UInt32} (hn : vf_n32 (FP.fsub u v)) : Mt l D cA bs yX3_distance wsX3_distance (rmk 0 0 0) [.float u, .float v] h (fun r h2 => r = some (.float (fab (FP.fsub u v))) ∧ h2 = h) := by
  refine Mt_of (cc := cX3_distance) (maxL := 3) (ret := (some .float)) (own := RX3) [some (.float u), some (.float v), none] rfl (by decide +kernel) rfl rfl (by exact Nat.le_of_ble_eq_true rfl) rfl ?_
  intro p9 e9 s9 m9 args9 below9 meth9 c9 C hr hnm
  refine V_fload_n (i := 0) C dX3_distance_0 rfl rfl ?_
  refine V_fload_n (i := 1) C dX3_distance_1 rfl rfl ?_
  refine V_fsub C dX3_distance_2 (by assumption) ?_
  refine V_fstore2 C dX3_distance_3 (by decide) ?_
  refine V_fload_n (i := 2) C dX3_distance_4 rfl rfl ?_
  refine V_fconst0 C dX3_distance_5 ?_
  refine V_fcmp C dX3_distance_6 ?_
  refine V_if_ge (tgt := 15) C dX3_distance_7 (by decide) (fun c7 => ?_) (fun c7 => ?_)
  · have c7 := cv_g.mp c7
    refine V_fload_n (i := 2) C dX3_distance_15 rfl rfl ?_
    exact V_fret C dX3_distance_16 hr ⟨by simp [fab, c7], rfl⟩ (by exact Nat.le_of_ble_eq_true rfl) (by exact Nat.le_of_ble_eq_true rfl)
  · have c7 := Classical.not_not.mp (fun z => c7 (cv_g.mpr z))
    refine V_fload_n (i := 2) C dX3_distance_10 rfl rfl ?_
    refine V_fneg C dX3_distance_11 ?_
    refine V_goto (tgt := 16) C dX3_distance_12 (by decide) ?_
    exact V_fret C dX3_distance_16 hr ⟨by simp [fab, c7], rfl⟩ (by exact Nat.le_of_ble_eq_true rfl) (by exact Nat.le_of_ble_eq_true rfl)
set_option maxHeartbeats 4000000 in
set_option maxRecDepth 100000 in
theorem c_bringTo {x y : Int32} {v : UInt32} (r : XR cA Z (xpl X p L G) ta h) (hd : xdim X) (hp0 : p < xnp X) (hG : ∀ k, k < xN X p → fb (cbr (G k)) (2 ^ 22)) (hv : fb v (2 ^ 22)) : Mt l D cA bs yX3_bringTo wsX3_bringTo (rmk 1 0 0) [.ref (Z 2 p), .int x, .int y, .float v] h (fun q h2 => q = none ∧ XR cA Z (xpl X p L (brT (xwd X p) (xhg X p) G x y v)) ta h2 ∧ hfr Z X h h2) := by
  have hN := (hd.N hp0).2
  obtain ⟨⟨w1, w2⟩, g1, g2⟩ := hd.2.2 p hp0
  have hpic := r.ppic hp0
  by_cases ho : isAt (xwd X p) (xhg X p) x y
  · obtain ⟨i, j, hi, hj, rfl, rfl⟩ := isAt_of w2 g2 ho
    have hk := at_lt hi hj
    have hc := r.pcell hp0 hk
    have hn : vf_n32 (FP.fadd (cbr (G (j * xwd X p + i))) v) := fb_n32 (fb_add (C := 2 ^ 23) (hG _ hk) hv (by decide) (by decide))
    refine Mt_of (cc := cX3_bringTo) (maxL := 5) (ret := (none)) (own := RX3) [some (.ref (Z 2 p)), some (.int (nI i)), some (.int (nI j)), some (.float v), none] rfl (by decide +kernel) rfl rfl (by exact Nat.le_of_ble_eq_true rfl) rfl ?_
    intro p9 e9 s9 m9 args9 below9 meth9 c9 C hr hnm
    refine V_aload_n (i := 0) C dX3_bringTo_0 rfl rfl ?_
    refine V_iload_n (i := 1) C dX3_bringTo_1 rfl rfl ?_
    refine V_iload_n (i := 2) C dX3_bringTo_2 rfl rfl ?_
    refine V_callV (n := 2) C (c_cellAt1 r hd hp0 hi hj) dX3_bringTo_3 gX3_bringTo_X3_cellAt rfl (by first | assumption | exact hset_s _ _ _) rfl (by decide +kernel) rfl rfl (by exact Nat.le_of_ble_eq_true rfl) ⟨Nat.le_of_ble_eq_true rfl, Nat.le_of_ble_eq_true rfl⟩ ⟨Nat.le_of_ble_eq_true rfl, Nat.le_of_ble_eq_true rfl⟩ (fun v9 h9 hr9 => ?_)
    obtain ⟨rfl, rfl⟩ := hr9
    refine V_astore4 C dX3_bringTo_6 (by decide) ?_
    refine V_aload C dX3_bringTo_8 rfl ?_
    refine V_ifnull C dX3_bringTo_10 ?_
    refine V_aload C dX3_bringTo_13 rfl ?_
    refine V_fload_n (i := 3) C dX3_bringTo_15 rfl rfl ?_
    refine V_callV (n := 1) C (c_bring hc hn) dX3_bringTo_16 gX3_bringTo_X0_bring rfl (by first | assumption | exact hset_s _ _ _) rfl (by decide +kernel) rfl rfl (by exact Nat.le_of_ble_eq_true rfl) ⟨Nat.le_of_ble_eq_true rfl, Nat.le_of_ble_eq_true rfl⟩ ⟨Nat.le_of_ble_eq_true rfl, Nat.le_of_ble_eq_true rfl⟩ (fun v9 h9 hr9 => ?_)
    obtain ⟨rfl, rfl⟩ := hr9
    exact V_vret C dX3_bringTo_19 hr ⟨rfl, by unfold brT; rw [if_pos ho, nI_clamp (by omega), nI_clamp (by omega)]; exact r.psetG hp0 hk _, hfr.cell hp0 hk⟩ (by exact Nat.le_of_ble_eq_true rfl) (by exact Nat.le_of_ble_eq_true rfl)
  · refine Mt_of (cc := cX3_bringTo) (maxL := 5) (ret := (none)) (own := RX3) [some (.ref (Z 2 p)), some (.int x), some (.int y), some (.float v), none] rfl (by decide +kernel) rfl rfl (by exact Nat.le_of_ble_eq_true rfl) rfl ?_
    intro p9 e9 s9 m9 args9 below9 meth9 c9 C hr hnm
    refine V_aload_n (i := 0) C dX3_bringTo_0 rfl rfl ?_
    refine V_iload_n (i := 1) C dX3_bringTo_1 rfl rfl ?_
    refine V_iload_n (i := 2) C dX3_bringTo_2 rfl rfl ?_
    refine V_callV (n := 2) C (c_cellAt0 r hp0 ho) dX3_bringTo_3 gX3_bringTo_X3_cellAt rfl (by first | assumption | exact hset_s _ _ _) rfl (by decide +kernel) rfl rfl (by exact Nat.le_of_ble_eq_true rfl) ⟨Nat.le_of_ble_eq_true rfl, Nat.le_of_ble_eq_true rfl⟩ ⟨Nat.le_of_ble_eq_true rfl, Nat.le_of_ble_eq_true rfl⟩ (fun v9 h9 hr9 => ?_)
    obtain ⟨rfl, rfl⟩ := hr9
    refine V_astoreN4 C dX3_bringTo_6 (by decide) ?_
    refine V_aloadN C dX3_bringTo_8 rfl ?_
    refine V_ifnullN (tgt := 19) C dX3_bringTo_10 (by decide) ?_
    exact V_vret C dX3_bringTo_19 hr ⟨rfl, by unfold brT; rw [if_neg ho]; exact r, hfr.rf⟩ (by exact Nat.le_of_ble_eq_true rfl) (by exact Nat.le_of_ble_eq_true rfl)
end PIC1
