/-! Picture: what is lacking goes on, the nearest lot, designs -/
theorem ite0 {P : Prop} [Decidable P] : ((if P then (1 : Int32) else 0) = 0) ↔ ¬ P := by
  by_cases h : P
  · rw [if_pos h]
    exact ⟨fun z => absurd z (by decide), fun z => absurd h z⟩
  · rw [if_neg h]
    exact ⟨fun _ => h, fun _ => rfl⟩
def lq (d : Ld) (f q : Int32) : Ld := (d.1, d.2.1, d.2.2.1, f, q, d.2.2.2.2.2)
abbrev ltn (d : Ld) : UInt32 := d.1
abbrev lmt (d : Ld) : Int32 := d.2.1
abbrev lth (d : Ld) : Int32 := d.2.2.1
abbrev llf (d : Ld) : Int32 := d.2.2.2.1
abbrev lpm (d : Ld) : Int32 := d.2.2.2.2.1
abbrev lld (d : Ld) : Int32 := d.2.2.2.2.2
def nrs (L : Nat → Ld) (a : UInt32) : Nat → Option Nat × UInt32
  | 0 => (none, FP.fconst0)
  | n + 1 => if (lth (L n) ≠ 0 ∧ 0 < llf (L n)) ∧ ((nrs L a n).1 = none ∨ FP.fcmp (fab (FP.fsub a (ltn (L n)))) (nrs L a n).2 = some .lt) then (some n, fab (FP.fsub a (ltn (L n)))) else nrs L a n
theorem nrs_lt {L : Nat → Ld} {a : UInt32} {n b : Nat} (h : (nrs L a n).1 = some b) : b < n := by
  induction n with
  | zero => cases h
  | succ n ih =>
    unfold nrs at h
    split at h
    · cases h; omega
    · have := ih h; omega
def prom (L : Nat → Ld) (G : Nat → Cd) (k b : Nat) : (Nat → Ld) × (Nat → Cd) := (fset L b (lq (L b) (llf (L b) - 1) (lpm (L b) + 1)), fset G k (cdP (G k) 1 (some b)))
def promN (n : Nat) (L : Nat → Ld) (G : Nat → Cd) (k : Nat) : (Nat → Ld) × (Nat → Cd) := match (nrs L (cam (G k)) n).1 with
  | none => (L, G)
  | some b => prom L G k b
def tb1 (L : Nat → Ld) (G : Nat → Cd) (k : Nat) : (Nat → Ld) × (Nat → Cd) := if (G k).1 = 1 then (match clt (G k) with
  | some b => (fset L b (lq (L b) (llf (L b) + 1) (lpm (L b) - 1)), fset G k (cdP (G k) 0 none))
  | none => (L, G)) else (L, G)
def tbS (L : Nat → Ld) (G : Nat → Cd) : Nat → (Nat → Ld) × (Nat → Cd)
  | 0 => (L, G)
  | i + 1 => tb1 (tbS L G i).1 (tbS L G i).2 i
def lackC (L : Nat → Ld) (d : Cd) (a : UInt32) : UInt32 := match clt d with
  | none => FP.fconst0
  | some b => FP.fsub a (ltn (L b))
def ds0 (n : Nat) (L : Nat → Ld) (G : Nat → Cd) (k : Nat) : (Nat → Ld) × (Nat → Cd) :=
  if (G k).1 = 0 then promN n L (fset G k (cdA (G k) (FP.fadd (FP.i2f (cwn (G k))) (cbr (G k))))) k else (L, fset G k (cdA (G k) (FP.fadd (FP.i2f (cwn (G k))) (cbr (G k)))))
def ds1 (w g n : Nat) (L : Nat → Ld) (G : Nat → Cd) (k : Nat) : (Nat → Ld) × (Nat → Cd) :=
  ((ds0 n L G k).1, passG w g k (ds0 n L G k).2 (lackC (ds0 n L G k).1 ((ds0 n L G k).2 k) (cam ((ds0 n L G k).2 k))))
def dsS (w g n : Nat) (L : Nat → Ld) (G : Nat → Cd) : Nat → (Nat → Ld) × (Nat → Cd)
  | 0 => (L, G)
  | i + 1 => ds1 w g n (dsS w g n L G i).1 (dsS w g n L G i).2 i
/-- a picture's cells and the lots fit together -/
def PI (n N : Nat) (L : Nat → Ld) (G : Nat → Cd) : Prop := (∀ k, k < N → (∀ b, clt (G k) = some b → b < n) ∧ ((G k).1 = 1 → ∃ b, clt (G k) = some b) ∧ ∃ v, v ≤ 255 ∧ cwn (G k) = nI v) ∧ ∀ j, j < n → fb (ltn (L j)) 255
theorem PI.setC {n N : Nat} {L : Nat → Ld} {G : Nat → Cd} (h : PI n N L G) {k : Nat} {d : Cd} (hd : (∀ b, clt d = some b → b < n) ∧ (d.1 = 1 → ∃ b, clt d = some b) ∧ ∃ v, v ≤ 255 ∧ cwn d = nI v) : PI n N L (fset G k d) := by
  refine ⟨fun j hj => ?_, h.2⟩
  unfold fset
  split
  · exact hd
  · exact h.1 j hj
theorem PI.setL {n N : Nat} {L : Nat → Ld} {G : Nat → Cd} (h : PI n N L G) {b : Nat} {d : Ld} (hd : ltn d = ltn (L b)) : PI n N (fset L b d) G := by
  refine ⟨h.1, fun j hj => ?_⟩
  unfold fset
  split
  · rename_i e
    rw [hd, ← e]
    exact h.2 j hj
  · exact h.2 j hj
theorem PI.fg {n N : Nat} {L : Nat → Ld} {G : Nat → Cd} (h : PI n N L G) (i : Nat) : PI n N L (fgG G i) := by
  refine ⟨fun j hj => ?_, h.2⟩
  unfold fgG
  split
  · exact h.1 j hj
  · exact h.1 j hj
theorem PI.tb {n N : Nat} {L : Nat → Ld} {G : Nat → Cd} (h : PI n N L G) {k : Nat} (hk : k < N) : PI n N (tb1 L G k).1 (tb1 L G k).2 := by
  unfold tb1
  split
  · split
    · rename_i b hb
      have h1 : PI n N (fset L b (lq (L b) (llf (L b) + 1) (lpm (L b) - 1))) G := h.setL rfl
      exact h1.setC (k := k) (d := cdP (G k) 0 none) ⟨fun b z => (nomatch z), fun z => absurd (show (0 : Int32) = 1 from z) (by decide), (h.1 k hk).2.2⟩
    · exact h
  · exact h
theorem PI.tbS {n N : Nat} {L : Nat → Ld} {G : Nat → Cd} (h : PI n N L G) {i : Nat} (hi : i ≤ N) : PI n N (tbS L G i).1 (tbS L G i).2 := by
  induction i with
  | zero => exact h
  | succ i ih => exact (ih (by omega)).tb (by omega)
theorem PI.br {n N w g : Nat} {L : Nat → Ld} {G : Nat → Cd} (h : PI n N L G) {x y : Int32} {v : UInt32} : PI n N L (brT w g G x y v) := by
  unfold brT
  split
  · refine ⟨fun j hj => ?_, h.2⟩
    unfold fset
    split
    · rename_i e
      rw [← e]
      exact h.1 j hj
    · exact h.1 j hj
  · exact h
theorem PI.pass {n N w g k : Nat} {L : Nat → Ld} {G : Nat → Cd} (h : PI n N L G) {u : UInt32} : PI n N L (passG w g k G u) := by
  unfold passG
  split
  · exact h
  · exact h.br.br.br.br
theorem PI.pN {n N : Nat} {L : Nat → Ld} {G : Nat → Cd} (h : PI n N L G) {k : Nat} (hk : k < N) : PI n N (promN n L G k).1 (promN n L G k).2 := by
  unfold promN
  split
  · exact h
  · rename_i b hb
    have h1 : PI n N (fset L b (lq (L b) (llf (L b) - 1) (lpm (L b) + 1))) G := h.setL rfl
    exact h1.setC (k := k) (d := cdP (G k) 1 (some b)) ⟨fun b2 z => by rw [← Option.some.inj (show some b = some b2 from z)]; exact nrs_lt hb, fun _ => ⟨b, rfl⟩, (h.1 k hk).2.2⟩
theorem PI.d0 {n N : Nat} {L : Nat → Ld} {G : Nat → Cd} (h : PI n N L G) {k : Nat} (hk : k < N) : PI n N (ds0 n L G k).1 (ds0 n L G k).2 := by
  have h1 := h.setC (k := k) (d := cdA (G k) (FP.fadd (FP.i2f (cwn (G k))) (cbr (G k)))) (h.1 k hk)
  unfold ds0
  split
  · exact h1.pN hk
  · exact h1
theorem PI.d1 {n N w g : Nat} {L : Nat → Ld} {G : Nat → Cd} (h : PI n N L G) {k : Nat} (hk : k < N) : PI n N (ds1 w g n L G k).1 (ds1 w g n L G k).2 := (h.d0 hk).pass
theorem PI.dS {n N w g : Nat} {L : Nat → Ld} {G : Nat → Cd} (h : PI n N L G) {i : Nat} (hi : i ≤ N) : PI n N (dsS w g n L G i).1 (dsS w g n L G i).2 := by
  induction i with
  | zero => exact h
  | succ i ih => exact (ih (by omega)).d1 (by omega)
theorem fset_cbr {G : Nat → Cd} {k j : Nat} {d : Cd} (h : cbr d = cbr (G k)) : cbr (fset G k d j) = cbr (G j) := by
  unfold fset
  by_cases e : j = k
  · rw [if_pos e, h, e]
  · rw [if_neg e]
theorem d0_br {n : Nat} {L : Nat → Ld} {G : Nat → Cd} {k j : Nat} : cbr ((ds0 n L G k).2 j) = cbr (G j) := by
  have h1 : ∀ j, cbr (fset G k (cdA (G k) (FP.fadd (FP.i2f (cwn (G k))) (cbr (G k)))) j) = cbr (G j) := fun j => fset_cbr rfl
  unfold ds0
  split
  · unfold promN
    split
    · exact h1 j
    · show cbr (fset _ k (cdP _ 1 _) j) = _
      refine (fset_cbr ?_).trans (h1 j)
      rfl
  · exact h1 j
theorem d0_am {n : Nat} {L : Nat → Ld} {G : Nat → Cd} {k : Nat} : cam ((ds0 n L G k).2 k) = FP.fadd (FP.i2f (cwn (G k))) (cbr (G k)) := by
  have h1 : cam (fset G k (cdA (G k) (FP.fadd (FP.i2f (cwn (G k))) (cbr (G k)))) k) = FP.fadd (FP.i2f (cwn (G k))) (cbr (G k)) := by rw [fset_s]; rfl
  unfold ds0
  split
  · unfold promN
    split
    · exact h1
    · show cam (fset _ k (cdP _ 1 _) k) = _
      rw [fset_s]
      exact h1
  · exact h1
section PIC2
variable {l : Launch} {D : va_G} {cA : Nat → ClassId} {bs : Nat} {Z : Nat → Nat → Nat} {X : XS} {ta : Nat → Nat → Option Nat} {h : hE} {p : Nat} {L : Nat → Ld} {G : Nat → Cd}
set_option maxHeartbeats 4000000 in
set_option maxRecDepth 100000 in
theorem c_passOn {k : Nat} {u : UInt32} (r : XR cA Z (xpl X p L G) ta h) (hd : xdim X) (hp : p < xnp X) (hk : k < xN X p) (hG : ∀ j, j < xN X p → fb (cbr (G j)) (2 ^ 20)) (hu : fb u (16 * 2 ^ 16)) : Mt l D cA bs yX3_passOn wsX3_passOn (rmk 2 0 0) [.ref (Z 2 p), .ref (Z (p + 6) k), .float u] h (fun q h2 => q = none ∧ XR cA Z (xpl X p L (passG (xwd X p) (xhg X p) k G u)) ta h2 ∧ hfr Z X h h2) := by
  have hpic := r.ppic hp
  have hc := r.pcell hp hk
  have u1 := fb_k7 hu (by decide)
  have u2 := fb_k3 hu (by decide)
  have u3 := fb_k5 hu (by decide)
  have u4 := fb_k1 hu (by decide)
  have n1 := fb_n32 u1
  have n2 := fb_n32 u2
  have n3 := fb_n32 u3
  have n4 := fb_n32 u4
  have G1 := fun x y => brT_fb (w := xwd X p) (g := xhg X p) (x := x) (y := y) (2 ^ 20 + 2 ^ 19) hG u1 (by decide) (by decide)
  have G2 := fun x y x2 y2 => brT_fb (w := xwd X p) (g := xhg X p) (x := x2) (y := y2) (2 ^ 21) (G1 x y) u2 (by decide) (by decide)
  have G3 := fun x y x2 y2 x3 y3 => brT_fb (w := xwd X p) (g := xhg X p) (x := x3) (y := y3) (2 ^ 22) (G2 x y x2 y2) u3 (by decide) (by decide)
  have G0 : ∀ j, j < xN X p → fb (cbr (G j)) (2 ^ 22) := fun j hj => fb_mono (hG j hj) (by decide)
  refine Mt_of (cc := cX3_passOn) (maxL := 3) (ret := (none)) (own := RX3) [some (.ref (Z 2 p)), some (.ref (Z (p + 6) k)), some (.float u)] rfl (by decide +kernel) rfl rfl (by exact Nat.le_of_ble_eq_true rfl) rfl ?_
  intro p9 e9 s9 m9 args9 below9 meth9 c9 C hr hnm
  refine V_fload_n (i := 2) C dX3_passOn_0 rfl rfl ?_
  refine V_fconst0 C dX3_passOn_1 ?_
  refine V_fcmp C dX3_passOn_2 ?_
  refine V_if_eq (tgt := 82) C dX3_passOn_3 (by decide) (fun c3 => ?_) (fun c3 => ?_)
  · have c3 := cv_l0.mp c3
    exact V_vret C dX3_passOn_82 hr ⟨rfl, by first | (unfold passG; rw [if_pos c3]; exact r; done) | (unfold passG; rw [if_neg c3]; exact r4), by first | (exact f1.tr (f2.tr (f3.tr f4))) | exact hfr.rf⟩ (by exact Nat.le_of_ble_eq_true rfl) (by exact Nat.le_of_ble_eq_true rfl)
  · have c3 : ¬ FP.fcmp u FP.fconst0 = some .eq := fun z => c3 (cv_l0.mpr z)
    refine V_aload_n (i := 0) C dX3_passOn_6 rfl rfl ?_
    refine V_aload_n (i := 1) C dX3_passOn_7 rfl rfl ?_
    refine V_get (ci := 0) (CN := RX0) (T := TX0) (N := 10) C dX3_passOn_8 (by first | assumption | exact hset_s _ _ _) rfl 0 (by decide) flX3_passOn_78 wiX3_passOn_X0 (by rfl) ?_
    refine V_iconst (v := 1) C dX3_passOn_11 (by decide) ?_
    refine V_iadd C dX3_passOn_12 ?_
    refine V_aload_n (i := 1) C dX3_passOn_13 rfl rfl ?_
    refine V_get (ci := 0) (CN := RX0) (T := TX0) (N := 10) C dX3_passOn_14 (by first | assumption | exact hset_s _ _ _) rfl 1 (by decide) flX3_passOn_81 wiX3_passOn_X0 (by rfl) ?_
    refine V_fload_n (i := 2) C dX3_passOn_17 rfl rfl ?_
    refine V_ldcf (v := 1054867456) C dX3_passOn_18 (by decide +kernel) ?_
    refine V_fmul C dX3_passOn_20 (by assumption) ?_
    refine V_callV (n := 3) C (c_bringTo r hd hp G0 (fb_mono u1 (by decide))) dX3_passOn_21 gX3_passOn_X3_bringTo rfl (by first | assumption | exact hset_s _ _ _) rfl (by decide +kernel) rfl rfl (by exact Nat.le_of_ble_eq_true rfl) ⟨Nat.le_of_ble_eq_true rfl, Nat.le_of_ble_eq_true rfl⟩ ⟨Nat.le_of_ble_eq_true rfl, Nat.le_of_ble_eq_true rfl⟩ (fun v9 h9 hr9 => ?_)
    obtain ⟨rfl, r1, f1⟩ := hr9
    have hpic := r1.ppic hp
    have hc := r1.pcell hp hk
    refine V_aload_n (i := 0) C dX3_passOn_24 rfl rfl ?_
    refine V_aload_n (i := 1) C dX3_passOn_25 rfl rfl ?_
    refine V_get (ci := 0) (CN := RX0) (T := TX0) (N := 10) C dX3_passOn_26 (by first | assumption | exact hset_s _ _ _) rfl 0 (by decide) flX3_passOn_78 wiX3_passOn_X0 (by rfl) ?_
    refine V_iconst (v := 1) C dX3_passOn_29 (by decide) ?_
    refine V_isub C dX3_passOn_30 ?_
    refine V_aload_n (i := 1) C dX3_passOn_31 rfl rfl ?_
    refine V_get (ci := 0) (CN := RX0) (T := TX0) (N := 10) C dX3_passOn_32 (by first | assumption | exact hset_s _ _ _) rfl 1 (by decide) flX3_passOn_81 wiX3_passOn_X0 (by rfl) ?_
    refine V_iconst (v := 1) C dX3_passOn_35 (by decide) ?_
    refine V_iadd C dX3_passOn_36 ?_
    refine V_fload_n (i := 2) C dX3_passOn_37 rfl rfl ?_
    refine V_ldcf (v := 1044381696) C dX3_passOn_38 (by decide +kernel) ?_
    refine V_fmul C dX3_passOn_40 (by assumption) ?_
    refine V_callV (n := 3) C (c_bringTo r1 hd hp (fun j hj => fb_mono (G1 _ _ j hj) (by decide)) (fb_mono u2 (by decide))) dX3_passOn_41 gX3_passOn_X3_bringTo rfl (by first | assumption | exact hset_s _ _ _) rfl (by decide +kernel) rfl rfl (by exact Nat.le_of_ble_eq_true rfl) ⟨Nat.le_of_ble_eq_true rfl, Nat.le_of_ble_eq_true rfl⟩ ⟨Nat.le_of_ble_eq_true rfl, Nat.le_of_ble_eq_true rfl⟩ (fun v9 h9 hr9 => ?_)
    obtain ⟨rfl, r2, f2⟩ := hr9
    have hpic := r2.ppic hp
    have hc := r2.pcell hp hk
    refine V_aload_n (i := 0) C dX3_passOn_44 rfl rfl ?_
    refine V_aload_n (i := 1) C dX3_passOn_45 rfl rfl ?_
    refine V_get (ci := 0) (CN := RX0) (T := TX0) (N := 10) C dX3_passOn_46 (by first | assumption | exact hset_s _ _ _) rfl 0 (by decide) flX3_passOn_78 wiX3_passOn_X0 (by rfl) ?_
    refine V_aload_n (i := 1) C dX3_passOn_49 rfl rfl ?_
    refine V_get (ci := 0) (CN := RX0) (T := TX0) (N := 10) C dX3_passOn_50 (by first | assumption | exact hset_s _ _ _) rfl 1 (by decide) flX3_passOn_81 wiX3_passOn_X0 (by rfl) ?_
    refine V_iconst (v := 1) C dX3_passOn_53 (by decide) ?_
    refine V_iadd C dX3_passOn_54 ?_
    refine V_fload_n (i := 2) C dX3_passOn_55 rfl rfl ?_
    refine V_ldcf (v := 1050673152) C dX3_passOn_56 (by decide +kernel) ?_
    refine V_fmul C dX3_passOn_58 (by assumption) ?_
    refine V_callV (n := 3) C (c_bringTo r2 hd hp (fun j hj => fb_mono (G2 _ _ _ _ j hj) (by decide)) (fb_mono u3 (by decide))) dX3_passOn_59 gX3_passOn_X3_bringTo rfl (by first | assumption | exact hset_s _ _ _) rfl (by decide +kernel) rfl rfl (by exact Nat.le_of_ble_eq_true rfl) ⟨Nat.le_of_ble_eq_true rfl, Nat.le_of_ble_eq_true rfl⟩ ⟨Nat.le_of_ble_eq_true rfl, Nat.le_of_ble_eq_true rfl⟩ (fun v9 h9 hr9 => ?_)
    obtain ⟨rfl, r3, f3⟩ := hr9
    have hpic := r3.ppic hp
    have hc := r3.pcell hp hk
    refine V_aload_n (i := 0) C dX3_passOn_62 rfl rfl ?_
    refine V_aload_n (i := 1) C dX3_passOn_63 rfl rfl ?_
    refine V_get (ci := 0) (CN := RX0) (T := TX0) (N := 10) C dX3_passOn_64 (by first | assumption | exact hset_s _ _ _) rfl 0 (by decide) flX3_passOn_78 wiX3_passOn_X0 (by rfl) ?_
    refine V_iconst (v := 1) C dX3_passOn_67 (by decide) ?_
    refine V_iadd C dX3_passOn_68 ?_
    refine V_aload_n (i := 1) C dX3_passOn_69 rfl rfl ?_
    refine V_get (ci := 0) (CN := RX0) (T := TX0) (N := 10) C dX3_passOn_70 (by first | assumption | exact hset_s _ _ _) rfl 1 (by decide) flX3_passOn_81 wiX3_passOn_X0 (by rfl) ?_
    refine V_iconst (v := 1) C dX3_passOn_73 (by decide) ?_
    refine V_iadd C dX3_passOn_74 ?_
    refine V_fload_n (i := 2) C dX3_passOn_75 rfl rfl ?_
    refine V_ldcf (v := 1031798784) C dX3_passOn_76 (by decide +kernel) ?_
    refine V_fmul C dX3_passOn_78 (by assumption) ?_
    refine V_callV (n := 3) C (c_bringTo r3 hd hp (fun j hj => fb_mono (G3 _ _ _ _ _ _ j hj) (by decide)) (fb_mono u4 (by decide))) dX3_passOn_79 gX3_passOn_X3_bringTo rfl (by first | assumption | exact hset_s _ _ _) rfl (by decide +kernel) rfl rfl (by exact Nat.le_of_ble_eq_true rfl) ⟨Nat.le_of_ble_eq_true rfl, Nat.le_of_ble_eq_true rfl⟩ ⟨Nat.le_of_ble_eq_true rfl, Nat.le_of_ble_eq_true rfl⟩ (fun v9 h9 hr9 => ?_)
    obtain ⟨rfl, r4, f4⟩ := hr9
    exact V_vret C dX3_passOn_82 hr ⟨rfl, by first | (unfold passG; rw [if_pos c3]; exact r; done) | (unfold passG; rw [if_neg c3]; exact r4), by first | (exact f1.tr (f2.tr (f3.tr f4))) | exact hfr.rf⟩ (by exact Nat.le_of_ble_eq_true rfl) (by exact Nat.le_of_ble_eq_true rfl)
set_option maxHeartbeats 4000000 in
set_option maxRecDepth 100000 in
theorem c_promiseNearest {k : Nat} (r : XR cA Z (xpl X p L G) ta h) (hd : xdim X) (hp : p < xnp X) (hk : k < xN X p) (ha : fb (cam (G k)) (2 ^ 20)) (ht : ∀ j, j < xnl X → fb (ltn (L j)) 255) : Mt l D cA bs yX3_promiseNearest wsX3_promiseNearest (rmk 1 0 0) [.ref (Z (p + 6) k), .ref (Z 0 1)] h (fun q h2 => q = none ∧ XR cA Z (xpl X p (promN (xnl X) L G k).1 (promN (xnl X) L G k).2) ta h2 ∧ hfr Z X h h2) := by
  have hpic := r.ppic hp
  have hc := r.pcell hp hk
  have hls := r.plots
  have hnl := hd.1
  refine Mt_of (cc := cX3_promiseNearest) (maxL := 9) (ret := (none)) (own := RX3) [some (.ref (Z (p + 6) k)), some (.ref (Z 0 1)), none, none, none, none, none, none, none] rfl (by decide +kernel) rfl rfl (by exact Nat.le_of_ble_eq_true rfl) rfl ?_
  intro p9 e9 s9 m9 args9 below9 meth9 c9 C hr hnm
  refine V_null C dX3_promiseNearest_0 ?_
  refine V_astoreN2 C dX3_promiseNearest_1 (by decide) ?_
  refine V_fconst0 C dX3_promiseNearest_2 ?_
  refine V_fstore3 C dX3_promiseNearest_3 (by decide) ?_
  refine V_aload_n (i := 1) C dX3_promiseNearest_4 rfl rfl ?_
  refine V_astore4 C dX3_promiseNearest_5 (by decide) ?_
  refine V_aload C dX3_promiseNearest_7 rfl ?_
  refine V_alen C dX3_promiseNearest_9 (by first | assumption | exact hset_s _ _ _) (by rfl) (by rfl) ?_
  refine V_istore5 C dX3_promiseNearest_10 (by decide) ?_
  refine V_iconst (v := 0) C dX3_promiseNearest_12 (by decide) ?_
  refine V_istore6 C dX3_promiseNearest_13 (by decide) ?_
  refine V_for 12 (fun i h2 ls2 => h2 = h ∧ ls2 = [some (.ref (Z (p + 6) k)), some (.ref (Z 0 1)), some (va_rf ((nrs L (cam (G k)) (min i (xnl X))).1.map (Z 1))), some (.float (nrs L (cam (G k)) (min i (xnl X))).2), some (.ref (Z 0 1)), some (.int 12), some (.int (nI i)), none, none]) ?_ ?_ 0 (Nat.zero_le _) ⟨rfl, by simp [nrs, va_rf, nI_0]⟩
  · rintro i h2 ls2 hi ⟨rfl, rfl⟩ ih
    by_cases hl : i < xnl X
    · have hm0 : min i (xnl X) = i := by omega
      have hm1 : min (i + 1) (xnl X) = i + 1 := by omega
      have hlot := r.plot hl
      have hdn : vf_n32 (FP.fsub (cam (G k)) (ltn (L i))) := fb_n32 (fb_sub (C := 2 ^ 21) ha (ht i hl) (by decide) (by decide))
      rw [hm0]
      rw [hm1] at ih
      cases hb : (nrs L (cam (G k)) i).1 with
      | none =>
        refine V_iload C dX3_promiseNearest_15 rfl ?_
        refine V_iload C dX3_promiseNearest_17 rfl ?_
        refine V_icmp_ge (tgt := 79) C dX3_promiseNearest_19 (by decide) (fun z9 => absurd z9 (nI_ge (b := 12) hi (by decide))) (fun _ => ?_)
        refine V_aload C dX3_promiseNearest_22 rfl ?_
        refine V_iload C dX3_promiseNearest_24 rfl ?_
        refine V_aaldS C dX3_promiseNearest_26 (by first | assumption | exact hset_s _ _ _) (by rfl) rfl hi (by decide) (if_pos hl) ?_
        refine V_astore7 C dX3_promiseNearest_27 (by decide) ?_
        refine V_aload C dX3_promiseNearest_29 rfl ?_
        refine V_ifnull C dX3_promiseNearest_31 ?_
        refine V_aload C dX3_promiseNearest_34 rfl ?_
        refine V_callV (n := 0) C (c_canPromise hlot) dX3_promiseNearest_36 gX3_promiseNearest_X2_canPromise rfl (by first | assumption | exact hset_s _ _ _) rfl (by decide +kernel) rfl rfl (by exact Nat.le_of_ble_eq_true rfl) ⟨Nat.le_of_ble_eq_true rfl, Nat.le_of_ble_eq_true rfl⟩ ⟨Nat.le_of_ble_eq_true rfl, Nat.le_of_ble_eq_true rfl⟩ (fun v9 h9 hr9 => ?_)
        obtain ⟨rfl, rfl⟩ := hr9
        refine V_if_eq (tgt := 73) C dX3_promiseNearest_39 (by decide) (fun c39 => ?_) (fun c39 => ?_)
        · have c39 := ite0.mp c39
          refine V_iinc6 (v := nI (i + 1)) C dX3_promiseNearest_73 (nI_1 _) (by decide) ?_
          refine V_goto (tgt := 15) C dX3_promiseNearest_76 (by decide) ?_
          exact V_wk (by simp [lle, nrs, hb, va_rf, c39]) (ih _ _ ⟨rfl, rfl⟩)
        · have c39 := Classical.not_not.mp (fun z => c39 (ite0.mpr z))
          refine V_aload_n (i := 0) C dX3_promiseNearest_42 rfl rfl ?_
          refine V_get (ci := 0) (CN := RX0) (T := TX0) (N := 10) C dX3_promiseNearest_43 (by first | assumption | exact hset_s _ _ _) rfl 5 (by decide) flX3_promiseNearest_46 wiX3_promiseNearest_X0 (by rfl) ?_
          refine V_aload C dX3_promiseNearest_46 rfl ?_
          refine V_get (ci := 2) (CN := RX2) (T := TX2) (N := 7) C dX3_promiseNearest_48 (by first | assumption | exact hset_s _ _ _) rfl 1 (by decide) flX3_promiseNearest_67 wiX3_promiseNearest_X2 (by rfl) ?_
          refine V_callS (n := 2) C (c_distance hdn) dX3_promiseNearest_51 gX3_promiseNearest_X3_distance rfl (by decide +kernel) rfl rfl (by exact Nat.le_of_ble_eq_true rfl) ⟨Nat.le_of_ble_eq_true rfl, Nat.le_of_ble_eq_true rfl⟩ ⟨Nat.le_of_ble_eq_true rfl, Nat.le_of_ble_eq_true rfl⟩ (fun v9 h9 hr9 => ?_)
          obtain ⟨rfl, rfl⟩ := hr9
          refine V_fstore8 C dX3_promiseNearest_54 (by decide) ?_
          refine V_aload_nN (i := 2) C dX3_promiseNearest_56 rfl rfl ?_
          refine V_ifnullN (tgt := 67) C dX3_promiseNearest_57 (by decide) ?_
          refine V_aload C dX3_promiseNearest_67 rfl ?_
          refine V_astore2 C dX3_promiseNearest_69 (by decide) ?_
          refine V_fload C dX3_promiseNearest_70 rfl ?_
          refine V_fstore3 C dX3_promiseNearest_72 (by decide) ?_
          refine V_iinc6 (v := nI (i + 1)) C dX3_promiseNearest_73 (nI_1 _) (by decide) ?_
          refine V_goto (tgt := 15) C dX3_promiseNearest_76 (by decide) ?_
          exact V_wk (by simp [lle, nrs, hb, va_rf, c39]) (ih _ _ ⟨rfl, rfl⟩)
      | some b =>
        refine V_iload C dX3_promiseNearest_15 rfl ?_
        refine V_iload C dX3_promiseNearest_17 rfl ?_
        refine V_icmp_ge (tgt := 79) C dX3_promiseNearest_19 (by decide) (fun z9 => absurd z9 (nI_ge (b := 12) hi (by decide))) (fun _ => ?_)
        refine V_aload C dX3_promiseNearest_22 rfl ?_
        refine V_iload C dX3_promiseNearest_24 rfl ?_
        refine V_aaldS C dX3_promiseNearest_26 (by first | assumption | exact hset_s _ _ _) (by rfl) rfl hi (by decide) (if_pos hl) ?_
        refine V_astore7 C dX3_promiseNearest_27 (by decide) ?_
        refine V_aload C dX3_promiseNearest_29 rfl ?_
        refine V_ifnull C dX3_promiseNearest_31 ?_
        refine V_aload C dX3_promiseNearest_34 rfl ?_
        refine V_callV (n := 0) C (c_canPromise hlot) dX3_promiseNearest_36 gX3_promiseNearest_X2_canPromise rfl (by first | assumption | exact hset_s _ _ _) rfl (by decide +kernel) rfl rfl (by exact Nat.le_of_ble_eq_true rfl) ⟨Nat.le_of_ble_eq_true rfl, Nat.le_of_ble_eq_true rfl⟩ ⟨Nat.le_of_ble_eq_true rfl, Nat.le_of_ble_eq_true rfl⟩ (fun v9 h9 hr9 => ?_)
        obtain ⟨rfl, rfl⟩ := hr9
        refine V_if_eq (tgt := 73) C dX3_promiseNearest_39 (by decide) (fun c39 => ?_) (fun c39 => ?_)
        · have c39 := ite0.mp c39
          refine V_iinc6 (v := nI (i + 1)) C dX3_promiseNearest_73 (nI_1 _) (by decide) ?_
          refine V_goto (tgt := 15) C dX3_promiseNearest_76 (by decide) ?_
          exact V_wk (by simp [lle, nrs, hb, va_rf, c39]) (ih _ _ ⟨rfl, rfl⟩)
        · have c39 := Classical.not_not.mp (fun z => c39 (ite0.mpr z))
          refine V_aload_n (i := 0) C dX3_promiseNearest_42 rfl rfl ?_
          refine V_get (ci := 0) (CN := RX0) (T := TX0) (N := 10) C dX3_promiseNearest_43 (by first | assumption | exact hset_s _ _ _) rfl 5 (by decide) flX3_promiseNearest_46 wiX3_promiseNearest_X0 (by rfl) ?_
          refine V_aload C dX3_promiseNearest_46 rfl ?_
          refine V_get (ci := 2) (CN := RX2) (T := TX2) (N := 7) C dX3_promiseNearest_48 (by first | assumption | exact hset_s _ _ _) rfl 1 (by decide) flX3_promiseNearest_67 wiX3_promiseNearest_X2 (by rfl) ?_
          refine V_callS (n := 2) C (c_distance hdn) dX3_promiseNearest_51 gX3_promiseNearest_X3_distance rfl (by decide +kernel) rfl rfl (by exact Nat.le_of_ble_eq_true rfl) ⟨Nat.le_of_ble_eq_true rfl, Nat.le_of_ble_eq_true rfl⟩ ⟨Nat.le_of_ble_eq_true rfl, Nat.le_of_ble_eq_true rfl⟩ (fun v9 h9 hr9 => ?_)
          obtain ⟨rfl, rfl⟩ := hr9
          refine V_fstore8 C dX3_promiseNearest_54 (by decide) ?_
          refine V_aload_n (i := 2) C dX3_promiseNearest_56 rfl rfl ?_
          refine V_ifnull C dX3_promiseNearest_57 ?_
          refine V_fload C dX3_promiseNearest_60 rfl ?_
          refine V_fload_n (i := 3) C dX3_promiseNearest_62 rfl rfl ?_
          refine V_fcmp C dX3_promiseNearest_63 ?_
          refine V_if_ge (tgt := 73) C dX3_promiseNearest_64 (by decide) (fun c64 => ?_) (fun c64 => ?_)
          · have c64 := cv_g.mp c64
            refine V_iinc6 (v := nI (i + 1)) C dX3_promiseNearest_73 (nI_1 _) (by decide) ?_
            refine V_goto (tgt := 15) C dX3_promiseNearest_76 (by decide) ?_
            exact V_wk (by simp [lle, nrs, hb, va_rf, c39, c64]) (ih _ _ ⟨rfl, rfl⟩)
          · have c64 := Classical.not_not.mp (fun z => c64 (cv_g.mpr z))
            refine V_aload C dX3_promiseNearest_67 rfl ?_
            refine V_astore2 C dX3_promiseNearest_69 (by decide) ?_
            refine V_fload C dX3_promiseNearest_70 rfl ?_
            refine V_fstore3 C dX3_promiseNearest_72 (by decide) ?_
            refine V_iinc6 (v := nI (i + 1)) C dX3_promiseNearest_73 (nI_1 _) (by decide) ?_
            refine V_goto (tgt := 15) C dX3_promiseNearest_76 (by decide) ?_
            exact V_wk (by simp [lle, nrs, hb, va_rf, c39, c64]) (ih _ _ ⟨rfl, rfl⟩)
    · have hm0 : min i (xnl X) = xnl X := by omega
      have hm1 : min (i + 1) (xnl X) = xnl X := by omega
      rw [hm0]
      rw [hm1] at ih
      refine V_iload C dX3_promiseNearest_15 rfl ?_
      refine V_iload C dX3_promiseNearest_17 rfl ?_
      refine V_icmp_ge (tgt := 79) C dX3_promiseNearest_19 (by decide) (fun z9 => absurd z9 (nI_ge (b := 12) hi (by decide))) (fun _ => ?_)
      refine V_aload C dX3_promiseNearest_22 rfl ?_
      refine V_iload C dX3_promiseNearest_24 rfl ?_
      refine V_aaldN C dX3_promiseNearest_26 (by first | assumption | exact hset_s _ _ _) (by rfl) rfl hi (by decide) (if_neg hl) ?_
      refine V_astoreN7 C dX3_promiseNearest_27 (by decide) ?_
      refine V_aloadN C dX3_promiseNearest_29 rfl ?_
      refine V_ifnullN (tgt := 73) C dX3_promiseNearest_31 (by decide) ?_
      refine V_iinc6 (v := nI (i + 1)) C dX3_promiseNearest_73 (nI_1 _) (by decide) ?_
      refine V_goto (tgt := 15) C dX3_promiseNearest_76 (by decide) ?_
      exact V_wk (by simp [lle]) (ih _ _ ⟨rfl, rfl⟩)
  · rintro h2 ls2 ⟨rfl, rfl⟩
    have hm0 : min 12 (xnl X) = xnl X := by omega
    rw [hm0]
    cases hb : (nrs L (cam (G k)) (xnl X)).1 with
    | none =>
      refine V_iload C dX3_promiseNearest_15 rfl ?_
      refine V_iload C dX3_promiseNearest_17 rfl ?_
      refine V_icmp_ge (tgt := 79) C dX3_promiseNearest_19 (by decide) (fun _ => ?_) (fun z9 => absurd (nI_le (Nat.le_refl 12) (by decide)) z9)
      refine V_aload_nN (i := 2) C dX3_promiseNearest_79 rfl rfl ?_
      refine V_ifnullN (tgt := 88) C dX3_promiseNearest_80 (by decide) ?_
      exact V_vret C dX3_promiseNearest_88 hr ⟨rfl, by unfold promN; rw [hb]; exact r, hfr.rf⟩ (by exact Nat.le_of_ble_eq_true rfl) (by exact Nat.le_of_ble_eq_true rfl)
    | some b =>
      have hbl := nrs_lt hb
      have hlot := r.plot hbl
      refine V_iload C dX3_promiseNearest_15 rfl ?_
      refine V_iload C dX3_promiseNearest_17 rfl ?_
      refine V_icmp_ge (tgt := 79) C dX3_promiseNearest_19 (by decide) (fun _ => ?_) (fun z9 => absurd (nI_le (Nat.le_refl 12) (by decide)) z9)
      refine V_aload_n (i := 2) C dX3_promiseNearest_79 rfl rfl ?_
      refine V_ifnull C dX3_promiseNearest_80 ?_
      refine V_aload_n (i := 0) C dX3_promiseNearest_83 rfl rfl ?_
      refine V_aload_n (i := 2) C dX3_promiseNearest_84 rfl rfl ?_
      refine V_callV (n := 1) C (c_promise hc hlot) dX3_promiseNearest_85 gX3_promiseNearest_X0_promise rfl (by first | assumption | exact hset_s _ _ _) rfl (by decide +kernel) rfl rfl (by exact Nat.le_of_ble_eq_true rfl) ⟨Nat.le_of_ble_eq_true rfl, Nat.le_of_ble_eq_true rfl⟩ ⟨Nat.le_of_ble_eq_true rfl, Nat.le_of_ble_eq_true rfl⟩ (fun v9 h9 hr9 => ?_)
      obtain ⟨rfl, rfl⟩ := hr9
      exact V_vret C dX3_promiseNearest_88 hr ⟨rfl, by unfold promN; rw [hb]; exact (r.psetG hp hk (cdP (G k) 1 (some b))).psetL hbl (lq (L b) (llf (L b) - 1) (lpm (L b) + 1)), (hfr.cell hp hk).tr (hfr.lot hbl)⟩ (by exact Nat.le_of_ble_eq_true rfl) (by exact Nat.le_of_ble_eq_true rfl)
end PIC2
