/-! floats: bounds, no NaN -/
/-- x is a number of magnitude at most B -/
def fb (x : UInt32) (B : Nat) : Prop := FP.Core.FFin x ∧ FP.Core.zmag FP.Core.b32 (FP.Core.val32 x) ≤ B * FP.Core.one32
theorem fb_mono {x : UInt32} {A B : Nat} (h : fb x A) (hab : A ≤ B) : fb x B := ⟨h.1, Nat.le_trans h.2 (Nat.mul_le_mul_right _ hab)⟩
theorem fb_n32 {x : UInt32} {B : Nat} (h : fb x B) : vf_n32 x := by
  unfold vf_n32
  have h1 := (FP.Core.fin_bits32 x).mp h.1
  rw [UInt32.le_iff_toNat_le, FP.Core.mask_toNat32]
  exact Nat.le_of_lt h1
theorem fb_nn {x : UInt32} {B : Nat} (h : fb x B) : FP.Core.val32 x ≠ .nan := h.1.ne_nan
theorem fb_zval {x : UInt32} {B : Nat} (h : fb x B) : FP.Core.zval FP.Core.b32 (FP.Core.val32 x) ≤ (B : Int) * (FP.Core.one32 : Int) ∧ -((B : Int) * (FP.Core.one32 : Int)) ≤ FP.Core.zval FP.Core.b32 (FP.Core.val32 x) := by
  have h2 : ((FP.Core.zmag FP.Core.b32 (FP.Core.val32 x) : Nat) : Int) ≤ (B : Int) * (FP.Core.one32 : Int) := by
    rw [← Int.natCast_mul]
    exact Int.ofNat_le.mpr h.2
  unfold FP.Core.zval
  cases FP.Core.sgn (FP.Core.val32 x) <;> simp only [FP.Core.signed, if_true, Bool.false_eq_true, if_false] <;> omega
theorem fb_big : 2 ^ 24 * FP.Core.one32 < FP.Core.b32.tails * 2 ^ (FP.Core.b32.exps - 2) := by decide +kernel
theorem fb_of {a : UInt32} {C : Nat} (hn : FP.Core.val32 a ≠ .nan) (hC : C ≤ 2 ^ 24) (h1 : FP.Core.zval FP.Core.b32 (FP.Core.val32 a) ≤ (C : Int) * (FP.Core.one32 : Int)) (h2 : -((C : Int) * (FP.Core.one32 : Int)) ≤ FP.Core.zval FP.Core.b32 (FP.Core.val32 a)) : fb a C := by
  have h3 : FP.Core.zmag FP.Core.b32 (FP.Core.val32 a) ≤ C * FP.Core.one32 := by
    rw [← Int.ofNat_le, Int.natCast_mul]
    unfold FP.Core.zval at h1 h2
    revert h1 h2
    cases FP.Core.sgn (FP.Core.val32 a) <;> simp only [FP.Core.signed, if_true, Bool.false_eq_true, if_false] <;> omega
  refine ⟨?_, h3⟩
  unfold FP.Core.FFin
  cases hv : FP.Core.val32 a with
  | nan => exact absurd hv hn
  | inf s =>
    rw [hv] at h3
    have h4 := fb_big
    have h5 : C * FP.Core.one32 ≤ 2 ^ 24 * FP.Core.one32 := Nat.mul_le_mul_right _ hC
    have h6 : FP.Core.zmag FP.Core.b32 (.inf s) = FP.Core.b32.tails * 2 ^ (FP.Core.b32.exps - 2) := rfl
    omega
  | fin s c q => exact ⟨s, c, q, rfl⟩
theorem nI_int {n : Nat} (h : n ≤ 2 ^ 24) : (nI n).toInt = (n : Int) := nI_toInt (by omega)
theorem fb_whole {n : Nat} (h : n ≤ 2 ^ 24) : FP.Core.FInt n (FP.i2f (nI n)) := by
  have h1 := FP.Core.i2f_int (a := nI n) (by rw [nI_int h]; exact h)
  rw [nI_int h] at h1
  exact h1
theorem fb_i2f {n C : Nat} (h : n ≤ C) (hC : C ≤ 2 ^ 24) : fb (FP.i2f (nI n)) C := by
  have h1 := fb_whole (Nat.le_trans h hC)
  have h2 := FP.Core.FInt_zval h1
  have h3 : (n : Int) * (FP.Core.one32 : Int) ≤ (C : Int) * (FP.Core.one32 : Int) := Int.mul_le_mul_of_nonneg_right (Int.ofNat_le.mpr h) (Int.natCast_nonneg _)
  have h4 : 0 ≤ (n : Int) * (FP.Core.one32 : Int) := Int.mul_nonneg (Int.natCast_nonneg _) (Int.natCast_nonneg _)
  exact fb_of (FP.Core.FInt_ne_nan h1) hC (by omega) (by omega)
/-- the bounds as numbers of the format -/
theorem fb_hi {C : Nat} (h : C ≤ 2 ^ 24) : ∃ V : FP.Core.Datum, FP.Core.fits FP.Core.b32 V ∧ V ≠ .nan ∧ FP.Core.zval FP.Core.b32 V = (C : Int) * (FP.Core.one32 : Int) :=
  ⟨FP.Core.val32 (FP.i2f (nI C)), FP.Core.val32_fits _, FP.Core.FInt_ne_nan (fb_whole h), FP.Core.FInt_zval (fb_whole h)⟩
theorem fb_lo {C : Nat} (h : C ≤ 2 ^ 24) : ∃ V : FP.Core.Datum, FP.Core.fits FP.Core.b32 V ∧ V ≠ .nan ∧ FP.Core.zval FP.Core.b32 V = -((C : Int) * (FP.Core.one32 : Int)) := by
  obtain ⟨V, h1, h2, h3⟩ := fb_hi h
  exact ⟨FP.Core.negate V, FP.Core.negate_fits h1, FP.Core.negate_ne_nan h2, by rw [FP.Core.zval_negate, h3]⟩
theorem fb_round {x y : FP.Core.Datum} {C : Nat} (hC : C ≤ 2 ^ 24) {r : UInt32} (hr : FP.Core.val32 r = FP.Core.round FP.Core.b32 (FP.Core.exactSum x y)) (hx : ∃ s c q, x = .fin s c q) (hy : ∃ s c q, y = .fin s c q) (fx : FP.Core.fits FP.Core.b32 x) (fy : FP.Core.fits FP.Core.b32 y)
    (h1 : FP.Core.zval FP.Core.b32 x + FP.Core.zval FP.Core.b32 y ≤ (C : Int) * (FP.Core.one32 : Int)) (h2 : -((C : Int) * (FP.Core.one32 : Int)) ≤ FP.Core.zval FP.Core.b32 x + FP.Core.zval FP.Core.b32 y) : fb r C := by
  obtain ⟨V, v1, v2, v3⟩ := fb_hi hC
  obtain ⟨U, u1, u2, u3⟩ := fb_lo hC
  have a1 := FP.Core.sum_le FP.Core.good_b32 hx hy fx fy v1 v2 (by rw [v3]; exact h1)
  have a2 := FP.Core.sum_ge FP.Core.good_b32 hx hy fx fy u1 u2 (by rw [u3]; exact h2)
  rw [v3, ← hr] at a1
  rw [u3, ← hr] at a2
  refine fb_of ?_ hC a1 a2
  rw [hr]
  intro z
  rw [FP.Core.round_nan, FP.Core.exactSum_nan] at z
  obtain ⟨s, c, q, rfl⟩ := hx
  obtain ⟨t, d, w, rfl⟩ := hy
  rcases z with z | z | ⟨s, z, -⟩ <;> cases z
theorem fb_add {x y : UInt32} {A B C : Nat} (hx : fb x A) (hy : fb y B) (hc : A + B ≤ C) (hC : C ≤ 2 ^ 24) : fb (FP.fadd x y) C := by
  obtain ⟨a1, a2⟩ := fb_zval hx
  obtain ⟨b1, b2⟩ := fb_zval hy
  have h3 : ((A : Int) + (B : Int)) * (FP.Core.one32 : Int) ≤ (C : Int) * (FP.Core.one32 : Int) := Int.mul_le_mul_of_nonneg_right (by omega) (Int.natCast_nonneg _)
  rw [Int.add_mul] at h3
  exact fb_round hC (FP.Core.val32_fadd x y) hx.1 hy.1 (FP.Core.val32_fits x) (FP.Core.val32_fits y) (by omega) (by omega)
theorem fb_sub {x y : UInt32} {A B C : Nat} (hx : fb x A) (hy : fb y B) (hc : A + B ≤ C) (hC : C ≤ 2 ^ 24) : fb (FP.fsub x y) C := by
  obtain ⟨a1, a2⟩ := fb_zval hx
  obtain ⟨b1, b2⟩ := fb_zval hy
  have h3 : ((A : Int) + (B : Int)) * (FP.Core.one32 : Int) ≤ (C : Int) * (FP.Core.one32 : Int) := Int.mul_le_mul_of_nonneg_right (by omega) (Int.natCast_nonneg _)
  rw [Int.add_mul] at h3
  obtain ⟨t, d, w, hv⟩ := hy.1
  exact fb_round hC (FP.Core.val32_fsub x y) hx.1 ⟨!t, d, w, by rw [hv]; rfl⟩ (FP.Core.val32_fits x) (FP.Core.negate_fits (FP.Core.val32_fits y)) (by rw [FP.Core.zval_negate]; omega) (by rw [FP.Core.zval_negate]; omega)
theorem fb_neg {x : UInt32} {A : Nat} (hx : fb x A) : fb (FP.fneg x) A := by
  have e : FP.fneg x = FP.Core.fneg x := FP.fneg_core hx.1.notNaN
  obtain ⟨s, c, q, hv⟩ := hx.1
  have h2 : FP.Core.val32 (FP.fneg x) = .fin (!s) c q := by rw [e, FP.Core.val32_fneg, hv]; rfl
  refine ⟨⟨_, _, _, h2⟩, ?_⟩
  have h3 := hx.2
  rw [hv] at h3
  rw [h2]
  exact h3
/-- times n/16, a number of the format -/
theorem fb_mul {x k : UInt32} {n B cc e : Nat} (hk : FP.Core.val32 k = .fin false cc (-(e : Int))) (hcc : 16 * cc = n * 2 ^ e) (hx : fb x (16 * B)) (hC : n * B ≤ 2 ^ 24) : fb (FP.fmul x k) (n * B) := by
  obtain ⟨s, c, q, hv⟩ := hx.1
  have hf := FP.Core.val32_fits x
  rw [hv] at hf
  have hz := hx.2
  rw [hv] at hz
  have hq : FP.Core.b32.qmin ≤ q := hf.2.1
  have hqm : FP.Core.b32.qmin = -149 := FP.Core.qmin_b32
  have hr : FP.Core.val32 (FP.fmul x k) = FP.Core.round FP.Core.b32 (.fin s (c * cc) (q + -(e : Int))) := by
    rw [FP.fmul_core, FP.Core.val32_fmul, hv, hk]
    show FP.Core.round FP.Core.b32 (.fin (s != false) _ _) = _
    rw [Bool.bne_false]
  have hu : FP.Core.inUnits (c * cc) (q + -(e : Int)) (-149 - (e : Int)) = FP.Core.zmag FP.Core.b32 (.fin s c q) * cc := by
    show c * cc * 2 ^ (q + -(e : Int) - (-149 - (e : Int))).toNat = c * 2 ^ (q - FP.Core.b32.qmin).toNat * cc
    rw [hqm, show (q + -(e : Int) - (-149 - (e : Int))).toNat = (q - -149).toNat by omega, Nat.mul_right_comm]
  have hle : FP.Core.inUnits (c * cc) (q + -(e : Int)) (-149 - (e : Int)) ≤ n * B * FP.Core.one32 * 2 ^ e := by
    rw [hu]
    have h1 := Nat.mul_le_mul_right cc hz
    have e1 : 16 * B * FP.Core.one32 * cc = B * FP.Core.one32 * (16 * cc) := by
      simp only [Nat.mul_assoc, Nat.mul_left_comm, Nat.mul_comm]
    have e2 : B * FP.Core.one32 * (n * 2 ^ e) = n * B * FP.Core.one32 * 2 ^ e := by
      simp only [Nat.mul_assoc, Nat.mul_left_comm, Nat.mul_comm]
    rw [e1, hcc, e2] at h1
    exact h1
  obtain ⟨V, v1, v2, v3⟩ := fb_hi hC
  obtain ⟨U, u1, u2, u3⟩ := fb_lo hC
  have e25 : (FP.Core.b32.qmin - (-149 - (e : Int))).toNat = e := by rw [hqm]; omega
  have hle2 : ((FP.Core.inUnits (c * cc) (q + -(e : Int)) (-149 - (e : Int)) : Nat) : Int) ≤ ((n * B : Nat) : Int) * (FP.Core.one32 : Int) * ((2 ^ e : Nat) : Int) := by
    rw [← Int.natCast_mul, ← Int.natCast_mul]
    exact Int.ofNat_le.mpr hle
  have a1 := FP.Core.zval_round_le FP.Core.good_b32 (s := s) (c := c * cc) (q := q + -(e : Int)) (e0 := -149 - (e : Int)) v1 v2 (by rw [hqm]; omega) (by omega) (by
    rw [v3, e25]
    cases s <;> simp only [FP.Core.signed, if_true, Bool.false_eq_true, if_false] <;> omega)
  have a2 := FP.Core.zval_round_ge FP.Core.good_b32 (s := s) (c := c * cc) (q := q + -(e : Int)) (e0 := -149 - (e : Int)) u1 u2 (by rw [hqm]; omega) (by omega) (by
    rw [u3, e25, Int.neg_mul]
    cases s <;> simp only [FP.Core.signed, if_true, Bool.false_eq_true, if_false] <;> omega)
  rw [v3, ← hr] at a1
  rw [u3, ← hr] at a2
  refine fb_of ?_ hC a1 a2
  rw [hr]
  exact FP.Core.roundRatio_ne_nan _ _ _ _ _
theorem fb_k7 {x : UInt32} {B : Nat} (hx : fb x (16 * B)) (hC : 7 * B ≤ 2 ^ 24) : fb (FP.fmul x 1054867456) (7 * B) := fb_mul (cc := 14680064) (e := 25) (by decide +kernel) (by decide) hx hC
theorem fb_k3 {x : UInt32} {B : Nat} (hx : fb x (16 * B)) (hC : 3 * B ≤ 2 ^ 24) : fb (FP.fmul x 1044381696) (3 * B) := fb_mul (cc := 12582912) (e := 26) (by decide +kernel) (by decide) hx hC
theorem fb_k5 {x : UInt32} {B : Nat} (hx : fb x (16 * B)) (hC : 5 * B ≤ 2 ^ 24) : fb (FP.fmul x 1050673152) (5 * B) := fb_mul (cc := 10485760) (e := 25) (by decide +kernel) (by decide) hx hC
theorem fb_k1 {x : UInt32} {B : Nat} (hx : fb x (16 * B)) (hC : 1 * B ≤ 2 ^ 24) : fb (FP.fmul x 1031798784) (1 * B) := fb_mul (cc := 8388608) (e := 27) (by decide +kernel) (by decide) hx hC
theorem fb_0 (C : Nat) : fb FP.fconst0 C := ⟨⟨_, _, _, FP.Core.val32_fconst0⟩, by rw [show FP.fconst0 = FP.Core.fconst0 from rfl, FP.Core.val32_fconst0]; exact Nat.zero_le _⟩
/-- less: b is greater than a; no NaN is -/
def flt (a b : UInt32) : Prop := FP.fcmp a b = some .lt
theorem cv_g {o : Option Ordering} : 0 ≤ Op.cmpValue o .g ↔ ¬ o = some .lt := by
  rcases o with _ | o
  · decide
  · cases o <;> decide
theorem cv_l0 {o : Option Ordering} : Op.cmpValue o .l = 0 ↔ o = some .eq := by
  rcases o with _ | o
  · decide
  · cases o <;> decide
theorem cv_lle {o : Option Ordering} : Op.cmpValue o .l ≤ 0 ↔ ¬ o = some .gt := by
  rcases o with _ | o
  · decide
  · cases o <;> decide
theorem cv_llt {o : Option Ordering} : Op.cmpValue o .l < 0 ↔ (o = some .lt ∨ o = none) := by
  rcases o with _ | o
  · decide
  · cases o <;> decide
theorem cv_gge {o : Option Ordering} : Op.cmpValue o .g < 0 ↔ o = some .lt := by
  rcases o with _ | o
  · decide
  · cases o <;> decide
/-! places by the number of a cell; rows of arrays at a place that is known -/
section ROWS7
variable {p : Program} {l : Launch} {e : Env} {R : Room} {s : State} {m : MethodId} {args : Array Value} {below : List Frame} {meth : Method} {c : Code} {D : va_G} {cA : Nat → ClassId} {bs nL : Nat} {h : hE} {cells slots : Nat} {Q : State → Prop} {pc : Nat} {ls : List (Option Value)} {rest : List Value} {cc : ByteArray} {Ts : List Cond} {own : String}
theorem V_aaldS (C : Cx p s m meth c cc nL args Ts own D cA bs) {t0 a n k x : Nat} {CN : String} {f : Nat → Option Nat} {i : Int32} (hdg : decode cc pc = .ok (.aaload, 1)) (hh : h a = some (qarr (cA t0) n f)) (ht : (tyl cA)[t0]? = some (cA t0, .object CN)) (hi : i = nI k) (hk : k < n) (hn : n ≤ 1000) (hf : f k = some x)
    (kk : V p l e R s m args below meth c D bs nL h cells slots Q (pc + 1) ls (.ref x :: rest)) : V p l e R s m args below meth c D bs nL h cells slots Q pc ls (.int i :: .ref a :: rest) := by
  subst hi
  refine V_aald C hdg hh ht (vp_in_nI hk (by omega)) ?_
  rw [nI_clamp (by omega), hf]
  exact kk
theorem V_aaldN (C : Cx p s m meth c cc nL args Ts own D cA bs) {t0 a n k : Nat} {CN : String} {f : Nat → Option Nat} {i : Int32} (hdg : decode cc pc = .ok (.aaload, 1)) (hh : h a = some (qarr (cA t0) n f)) (ht : (tyl cA)[t0]? = some (cA t0, .object CN)) (hi : i = nI k) (hk : k < n) (hn : n ≤ 1000) (hf : f k = none)
    (kk : V p l e R s m args below meth c D bs nL h cells slots Q (pc + 1) ls (.null :: rest)) : V p l e R s m args below meth c D bs nL h cells slots Q pc ls (.int i :: .ref a :: rest) := by
  subst hi
  refine V_aald C hdg hh ht (vp_in_nI hk (by omega)) ?_
  rw [nI_clamp (by omega), hf]
  exact kk
theorem V_aastK (C : Cx p s m meth c cc nL args Ts own D cA bs) {t0 a n ci v k : Nat} {r : vw_C} {vs : List Value} {f : Nat → Option Nat} {i : Int32} (hdg : decode cc pc = .ok (.aastore, 1)) (hh : h a = some (qarr (cA t0) n f)) (ht : (tyl cA)[t0]? = some (cA t0, .object r.1)) (hv : h v = some (.inr (ci, vs))) (hc : vwCl[ci]? = some r) (hi : i = nI k) (hk : k < n) (hn : n ≤ 1000)
    (kk : V p l e R s m args below meth c D bs nL (hset h a (qarr (cA t0) n (fset f k (some v)))) cells slots Q (pc + 1) ls rest) : V p l e R s m args below meth c D bs nL h cells slots Q pc ls (.ref v :: .int i :: .ref a :: rest) := by
  subst hi
  refine V_aast C hdg hh ht hv hc (vp_in_nI hk (by omega)) ?_
  rw [nI_clamp (by omega)]
  exact kk
end ROWS7
