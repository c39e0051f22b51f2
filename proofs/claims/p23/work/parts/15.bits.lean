/-! the bits of a float by arithmetic -/
/-- x is z times the least float, and not negative -/
def fz (x : UInt32) (z : Nat) : Prop := ∃ (c : Nat) (q : Int), FP.Core.val32 x = .fin false c q ∧ c * 2 ^ (q + 149).toNat = z
theorem fz_fit {x : UInt32} {c : Nat} {q : Int} (h : FP.Core.val32 x = .fin false c q) : c < 2 ^ 24 ∧ -149 ≤ q ∧ q ≤ 104 ∧ (q = -149 ∨ 2 ^ 23 ≤ c) := by
  have h1 := FP.Core.val32_fits x
  rw [h] at h1
  exact h1
theorem fz_n32 {x : UInt32} {z : Nat} (h : fz x z) : vf_n32 x := by
  obtain ⟨c, q, hv, -⟩ := h
  have h1 := (FP.Core.fin_bits32 x).mp ⟨_, _, _, hv⟩
  unfold vf_n32
  rw [UInt32.le_iff_toNat_le, FP.Core.mask_toNat32]
  exact Nat.le_of_lt h1
theorem fz_zval {x : UInt32} {z : Nat} (h : fz x z) : FP.Core.val32 x ≠ .nan ∧ FP.Core.zval FP.Core.b32 (FP.Core.val32 x) = (z : Int) := by
  obtain ⟨c, q, hv, hz⟩ := h
  rw [hv]
  refine ⟨(fun n => by cases n), ?_⟩
  show ((c * 2 ^ (q - FP.Core.b32.qmin).toNat : Nat) : Int) = _
  rw [FP.Core.qmin_b32, ← hz, show q - -149 = q + 149 by omega]
theorem fz_mul {x k : UInt32} {c j : Nat} {q r : Int} (hv : FP.Core.val32 x = .fin false c q) (hk : FP.Core.val32 k = .fin false (2 ^ j) r) (h1 : -149 ≤ q + r + j) (h2 : q + r + j ≤ 104) : fz (FP.fmul x k) (c * 2 ^ (q + r + j + 149).toNat) := by
  have hc := (fz_fit hv).1
  have hr : FP.Core.val32 (FP.fmul x k) = FP.Core.roundRatio FP.Core.b32 false c 1 (q + r + j) := by
    rw [FP.fmul_core, FP.Core.val32_fmul, hv, hk]
    show FP.Core.roundRatio FP.Core.b32 (false != false) (c * 2 ^ j) 1 (q + r) = _
    rw [Bool.bne_false]
    refine FP.Core.roundRatio_congr (by decide) (by decide) ?_
    rw [show (q + r - (q + r + j)).toNat = 0 by omega, show (q + r + j - (q + r)).toNat = j by omega]
    simp
  obtain ⟨c2, q2, e1, e2⟩ := FP.Core.round_exact FP.Core.good_b32 false (c := c) (q := q + r + j) hc (by rw [FP.Core.qmin_b32]; exact h1) (show q + r + j ≤ 104 from h2)
  refine ⟨c2, q2, hr.trans e1, ?_⟩
  have e3 : c2 * 2 ^ (q2 - FP.Core.b32.qmin).toNat = c * 2 ^ (q + r + j - FP.Core.b32.qmin).toNat := e2
  rw [FP.Core.qmin_b32] at e3
  rw [show q2 + 149 = q2 - -149 by omega, e3, show q + r + j - -149 = q + r + j + 149 by omega]
theorem fz_two {x : UInt32} {z : Nat} (h : fz x z) (hz : z < 2 ^ 149) : fz (FP.fmul x FP.fconst2) (2 * z) := by
  obtain ⟨c, q, hv, rfl⟩ := h
  obtain ⟨f1, f2, f3, f4⟩ := fz_fit hv
  have hq : q + 1 ≤ 104 := by
    rcases f4 with z1 | z1
    · omega
    · have h1 : 2 ^ 23 * 2 ^ (q + 149).toNat ≤ c * 2 ^ (q + 149).toNat := Nat.mul_le_mul_right _ z1
      rw [← Nat.pow_add] at h1
      have h2 : 23 + (q + 149).toNat < 149 := (Nat.pow_lt_pow_iff_right (by decide : 1 < 2)).mp (Nat.lt_of_le_of_lt h1 hz)
      omega
  have h3 := fz_mul (j := 23) (r := -22) hv (by decide +kernel : FP.Core.val32 FP.fconst2 = .fin false (2 ^ 23) (-22)) (by omega) (by omega)
  have e : c * 2 ^ (q + -22 + (23 : Nat) + 149).toNat = 2 * (c * 2 ^ (q + 149).toNat) := by
    rw [show (q + -22 + ((23 : Nat) : Int) + 149).toNat = (q + 149).toNat + 1 by omega, Nat.pow_succ, Nat.mul_comm 2, Nat.mul_assoc]
  rw [e] at h3
  exact h3
theorem fz_half {x : UInt32} {z : Nat} (h : fz x z) (hz : 2 ^ 150 ≤ z) : ∃ y, z = 2 * y ∧ fz (FP.fmul x 1056964608) y := by
  obtain ⟨c, q, hv, rfl⟩ := h
  obtain ⟨f1, f2, f3, f4⟩ := fz_fit hv
  have hq : -148 ≤ q := by
    rcases Int.lt_or_le q (-148) with z1 | z1
    · have : q = -149 := by omega
      subst this
      have h2 : c * 2 ^ ((-149 : Int) + 149).toNat = c := by simp
      rw [h2] at hz
      have : (2 : Nat) ^ 24 < 2 ^ 150 := Nat.pow_lt_pow_right (by decide) (by decide)
      omega
    · exact z1
  have h3 := fz_mul (j := 23) (r := -24) hv (by decide +kernel : FP.Core.val32 1056964608 = .fin false (2 ^ 23) (-24)) (by omega) (by omega)
  refine ⟨_, ?_, h3⟩
  rw [show (q + 149).toNat = (q + -24 + ((23 : Nat) : Int) + 149).toNat + 1 by omega, Nat.pow_succ, Nat.mul_comm 2, Nat.mul_assoc]
theorem fz_23 {x : UInt32} {z : Nat} (h : fz x z) (hz : z < 2 ^ 150) : fz (FP.fmul x 1258291200) (z * 2 ^ 23) := by
  obtain ⟨c, q, hv, rfl⟩ := h
  obtain ⟨f1, f2, f3, f4⟩ := fz_fit hv
  have hq : q ≤ 0 := by
    rcases f4 with z1 | z1
    · omega
    · have h1 : 2 ^ 23 * 2 ^ (q + 149).toNat ≤ c * 2 ^ (q + 149).toNat := Nat.mul_le_mul_right _ z1
      rw [← Nat.pow_add] at h1
      have h2 : 23 + (q + 149).toNat < 150 := (Nat.pow_lt_pow_iff_right (by decide : 1 < 2)).mp (Nat.lt_of_le_of_lt h1 hz)
      omega
  have h3 := fz_mul (j := 23) (r := 0) hv (by decide +kernel : FP.Core.val32 1258291200 = .fin false (2 ^ 23) 0) (by omega) (by omega)
  have e : c * 2 ^ (q + 0 + (23 : Nat) + 149).toNat = c * 2 ^ (q + 149).toNat * 2 ^ 23 := by
    rw [show (q + 0 + ((23 : Nat) : Int) + 149).toNat = (q + 149).toNat + 23 by omega, Nat.pow_add, Nat.mul_assoc]
  rw [e] at h3
  exact h3
theorem fz_f2i {x : UInt32} {z : Nat} (h : fz x z) (hz : z / 2 ^ 149 < 2 ^ 31) : FP.f2i x = nI (z / 2 ^ 149) := by
  obtain ⟨c, q, hv, hzz⟩ := h
  have h1 := FP.Core.f2i_val (a := x) (by rw [hv]; intro n; cases n)
  rw [hv] at h1
  have e : FP.Core.zmag FP.Core.b32 (.fin false c q) = z := by
    show c * 2 ^ (q - FP.Core.b32.qmin).toNat = z
    rw [FP.Core.qmin_b32, ← hzz, show q - -149 = q + 149 by omega]
  rw [e] at h1
  apply Int32.toInt.inj
  show (FP.Core.f2i x).toInt = _
  rw [h1, nI_toInt hz]
  show max (-2 ^ 31) (min (2 ^ 31 - 1) ((z / FP.Core.one32 : Nat) : Int)) = _
  rw [show FP.Core.one32 = 2 ^ 149 from rfl]
  clear h1 hzz e hv
  generalize z / 2 ^ 149 = n at hz ⊢
  omega
/-- a float's bits are its count of least floats, written the format's way -/
theorem fz_bits {x : UInt32} {z : Nat} (h : fz x z) : x.toNat < 2139095040 ∧ FP.Core.unitsOf FP.Core.b32 x.toNat = z := by
  obtain ⟨c, q, hv, hz⟩ := h
  have h1 := FP.Core.zmag_bits32 (a := x) (by rw [hv]; intro n; cases n)
  have h2 := (FP.Core.fin_bits32 x).mp ⟨_, _, _, hv⟩
  have e : FP.Core.zmag FP.Core.b32 (.fin false c q) = z := by
    show c * 2 ^ (q - FP.Core.b32.qmin).toNat = z
    rw [FP.Core.qmin_b32, ← hz, show q - -149 = q + 149 by omega]
  have hs : x.toNat < 2 ^ 31 := by
    have h3 := FP.Core.sgn_decode (f := FP.Core.b32) (n := x.toNat) (by rw [FP.Core.mag_toNat32]; show _ ≤ 2139095040; omega) (FP.Core.lt_full32 x)
    rw [show FP.Core.decode FP.Core.b32 x.toNat = .fin false c q from hv] at h3
    have h4 : decide (FP.Core.half FP.Core.b32 ≤ x.toNat) = false := h3.symm
    have h5 := of_decide_eq_false h4
    rw [FP.Core.half_b32] at h5
    omega
  rw [Nat.mod_eq_of_lt hs] at h1 h2
  refine ⟨h2, ?_⟩
  rw [← h1, hv, e]
theorem fz_of {x : UInt32} (hf : FP.Core.FFin x) (hs : FP.Core.sgn (FP.Core.val32 x) = false) : ∃ z, fz x z ∧ z < 2 ^ 277 := by
  obtain ⟨s, c, q, hv⟩ := hf
  rw [hv] at hs
  have hs : s = false := hs
  subst hs
  obtain ⟨f1, f2, f3, f4⟩ := fz_fit hv
  refine ⟨_, ⟨c, q, hv, rfl⟩, ?_⟩
  have h1 : c * 2 ^ (q + 149).toNat < 2 ^ 24 * 2 ^ (q + 149).toNat := Nat.mul_lt_mul_of_pos_right f1 (Nat.two_pow_pos _)
  rw [← Nat.pow_add] at h1
  exact Nat.lt_of_lt_of_le h1 (Nat.pow_le_pow_right (by decide) (by omega))
/-- what the last step adds up -/
theorem fz_end {x : UInt32} {z z0 n0 e : Nat} (h : fz x z) (h0 : FP.Core.unitsOf FP.Core.b32 n0 = z0) (he : 1 ≤ e) (he2 : e ≤ 254) (hz : z < 2 ^ 150) (hm : z0 * 2 ^ 127 = z * 2 ^ e) (hd : e = 1 ∨ 2 ^ 149 ≤ z) : nI (e - 1) <<< (23 &&& 31) + FP.f2i (FP.fmul x 1258291200) = nI n0 := by
  have h1 := fz_23 h hz
  have hzd : z * 2 ^ 23 / 2 ^ 149 = z / 2 ^ 126 := by
    rw [show (2 : Nat) ^ 149 = 2 ^ 126 * 2 ^ 23 by rw [← Nat.pow_add], Nat.mul_div_mul_right _ _ (by decide)]
  have hz2 : z / 2 ^ 126 < 2 ^ 24 := by
    rw [Nat.div_lt_iff_lt_mul (by decide), ← Nat.pow_add]
    exact hz
  rw [fz_f2i h1 (by rw [hzd]; omega), hzd]
  have hsh : nI (e - 1) <<< (23 &&& 31) = nI ((e - 1) * 2 ^ 23) := by
    have : ∀ k : Nat, k < 254 → nI k <<< (23 &&& 31) = nI (k * 2 ^ 23) := by decide +kernel
    exact this _ (by omega)
  rw [hsh, nI_add]
  suffices hsuf : (e - 1) * 2 ^ 23 + z / 2 ^ 126 = n0 by rw [hsuf]
  have hinj : ∀ m, FP.Core.unitsOf FP.Core.b32 m = z0 → m = n0 := by
    intro m hm2
    have a1 := FP.Core.unitsOf_le_iff (f := FP.Core.b32) (m := m) (k := n0)
    have a2 := FP.Core.unitsOf_le_iff (f := FP.Core.b32) (m := n0) (k := m)
    rw [hm2, h0] at a1 a2
    have := a1.mp (Nat.le_refl _)
    have := a2.mp (Nat.le_refl _)
    omega
  apply hinj
  have ht : FP.Core.b32.tails = 2 ^ 23 := by decide +kernel
  by_cases hbig : 2 ^ 149 ≤ z
  · obtain ⟨c, q, hv, hcz⟩ := h
    obtain ⟨f1, f2, f3, f4⟩ := fz_fit hv
    have hq : q = -23 := by
      have u1 : c * 2 ^ (q + 149).toNat < 2 ^ (24 + (q + 149).toNat) := by
        rw [Nat.pow_add]
        exact Nat.mul_lt_mul_of_pos_right f1 (Nat.two_pow_pos _)
      have u2 : 149 < 24 + (q + 149).toNat := (Nat.pow_lt_pow_iff_right (by decide : 1 < 2)).mp (by omega)
      rcases f4 with z1 | z1
      · omega
      · have u3 : 2 ^ (23 + (q + 149).toNat) ≤ c * 2 ^ (q + 149).toNat := by
          rw [Nat.pow_add]
          exact Nat.mul_le_mul_right _ z1
        have u4 : 23 + (q + 149).toNat < 150 := (Nat.pow_lt_pow_iff_right (by decide : 1 < 2)).mp (by omega)
        omega
    subst hq
    have hc23 : 2 ^ 23 ≤ c := by
      rcases f4 with z1 | z1
      · omega
      · exact z1
    have e126 : ((-23 : Int) + 149).toNat = 126 := by decide
    rw [e126] at hcz
    have hcc : z / 2 ^ 126 = c := by rw [← hcz, Nat.mul_div_cancel _ (by decide)]
    rw [hcc]
    have hz0 : z0 = c * 2 ^ (e - 1) := by
      rw [← hcz, Nat.mul_assoc, ← Nat.pow_add, show 126 + e = (e - 1) + 127 by omega, Nat.pow_add, ← Nat.mul_assoc] at hm
      exact Nat.eq_of_mul_eq_mul_right (by decide) hm
    rw [hz0]
    unfold FP.Core.unitsOf
    rw [ht, if_neg (by omega)]
    obtain ⟨m, rfl⟩ : ∃ m, c = 2 ^ 23 + m := ⟨c - 2 ^ 23, by omega⟩
    have hm23 : m < 2 ^ 23 := by omega
    have g1 : ((e - 1) * 2 ^ 23 + (2 ^ 23 + m)) = m + 2 ^ 23 * e := by
      obtain ⟨e', rfl⟩ : ∃ e', e = e' + 1 := ⟨e - 1, by omega⟩
      rw [Nat.add_sub_cancel, Nat.mul_add, Nat.mul_one, Nat.mul_comm e']
      ac_rfl
    rw [g1, Nat.add_mul_mod_self_left, Nat.mod_eq_of_lt hm23, Nat.add_mul_div_left _ _ (by decide), Nat.div_eq_of_lt hm23, Nat.zero_add]
  · have he1 : e = 1 := by
      rcases hd with z1 | z1
      · exact z1
      · exact absurd z1 hbig
    subst he1
    have hz0 : z = z0 * 2 ^ 126 := by
      have : z0 * 2 ^ 126 * 2 ^ 1 = z * 2 ^ 1 := by rw [← hm, Nat.mul_assoc, ← Nat.pow_add]
      exact (Nat.eq_of_mul_eq_mul_right (by decide) this).symm
    rw [hz0, Nat.mul_div_cancel _ (by decide), Nat.sub_self, Nat.zero_mul, Nat.zero_add]
    unfold FP.Core.unitsOf
    rw [ht, if_pos ?_]
    have : z0 * 2 ^ 126 < 2 ^ 23 * 2 ^ 126 := by rw [← hz0, ← Nat.pow_add]; omega
    exact Nat.lt_of_mul_lt_mul_right this
theorem fz_neg0 {x : UInt32} (h : ¬ x.toNat < 2 ^ 31) : (nI (x.toNat - 2 ^ 31) ||| (-2147483648) : Int32) = x.toInt32 := by
  have hx := x.toNat_lt
  have h1 : x = UInt32.ofNat (x.toNat - 2 ^ 31) ||| 2147483648 := by
    apply UInt32.toNat.inj
    rw [UInt32.toNat_or, UInt32.toNat_ofNat_of_lt' (by show _ < 4294967296; omega), show (2147483648 : UInt32).toNat = 2 ^ 31 from rfl, Nat.or_comm]
    have h3 := Nat.two_pow_add_eq_or_of_lt (i := 31) (b := x.toNat - 2 ^ 31) (by omega) 1
    rw [Nat.mul_one] at h3
    rw [← h3]
    omega
  have h2 : x.toInt32 = (UInt32.ofNat (x.toNat - 2 ^ 31) ||| 2147483648).toInt32 := by rw [← h1]
  rw [h2]
  rfl
/-- what bitsOf wants: a number, not the negative zero -/
def fbt (x : UInt32) : Prop := FP.Core.FFin x ∧ x ≠ 2147483648
section BITS
variable {l : Launch} {D : va_G} {cA : Nat → ClassId} {bs : Nat} {h : hE}
set_option maxHeartbeats 4000000 in
set_option maxRecDepth 100000 in
theorem c_bitsOf {x : UInt32} (hx : fbt x) : Mt l D cA bs yX4_bitsOf wsX4_bitsOf (rmk 0 0 0) [.float x] h (fun v h2 => v = some (.int x.toInt32) ∧ h2 = h) := by
  have hnn := hx.1.ne_nan
  refine Mt_of (cc := cX4_bitsOf) (maxL := 4) (ret := (some .int)) (own := RX4) [some (.float x), none, none, none] rfl (by decide +kernel) rfl rfl (by exact Nat.le_of_ble_eq_true rfl) rfl ?_
  intro p9 e9 s9 m9 args9 below9 meth9 c9 C hr hnm
  by_cases hz : FP.fcmp x FP.fconst0 = some .eq
  · have hx0 : x = 0 := by
      rcases FP.Core.zero_bits32 (t := x) hz with z | z
      · exact z
      · exact absurd z hx.2
    refine V_fload_n (i := 0) C dX4_bitsOf_0 rfl rfl ?_
    refine V_fconst0 C dX4_bitsOf_1 ?_
    refine V_fcmp C dX4_bitsOf_2 ?_
    refine V_if_ne (tgt := 8) C dX4_bitsOf_3 (by decide) (fun z9 => absurd (cv_l0.mpr hz) z9) (fun _ => ?_)
    refine V_iconst (v := 0) C dX4_bitsOf_6 (by decide) ?_
    exact V_iret C dX4_bitsOf_7 hr ⟨by rw [hx0]; rfl, rfl⟩ (by exact Nat.le_of_ble_eq_true rfl) (by exact Nat.le_of_ble_eq_true rfl)
  · have hfin : ∀ (y : UInt32) (n0 : Nat) (z0 : Nat) (R9 : Int32), fz y z0 → FP.Core.unitsOf FP.Core.b32 n0 = z0 → z0 < 2 ^ 277 → (R9 = if FP.fcmp x FP.fconst0 = some .lt then nI n0 ||| (-2147483648) else nI n0) → R9 = x.toInt32 → V p9 l e9 (rmk 0 0 0) s9 m9 args9 below9 meth9 c9 D bs 4 h 0 0 (MQ below9 (hQ D cA bs (fun v h2 => v = some (.int x.toInt32) ∧ h2 = h)) args9 s9 0 0 (fun q => bs ≤ q)) 20 [some (.float x), none, none, none] [.float y] := by
      intro y n0 z0 R9 hy hu hz0 hR hRx
      have h69 : ∀ (w : UInt32) (z e : Nat), fz w z → 1 ≤ e → e ≤ 254 → z < 2 ^ 150 → z0 * 2 ^ 127 = z * 2 ^ e → (e = 1 ∨ 2 ^ 149 ≤ z) → V p9 l e9 (rmk 0 0 0) s9 m9 args9 below9 meth9 c9 D bs 4 h 0 0 (MQ below9 (hQ D cA bs (fun v h2 => v = some (.int x.toInt32) ∧ h2 = h)) args9 s9 0 0 (fun q => bs ≤ q)) 69 [some (.float x), some (.float w), some (.int (nI e)), none] [] := by
        intro w z e hw he he2 hzz hm hd
        have hend := fz_end hw hu he he2 hzz hm hd
        have hn23 := fz_n32 (fz_23 hw hzz)
        have he1 : nI e - 1 = nI (e - 1) := pk_sub (b := 1) he
        rw [← hRx]
        refine V_iload_n (i := 2) C dX4_bitsOf_69 rfl rfl ?_
        refine V_iconst (v := 1) C dX4_bitsOf_70 (by decide) ?_
        refine V_isub C dX4_bitsOf_71 ?_
        rw [he1]
        refine V_bipush (v := 23) C dX4_bitsOf_72 (by decide) ?_
        refine V_ishl C dX4_bitsOf_74 ?_
        refine V_fload_n (i := 1) C dX4_bitsOf_75 rfl rfl ?_
        refine V_ldcf (v := 1258291200) C dX4_bitsOf_76 (by decide +kernel) ?_
        refine V_fmul C dX4_bitsOf_78 (by assumption) ?_
        refine V_f2i C dX4_bitsOf_79 ?_
        refine V_iadd C dX4_bitsOf_80 ?_
        refine V_st (st2 := [.int (nI n0)]) (by rw [← hend]) ?_
        refine V_istore3 C dX4_bitsOf_81 (by decide) ?_
        refine V_fload_n (i := 0) C dX4_bitsOf_82 rfl rfl ?_
        refine V_fconst0 C dX4_bitsOf_83 ?_
        refine V_fcmp C dX4_bitsOf_84 ?_
        refine V_if_ge (tgt := 95) C dX4_bitsOf_85 (by decide) (fun c85 => ?_) (fun c85 => ?_)
        · have c85 := cv_g.mp c85
          have hR := hR.trans (if_neg c85)
          refine V_iload_n (i := 3) C dX4_bitsOf_95 rfl rfl ?_
          exact V_iret C dX4_bitsOf_96 hr ⟨by rw [hR], rfl⟩ (by exact Nat.le_of_ble_eq_true rfl) (by exact Nat.le_of_ble_eq_true rfl)
        · have c85 := Classical.not_not.mp (fun z => c85 (cv_g.mpr z))
          have hR := hR.trans (if_pos c85)
          refine V_iload_n (i := 3) C dX4_bitsOf_88 rfl rfl ?_
          refine V_ldci (v := -2147483648) C dX4_bitsOf_89 (by decide +kernel) ?_
          refine V_ior C dX4_bitsOf_91 ?_
          refine V_goto (tgt := 96) C dX4_bitsOf_92 (by decide) ?_
          exact V_iret C dX4_bitsOf_96 hr ⟨by rw [hR], rfl⟩ (by exact Nat.le_of_ble_eq_true rfl) (by exact Nat.le_of_ble_eq_true rfl)
      have h48 : ∀ (w : UInt32) (z e : Nat), fz w z → 1 ≤ e → e ≤ 254 → z < 2 ^ 150 → z0 * 2 ^ 127 = z * 2 ^ e → (e ≤ 127 ∨ 2 ^ 149 ≤ z) → V p9 l e9 (rmk 0 0 0) s9 m9 args9 below9 meth9 c9 D bs 4 h 0 0 (MQ below9 (hQ D cA bs (fun v h2 => v = some (.int x.toInt32) ∧ h2 = h)) args9 s9 0 0 (fun q => bs ≤ q)) 48 [some (.float x), some (.float w), some (.int (nI e)), none] [] := by
        intro w z e hw he he2 hzz hm hd
        refine V_rec (fun n h4 ls4 => ∃ (w : UInt32) (z e : Nat), n + 1 = e ∧ h4 = h ∧ ls4 = [some (.float x), some (.float w), some (.int (nI e)), none] ∧ fz w z ∧ e ≤ 254 ∧ z < 2 ^ 150 ∧ z0 * 2 ^ 127 = z * 2 ^ e) ?_ ?_ (e - 1) ⟨w, z, e, by omega, rfl, rfl, hw, he2, hzz, hm⟩
        · rintro n h4 ls4 ⟨w, z, e, q1, z9, rfl, hw, he2, hzz, hm⟩ ih
          have z9 := z9.symm
          subst z9
          have hv := fz_zval hw
          have hc1 : FP.fcmp w FP.fconst1 = some .lt ↔ z < 2 ^ 149 := by
            rw [FP.fcmp_core, FP.Core.fcmp_lt, hv.2, show FP.Core.zval FP.Core.b32 (FP.Core.val32 FP.fconst1) = ((2 ^ 149 : Nat) : Int) by decide +kernel]
            exact ⟨fun q => Int.ofNat_lt.mp q.2.2, fun q => ⟨hv.1, by decide +kernel, Int.ofNat_lt.mpr q⟩⟩
          have hpm : nI e + (-1) = nI (e - 1) := by
            obtain ⟨e', rfl⟩ : ∃ e', e = e' + 1 := ⟨e - 1, by omega⟩
            exact pk_m1 e'
          refine V_iload_n (i := 2) C dX4_bitsOf_48 rfl rfl ?_
          refine V_iconst (v := 1) C dX4_bitsOf_49 (by decide) ?_
          refine V_icmp_le (tgt := 69) C dX4_bitsOf_50 (by decide) (fun z9 => absurd z9 (fun q => absurd ((nI_leI (b := 1) (by omega) (by decide)).mp q) (by omega))) (fun _ => ?_)
          refine V_fload_n (i := 1) C dX4_bitsOf_53 rfl rfl ?_
          refine V_fconst1 C dX4_bitsOf_54 ?_
          refine V_fcmp C dX4_bitsOf_55 ?_
          refine V_if_ge (tgt := 69) C dX4_bitsOf_56 (by decide) (fun c56 => ?_) (fun c56 => ?_)
          · have c56 : ¬ z < 2 ^ 149 := fun q => cv_g.mp c56 (hc1.mpr q)
            exact h69 _ _ _ hw (by omega) he2 hzz hm (Or.inr (by omega))
          · have c56 : z < 2 ^ 149 := hc1.mp (Classical.not_not.mp (fun q => c56 (cv_g.mpr q)))
            have hw2 := fz_two hw c56
            have hn2 := fz_n32 hw2
            refine V_fload_n (i := 1) C dX4_bitsOf_59 rfl rfl ?_
            refine V_fconst2 C dX4_bitsOf_60 ?_
            refine V_fmul C dX4_bitsOf_61 (by assumption) ?_
            refine V_fstore1 C dX4_bitsOf_62 (by decide) ?_
            refine V_iinc2 (v := nI (e - 1)) C dX4_bitsOf_63 (hpm) (by decide) ?_
            refine V_goto (tgt := 48) C dX4_bitsOf_66 (by decide) ?_
            exact V_wk (by simp [lle]) (ih _ _ ⟨_, 2 * z, e - 1, by omega, rfl, rfl, hw2, by omega, by omega, by rw [hm, Nat.mul_comm 2, Nat.mul_assoc, ← Nat.pow_succ', show (e - 1).succ = e by omega]⟩)
        · rintro h4 ls4 ⟨w, z, e, q1, z9, rfl, hw, he2, hzz, hm⟩
          have z9 := z9.symm
          subst z9
          have he1 : e = 1 := by omega
          subst he1
          refine V_iload_n (i := 2) C dX4_bitsOf_48 rfl rfl ?_
          refine V_iconst (v := 1) C dX4_bitsOf_49 (by decide) ?_
          refine V_icmp_le (tgt := 69) C dX4_bitsOf_50 (by decide) (fun _ => ?_) (fun z9 => absurd (by decide) z9)
          exact h69 _ _ 1 hw (by decide) he2 hzz hm (Or.inl rfl)
      refine V_fstore1 C dX4_bitsOf_20 (by decide) ?_
      refine V_bipush (v := 127) C dX4_bitsOf_21 (by decide) ?_
      refine V_istore2 C dX4_bitsOf_23 (by decide) ?_
      refine V_rec (fun n h4 ls4 => ∃ (w : UInt32) (z e : Nat), n + e = 254 ∧ h4 = h ∧ ls4 = [some (.float x), some (.float w), some (.int (nI e)), none] ∧ fz w z ∧ 127 ≤ e ∧ z0 * 2 ^ 127 = z * 2 ^ e ∧ (e = 127 ∨ 2 ^ 149 ≤ z)) ?_ ?_ 127 ⟨y, z0, 127, rfl, rfl, rfl, hy, Nat.le_refl _, rfl, Or.inl rfl⟩
      · rintro n h4 ls4 ⟨w, z, e, q1, z9, rfl, hw, he, hm, hd⟩ ih
        have z9 := z9.symm
        subst z9
        have hv := fz_zval hw
        have hc2 : Op.cmpValue (FP.fcmp w FP.fconst2) .l < 0 ↔ z < 2 ^ 150 := by
          rw [cv_llt, FP.fcmp_core, FP.Core.fcmp_lt, hv.2, show FP.Core.zval FP.Core.b32 (FP.Core.val32 FP.fconst2) = ((2 ^ 150 : Nat) : Int) by decide +kernel]
          constructor
          · rintro (q | q)
            · exact Int.ofNat_lt.mp q.2.2
            · rcases (FP.Core.fcmp_none _ _).mp q with q | q
              · exact absurd q hv.1
              · exact absurd q (by decide +kernel)
          · exact fun q => Or.inl ⟨hv.1, by decide +kernel, Int.ofNat_lt.mpr q⟩
        refine V_iload_n (i := 2) C dX4_bitsOf_24 rfl rfl ?_
        refine V_sipush (v := 254) C dX4_bitsOf_25 (by decide) ?_
        refine V_icmp_ge (tgt := 48) C dX4_bitsOf_28 (by decide) (fun z9 => absurd z9 (nI_ge (b := 254) (by omega) (by decide))) (fun _ => ?_)
        refine V_fload_n (i := 1) C dX4_bitsOf_31 rfl rfl ?_
        refine V_fconst2 C dX4_bitsOf_32 ?_
        refine V_fcmp C dX4_bitsOf_33 ?_
        refine V_if_lt (tgt := 48) C dX4_bitsOf_34 (by decide) (fun c34 => ?_) (fun c34 => ?_)
        · have c34 := hc2.mp c34
          exact h48 _ _ _ hw (by omega) (by omega) c34 hm (by omega)
        · have c34 : 2 ^ 150 ≤ z := Nat.not_lt.mp (fun q => c34 (hc2.mpr q))
          obtain ⟨y2, hy2, hw2⟩ := fz_half hw c34
          have hn2 := fz_n32 hw2
          refine V_fload_n (i := 1) C dX4_bitsOf_37 rfl rfl ?_
          refine V_ldcf (v := 1056964608) C dX4_bitsOf_38 (by decide +kernel) ?_
          refine V_fmul C dX4_bitsOf_40 (by assumption) ?_
          refine V_fstore1 C dX4_bitsOf_41 (by decide) ?_
          refine V_iinc2 (v := nI (e + 1)) C dX4_bitsOf_42 (nI_1 _) (by decide) ?_
          refine V_goto (tgt := 24) C dX4_bitsOf_45 (by decide) ?_
          exact V_wk (by simp [lle]) (ih _ _ ⟨_, y2, e + 1, by omega, rfl, rfl, hw2, by omega, by rw [hm, hy2, Nat.pow_succ, Nat.mul_comm 2, Nat.mul_assoc, Nat.mul_comm 2], Or.inr (by omega)⟩)
      · rintro h4 ls4 ⟨w, z, e, q1, z9, rfl, hw, he, hm, hd⟩
        have z9 := z9.symm
        subst z9
        have he1 : e = 254 := by omega
        subst he1
        have hzz : z < 2 ^ 150 := by
          have h1 : z0 * 2 ^ 127 < 2 ^ 277 * 2 ^ 127 := Nat.mul_lt_mul_of_pos_right hz0 (Nat.two_pow_pos _)
          rw [hm, ← Nat.pow_add, show (277 + 127 : Nat) = 150 + 254 by decide, Nat.pow_add] at h1
          exact Nat.lt_of_mul_lt_mul_right h1
        refine V_iload_n (i := 2) C dX4_bitsOf_24 rfl rfl ?_
        refine V_sipush (v := 254) C dX4_bitsOf_25 (by decide) ?_
        refine V_icmp_ge (tgt := 48) C dX4_bitsOf_28 (by decide) (fun _ => ?_) (fun z9 => absurd (by decide) z9)
        exact h48 _ _ 254 hw (by decide) (by decide) hzz hm (by omega)
    have hx31 : FP.fcmp x FP.fconst0 = some .lt ↔ ¬ x.toNat < 2 ^ 31 := by
      have hk := FP.Core.fcmp_key (a := x) (b := 0) hnn (by decide +kernel)
      have hzz : ¬ (x.toNat = 2 ^ 31 ∨ x.toNat = 0) := by
        rintro (q | q)
        · exact hx.2 (UInt32.toNat.inj q)
        · have : x = 0 := UInt32.toNat.inj q
          subst this
          exact hz (by decide +kernel)
      show FP.Core.fcmp x 0 = _ ↔ _
      rw [hk, Option.some.injEq, FP.Core.compare_lt_iff]
      unfold FP.Core.fkey
      have h0 : (0 : UInt32).toNat = 0 := rfl
      rw [h0]
      split <;> (rw [if_neg (by decide)]; omega)
    by_cases hl : FP.fcmp x FP.fconst0 = some .lt
    · have hge := hx31.mp hl
      have hneg : (FP.fneg x).toNat = x.toNat - 2 ^ 31 := by
        have := x.toNat_lt
        have h3 := Nat.two_pow_add_eq_or_of_lt (i := 31) (b := x.toNat - 2 ^ 31) (by omega) 1
        show (x ^^^ 0x80000000).toNat = _
        rw [UInt32.toNat_xor]
        show x.toNat ^^^ 2147483648 = _
        rw [Nat.mul_one] at h3
        have h4 : x.toNat = 2147483648 ||| (x.toNat - 2 ^ 31) := by rw [show (2147483648 : Nat) = 2 ^ 31 from rfl, ← h3]; omega
        have h5 : 2147483648 ||| (x.toNat - 2 ^ 31) = 2147483648 ^^^ (x.toNat - 2 ^ 31) := by
          apply Nat.eq_of_testBit_eq
          intro i
          rw [Nat.testBit_or, Nat.testBit_xor, show (2147483648 : Nat) = 2 ^ 31 from rfl, Nat.testBit_two_pow]
          by_cases hi : 31 = i
          · subst hi
            rw [Nat.testBit_lt_two_pow (by omega)]
            rfl
          · simp [hi]
        rw [h4, h5, Nat.xor_comm, ← Nat.xor_assoc, Nat.xor_self, Nat.zero_xor]
        omega
      obtain ⟨s, c, q, hv⟩ := hx.1
      have hs : s = true := by
        have h3 := FP.Core.sgn_decode (f := FP.Core.b32) (n := x.toNat) (by rw [FP.Core.mag_toNat32]; exact Nat.le_of_lt ((FP.Core.fin_bits32 x).mp hx.1)) (FP.Core.lt_full32 x)
        rw [show FP.Core.decode FP.Core.b32 x.toNat = .fin s c q from hv] at h3
        rw [show s = decide (FP.Core.half FP.Core.b32 ≤ x.toNat) from h3, FP.Core.half_b32]
        exact decide_eq_true (Nat.not_lt.mp hge)
      subst hs
      have hv2 : FP.Core.val32 (FP.fneg x) = .fin false c q := by
        rw [FP.fneg_core hx.1.notNaN, FP.Core.val32_fneg, hv]
        rfl
      obtain ⟨z0, hz0, hz1⟩ := fz_of ⟨_, _, _, hv2⟩ (by rw [hv2]; rfl)
      have hb := (fz_bits hz0).2
      rw [hneg] at hb
      refine V_fload_n (i := 0) C dX4_bitsOf_0 rfl rfl ?_
      refine V_fconst0 C dX4_bitsOf_1 ?_
      refine V_fcmp C dX4_bitsOf_2 ?_
      refine V_if_ne (tgt := 8) C dX4_bitsOf_3 (by decide) (fun _ => ?_) (fun z9 => absurd z9 (fun z => hz (cv_l0.mp z)))
      refine V_fload_n (i := 0) C dX4_bitsOf_8 rfl rfl ?_
      refine V_fconst0 C dX4_bitsOf_9 ?_
      refine V_fcmp C dX4_bitsOf_10 ?_
      refine V_if_ge (tgt := 19) C dX4_bitsOf_11 (by decide) (fun z9 => absurd z9 (fun z => cv_g.mp z hl)) (fun _ => ?_)
      refine V_fload_n (i := 0) C dX4_bitsOf_14 rfl rfl ?_
      refine V_fneg C dX4_bitsOf_15 ?_
      refine V_goto (tgt := 20) C dX4_bitsOf_16 (by decide) ?_
      exact hfin _ _ _ x.toInt32 hz0 hb hz1 (by rw [if_pos hl]; exact (fz_neg0 hge).symm) rfl
    · have hge : x.toNat < 2 ^ 31 := Classical.not_not.mp (fun z => hl (hx31.mpr z))
      have hs : FP.Core.sgn (FP.Core.val32 x) = false := by
        have h3 := FP.Core.sgn_decode (f := FP.Core.b32) (n := x.toNat) (by rw [FP.Core.mag_toNat32]; exact Nat.le_of_lt ((FP.Core.fin_bits32 x).mp hx.1)) (FP.Core.lt_full32 x)
        rw [show FP.Core.val32 x = FP.Core.decode FP.Core.b32 x.toNat from rfl, h3, FP.Core.half_b32]
        exact decide_eq_false (Nat.not_le.mpr hge)
      obtain ⟨z0, hz0, hz1⟩ := fz_of hx.1 hs
      have hb := (fz_bits hz0).2
      refine V_fload_n (i := 0) C dX4_bitsOf_0 rfl rfl ?_
      refine V_fconst0 C dX4_bitsOf_1 ?_
      refine V_fcmp C dX4_bitsOf_2 ?_
      refine V_if_ne (tgt := 8) C dX4_bitsOf_3 (by decide) (fun _ => ?_) (fun z9 => absurd z9 (fun z => hz (cv_l0.mp z)))
      refine V_fload_n (i := 0) C dX4_bitsOf_8 rfl rfl ?_
      refine V_fconst0 C dX4_bitsOf_9 ?_
      refine V_fcmp C dX4_bitsOf_10 ?_
      refine V_if_ge (tgt := 19) C dX4_bitsOf_11 (by decide) (fun _ => ?_) (fun z9 => absurd (cv_g.mpr hl) z9)
      refine V_fload_n (i := 0) C dX4_bitsOf_19 rfl rfl ?_
      exact hfin _ _ _ x.toInt32 hz0 hb hz1 (by rw [if_neg hl]; exact congrArg Int32.ofUInt32 (UInt32.ofNat_toNat (x := x)).symm) rfl
end BITS
