/-! no negative zero; how much is brought -/
abbrev nz (x : UInt32) : Prop := x ≠ 2147483648
theorem val_nz : FP.Core.val32 2147483648 = .fin true 0 FP.Core.b32.qmin := by decide +kernel
theorem nz_of_sgn {x : UInt32} (h : FP.Core.sgn (FP.Core.val32 x) = false) : nz x := by
  intro z
  rw [z, val_nz] at h
  cases h
theorem fp_nz {x : UInt32} {B : Nat} (h : fp x B) : nz x := nz_of_sgn h.2
theorem nz_val {x : UInt32} {q : Int} (h : FP.Core.val32 x = .fin true 0 q) : x = 2147483648 := by
  have h1 := FP.Core.val32_fits x
  rw [h] at h1
  have h2 : q = FP.Core.b32.qmin := by
    rcases h1.2.2.2 with z | z
    · exact z
    · exact absurd z (by decide)
  rw [h2, ← val_nz] at h
  exact FP.Core.val32_inj (by rw [h, val_nz]; exact fun n => by cases n) h
theorem nz_add {x y : UInt32} (hx : FP.Core.FFin x) (hy : FP.Core.FFin y) (h : nz x) : nz (FP.fadd x y) := by
  intro z
  obtain ⟨s, c, q, hv⟩ := hx
  obtain ⟨t, d, r, hw⟩ := hy
  have fx := FP.Core.val32_fits x
  have fy := FP.Core.val32_fits y
  rw [hv] at fx
  rw [hw] at fy
  have h1 : FP.Core.roundRatio FP.Core.b32 (FP.Core.sumSign s t (FP.Core.sumUnits s c q t d r (min q r))) (FP.Core.sumUnits s c q t d r (min q r)).natAbs 1 (min q r) = .fin true 0 FP.Core.b32.qmin := by
    have h2 : FP.Core.val32 (FP.Core.fadd x y) = FP.Core.val32 2147483648 := congrArg FP.Core.val32 z
    rw [FP.Core.val32_fadd, hv, hw, val_nz] at h2
    exact h2
  have hs := congrArg FP.Core.sgn h1
  rw [FP.Core.sgn_roundRatio] at hs
  have hs : FP.Core.sumSign s t (FP.Core.sumUnits s c q t d r (min q r)) = true := hs
  have hq1 : FP.Core.b32.qmin ≤ q := fx.2.1
  have hr1 : FP.Core.b32.qmin ≤ r := fy.2.1
  by_cases h0 : FP.Core.sumUnits s c q t d r (min q r) = 0
  · unfold FP.Core.sumSign at hs
    rw [if_pos h0, Bool.and_eq_true] at hs
    obtain ⟨rfl, rfl⟩ := hs
    unfold FP.Core.sumUnits FP.Core.signed at h0
    rw [if_pos rfl, if_pos rfl] at h0
    have h3 : FP.Core.inUnits c q (min q r) = 0 := by omega
    have hc : c = 0 := by
      rcases Nat.mul_eq_zero.mp h3 with h4 | h4
      · exact h4
      · exact absurd h4 (Nat.ne_of_gt (Nat.two_pow_pos _))
    subst hc
    exact h (nz_val hv)
  · have h3 := FP.Core.zmag_roundRatio_ge FP.Core.good_b32 (s := FP.Core.sumSign s t (FP.Core.sumUnits s c q t d r (min q r))) (A := (FP.Core.sumUnits s c q t d r (min q r)).natAbs) (B := 1) (e := min q r) (e0 := FP.Core.b32.qmin) (V := .fin false 1 FP.Core.b32.qmin) (by decide) ⟨by decide, Int.le_refl _, by decide, Or.inl rfl⟩ (Int.le_refl _) (by omega) (by
      rw [Int.sub_self]
      have h4 : 1 ≤ (FP.Core.sumUnits s c q t d r (min q r)).natAbs := by omega
      have h5 : FP.Core.zmag FP.Core.b32 (.fin false 1 FP.Core.b32.qmin) = 1 := by decide
      rw [h5]
      show 1 * 2 ^ 0 * 1 ≤ _ * 2 ^ _
      exact Nat.le_trans h4 (Nat.le_mul_of_pos_right _ (Nat.two_pow_pos _)))
    rw [h1] at h3
    exact absurd h3 (by decide)
theorem ffin_neg {x : UInt32} (h : FP.Core.FFin x) : FP.Core.FFin (FP.fneg x) := by
  obtain ⟨s, c, q, hv⟩ := id h
  exact ⟨!s, c, q, by rw [FP.fneg_core h.notNaN, FP.Core.val32_fneg, hv]; rfl⟩
theorem nz_sub {x y : UInt32} (hx : FP.Core.FFin x) (hy : FP.Core.FFin y) (h : nz x) : nz (FP.fsub x y) := by
  have e : FP.fsub x y = FP.fadd x (FP.fneg y) := by
    rw [FP.fneg_core hy.notNaN]
    exact FP.Core.fsub_eq x y
  rw [e]
  exact nz_add hx (ffin_neg hy) h
theorem fbt_add {x y : UInt32} {A B C : Nat} (hx : fb x A) (hy : fb y B) (hc : A + B ≤ C) (hC : C ≤ 2 ^ 24) (h : nz x) : fbt (FP.fadd x y) := ⟨(fb_add hx hy hc hC).1, nz_add hx.1 hy.1 h⟩
theorem fbt_fab {x : UInt32} (hx : FP.Core.FFin x) (h : nz x) : fbt (fab x) := by
  unfold fab
  split
  · rename_i hl
    refine ⟨ffin_neg hx, ?_⟩
    obtain ⟨s, c, q, hv⟩ := id hx
    have h1 := FP.Core.fcmp_lt.mp hl
    have hs : s = true := by
      cases s with
      | true => rfl
      | false =>
        have h2 := h1.2.2
        rw [hv, show FP.fconst0 = FP.Core.fconst0 from rfl, FP.Core.val32_fconst0] at h2
        have h3 : ((FP.Core.inUnits c q FP.Core.b32.qmin : Nat) : Int) < ((FP.Core.inUnits 0 FP.Core.b32.qmin FP.Core.b32.qmin : Nat) : Int) := h2
        have h4 : FP.Core.inUnits 0 FP.Core.b32.qmin FP.Core.b32.qmin = 0 := Nat.zero_mul _
        rw [h4] at h3
        omega
    subst hs
    refine nz_of_sgn ?_
    rw [FP.fneg_core hx.notNaN, FP.Core.val32_fneg, hv]
    rfl
  · exact ⟨hx, h⟩
/-- bounds of what is brought -/
def nbU (N : Nat) (G : Nat → Cd) (U : Nat → Nat) : Prop := ∀ j, j < N → fb (cbr (G j)) (U j) ∧ nz (cbr (G j))
theorem brT_nb {w g N V : Nat} {G : Nat → Cd} {x y : Int32} {v : UInt32} {U : Nat → Nat} (U' : Nat → Nat) (hG : nbU N G U) (hv : fb v V) (hU : ∀ j, j < N → U j ≤ U' j) (hi : isAt w g x y → U (idx w x y) + V ≤ U' (idx w x y)) (hC : ∀ j, j < N → U' j ≤ 2 ^ 24) : nbU N (brT w g G x y v) U' := by
  intro j hj
  unfold brT
  split
  · rename_i ha
    unfold fset
    split
    · rename_i e
      have h1 := hG j hj
      rw [e] at h1 hj ⊢
      exact ⟨fb_add h1.1 hv (hi ha) (hC _ hj), nz_add h1.1.1 hv.1 h1.2⟩
    · exact ⟨fb_mono (hG j hj).1 (hU j hj), (hG j hj).2⟩
  · exact ⟨fb_mono (hG j hj).1 (hU j hj), (hG j hj).2⟩
def fl7 (i j : Nat) : Nat := if j ≤ i then 7 else 0
def flw (c i w j : Nat) : Nat := if j < i + w then c else 0
theorem fl7_m (i j : Nat) : fl7 i j ≤ fl7 (i + 1) j := by
  unfold fl7
  split
  · rw [if_pos (by omega)]; exact Nat.le_refl _
  · exact Nat.zero_le _
theorem flw_m (c i w j : Nat) : flw c i w j ≤ flw c (i + 1) w j := by
  unfold flw
  split
  · rw [if_pos (by omega)]; exact Nat.le_refl _
  · exact Nat.zero_le _
theorem fl7_le (i j : Nat) : fl7 i j ≤ 7 := by
  unfold fl7
  split <;> omega
theorem flw_le (c i w j : Nat) : flw c i w j ≤ c := by
  unfold flw
  split <;> omega
/-- the bound at a place after i cells -/
def difU (w i : Nat) : Nat → Nat := fun j => 32 * i * (fl7 i j + flw 3 i (w - 1) j + flw 5 i w j + flw 1 i (w + 1) j)
theorem difU_le {w i N j : Nat} (hi : i ≤ N) (hN : N ≤ 64) : difU w i j ≤ 2 ^ 15 := by
  have h1 := fl7_le i j
  have h2 := flw_le 3 i (w - 1) j
  have h3 := flw_le 5 i w j
  have h4 := flw_le 1 i (w + 1) j
  unfold difU
  calc 32 * i * (fl7 i j + flw 3 i (w - 1) j + flw 5 i w j + flw 1 i (w + 1) j) ≤ 32 * 64 * 16 := Nat.mul_le_mul (Nat.mul_le_mul_left 32 (Nat.le_trans hi hN)) (by omega)
    _ = 2 ^ 15 := by decide
theorem idx_of {w g : Nat} {x y : Int32} {a b : Nat} (hx : x = nI a) (hy : y = nI b) (ha : a < 2 ^ 31) (hb : b < 2 ^ 31) : idx w x y = b * w + a := by
  subst hx
  subst hy
  show (nI b).toNatClampNeg * w + (nI a).toNatClampNeg = _
  rw [nI_clamp ha, nI_clamp hb]
theorem pass_nb {w g N k : Nat} {G : Nat → Cd} {u : UInt32} (hw1 : 1 ≤ w) (hw : w ≤ 8) (hg : g ≤ 8) (hN : N ≤ 64) (hk : k < N) (hG : nbU N G (difU w k)) (hu : fb u (16 * (32 * (k + 1)))) : nbU N (passG w g k G u) (difU w (k + 1)) := by
  have mono : ∀ a b c d a' b' c' d' : Nat, a ≤ a' → b ≤ b' → c ≤ c' → d ≤ d' → 32 * k * (a + b + c + d) ≤ 32 * (k + 1) * (a' + b' + c' + d') := fun a b c d a' b' c' d' h1 h2 h3 h4 => Nat.mul_le_mul (by omega) (by omega)
  have hmod : k % w ≤ k := Nat.mod_le _ _
  have hdiv : k / w ≤ k := Nat.div_le_self _ _
  have hkk := at_kk (w := w) k
  unfold passG
  split
  · intro j hj
    exact ⟨fb_mono (hG j hj).1 (mono _ _ _ _ _ _ _ _ (fl7_m _ _) (flw_m _ _ _ _) (flw_m _ _ _ _) (flw_m _ _ _ _)), (hG j hj).2⟩
  · have le24 : ∀ (a b c d : Nat), a ≤ 7 → b ≤ 3 → c ≤ 5 → d ≤ 1 → 32 * (k + 1) * (a + b + c + d) ≤ 2 ^ 24 := fun a b c d h1 h2 h3 h4 => Nat.le_trans (Nat.mul_le_mul (show 32 * (k + 1) ≤ 32 * 64 by omega) (show a + b + c + d ≤ 16 by omega)) (by decide)
    have a1 := brT_nb (w := w) (g := g) (x := nI (k % w) + 1) (y := nI (k / w)) (fun j => 32 * (k + 1) * (fl7 (k + 1) j + flw 3 k (w - 1) j + flw 5 k w j + flw 1 k (w + 1) j)) hG (fb_k7 (B := 32 * (k + 1)) hu (by omega)) (fun j _ => mono _ _ _ _ _ _ _ _ (fl7_m _ _) (Nat.le_refl _) (Nat.le_refl _) (Nat.le_refl _)) (fun ha => by
      rw [idx_of (g := g) (nI_1 _) rfl (by omega) (by omega), show k / w * w + (k % w + 1) = k + 1 by omega]
      have e0 : fl7 k (k + 1) = 0 := if_neg (by omega)
      have e1 : fl7 (k + 1) (k + 1) = 7 := if_pos (by omega)
      unfold difU
      rw [e0, e1, Nat.mul_comm 7]
      have := Nat.mul_le_mul_right (0 + flw 3 k (w - 1) (k + 1) + flw 5 k w (k + 1) + flw 1 k (w + 1) (k + 1)) (show 32 * k ≤ 32 * (k + 1) by omega)
      have e2 := Nat.mul_add (32 * (k + 1)) (0 + flw 3 k (w - 1) (k + 1) + flw 5 k w (k + 1) + flw 1 k (w + 1) (k + 1)) 7
      rw [show 0 + flw 3 k (w - 1) (k + 1) + flw 5 k w (k + 1) + flw 1 k (w + 1) (k + 1) + 7 = 7 + flw 3 k (w - 1) (k + 1) + flw 5 k w (k + 1) + flw 1 k (w + 1) (k + 1) by omega] at e2
      exact Nat.le_trans (Nat.add_le_add_right this _) (Nat.le_of_eq e2.symm)) (fun j _ => le24 _ _ _ _ (fl7_le _ _) (flw_le _ _ _ _) (flw_le _ _ _ _) (flw_le _ _ _ _))
    have a2 := brT_nb (w := w) (g := g) (x := nI (k % w) - 1) (y := nI (k / w) + 1) (fun j => 32 * (k + 1) * (fl7 (k + 1) j + flw 3 (k + 1) (w - 1) j + flw 5 k w j + flw 1 k (w + 1) j)) a1 (fb_k3 (B := 32 * (k + 1)) hu (by omega)) (fun j _ => Nat.mul_le_mul_left _ (by have := flw_m 3 k (w - 1) j; omega)) (fun ha => by
      obtain ⟨m, hm⟩ : ∃ m, k % w = m + 1 := by
        rcases Nat.eq_zero_or_pos (k % w) with z | z
        · rw [z] at ha
          exact absurd ha.1 (by decide)
        · exact ⟨k % w - 1, by omega⟩
      have hwm : k % w < w := Nat.mod_lt k hw1
      rw [idx_of (g := g) (a := m) (by rw [hm, nI_pred]) (nI_1 _) (by omega) (by omega), show (k / w + 1) * w + m = k + (w - 1) by rw [Nat.add_mul]; omega]
      have e0 : flw 3 k (w - 1) (k + (w - 1)) = 0 := if_neg (by omega)
      have e1 : flw 3 (k + 1) (w - 1) (k + (w - 1)) = 3 := if_pos (by omega)
      rw [e0, e1, Nat.mul_comm 3, ← Nat.mul_add]
      exact Nat.mul_le_mul_left _ (by omega)) (fun j _ => le24 _ _ _ _ (fl7_le _ _) (flw_le _ _ _ _) (flw_le _ _ _ _) (flw_le _ _ _ _))
    have a3 := brT_nb (w := w) (g := g) (x := nI (k % w)) (y := nI (k / w) + 1) (fun j => 32 * (k + 1) * (fl7 (k + 1) j + flw 3 (k + 1) (w - 1) j + flw 5 (k + 1) w j + flw 1 k (w + 1) j)) a2 (fb_k5 (B := 32 * (k + 1)) hu (by omega)) (fun j _ => Nat.mul_le_mul_left _ (by have := flw_m 5 k w j; omega)) (fun ha => by
      rw [idx_of (g := g) rfl (nI_1 _) (by omega) (by omega), show (k / w + 1) * w + k % w = k + w by rw [Nat.add_mul]; omega]
      have e0 : flw 5 k w (k + w) = 0 := if_neg (by omega)
      have e1 : flw 5 (k + 1) w (k + w) = 5 := if_pos (by omega)
      rw [e0, e1, Nat.mul_comm 5, ← Nat.mul_add]
      exact Nat.mul_le_mul_left _ (by omega)) (fun j _ => le24 _ _ _ _ (fl7_le _ _) (flw_le _ _ _ _) (flw_le _ _ _ _) (flw_le _ _ _ _))
    exact brT_nb (w := w) (g := g) (x := nI (k % w) + 1) (y := nI (k / w) + 1) (difU w (k + 1)) a3 (fb_k1 (B := 32 * (k + 1)) hu (by omega)) (fun j _ => Nat.mul_le_mul_left _ (by have := flw_m 1 k (w + 1) j; omega)) (fun ha => by
      rw [idx_of (g := g) (nI_1 _) (nI_1 _) (by omega) (by omega), show (k / w + 1) * w + (k % w + 1) = k + (w + 1) by rw [Nat.add_mul]; omega]
      have e0 : flw 1 k (w + 1) (k + (w + 1)) = 0 := if_neg (by omega)
      have e1 : flw 1 (k + 1) (w + 1) (k + (w + 1)) = 1 := if_pos (by omega)
      unfold difU
      rw [e0, e1, Nat.mul_comm 1, ← Nat.mul_add]
      exact Nat.mul_le_mul_left _ (by omega)) (fun j _ => le24 _ _ _ _ (fl7_le _ _) (flw_le _ _ _ _) (flw_le _ _ _ _) (flw_le _ _ _ _))
theorem fg_nb (w N : Nat) (G : Nat → Cd) : nbU N (fgG G N) (difU w 0) := by
  intro j hj
  have : fgG G N j = cdB (G j) FP.fconst0 := if_pos hj
  rw [this]
  exact ⟨fb_0 _, by show (0 : UInt32) ≠ 2147483648; decide⟩
theorem lack_fb {n N k : Nat} {L : Nat → Ld} {G : Nat → Cd} {a : UInt32} (hI : PI n N L G) (hN : N ≤ 64) (hk : k < N) (ha : fb a (255 + 16 * (32 * k))) : fb (lackC L (G k) a) (16 * (32 * (k + 1))) := by
  unfold lackC
  split
  · exact fb_0 _
  · rename_i b hb
    exact fb_sub ha (hI.2 b ((hI.1 k hk).1 b hb)) (by omega) (by omega)
theorem brT_all {P : Cd → Prop} (hP : ∀ d v, P d → P (cdB d v)) {w g N : Nat} {G : Nat → Cd} {x y : Int32} {v : UInt32} (h : ∀ j, j < N → P (G j)) : ∀ j, j < N → P (brT w g G x y v j) := by
  intro j hj
  unfold brT
  split
  · unfold fset
    split
    · rename_i e
      rw [← e]
      exact hP _ _ (h j hj)
    · exact h j hj
  · exact h j hj
theorem pass_all {P : Cd → Prop} (hP : ∀ d v, P d → P (cdB d v)) {w g N k : Nat} {G : Nat → Cd} {u : UInt32} (h : ∀ j, j < N → P (G j)) : ∀ j, j < N → P (passG w g k G u j) := by
  unfold passG
  split
  · exact h
  · exact brT_all hP (brT_all hP (brT_all hP (brT_all hP h)))
theorem wn_fp {n N k : Nat} {L : Nat → Ld} {G : Nat → Cd} (hI : PI n N L G) (hk : k < N) : fp (FP.i2f (cwn (G k))) 255 := by
  obtain ⟨v, hv, e⟩ := (hI.1 k hk).2.2
  rw [e]
  exact fp_i2f hv (by decide)
theorem difU_16 (w i : Nat) : difU w i i ≤ 16 * (32 * i) := by
  have h1 := fl7_le i i
  have h2 := flw_le 3 i (w - 1) i
  have h3 := flw_le 5 i w i
  have h4 := flw_le 1 i (w + 1) i
  unfold difU
  rw [Nat.mul_comm 16]
  exact Nat.mul_le_mul_left _ (by omega)
theorem aim_fb {n N k w : Nat} {L : Nat → Ld} {G : Nat → Cd} (hI : PI n N L G) (hN : N ≤ 64) (hk : k < N) (hG : nbU N G (difU w k)) : fb (FP.fadd (FP.i2f (cwn (G k))) (cbr (G k))) (255 + 16 * (32 * k)) ∧ nz (FP.fadd (FP.i2f (cwn (G k))) (cbr (G k))) := by
  have h1 := wn_fp hI hk
  exact ⟨fb_add h1.1 (fb_mono (hG k hk).1 (difU_16 w k)) (Nat.le_refl _) (by omega), nz_add h1.1.1 (hG k hk).1.1 (fp_nz h1)⟩
theorem d0_nb {n N w k : Nat} {L : Nat → Ld} {G : Nat → Cd} {U : Nat → Nat} (h : nbU N G U) : nbU N (ds0 n L G k).2 U := fun j hj => by
  rw [d0_br]
  exact h j hj
theorem dS_nb {n N w g : Nat} {L : Nat → Ld} {G : Nat → Cd} (hI : PI n N L G) (hw1 : 1 ≤ w) (hw : w ≤ 8) (hg : g ≤ 8) (hN : N ≤ 64) (hG : nbU N G (difU w 0)) {i : Nat} (hi : i ≤ N) : nbU N (dsS w g n L G i).2 (difU w i) := by
  induction i with
  | zero => exact hG
  | succ i ih =>
    have h1 := ih (by omega)
    have hI2 := hI.dS (w := w) (g := g) (i := i) (by omega)
    have hk : i < N := by omega
    refine pass_nb hw1 hw hg hN hk (d0_nb (w := w) h1) ?_
    refine lack_fb (hI2.d0 hk) hN hk ?_
    rw [d0_am]
    exact (aim_fb hI2 hN hk h1).1
theorem an_nb {n N w g : Nat} {L : Nat → Ld} {G : Nat → Cd} (hI : PI n N L G) (hw1 : 1 ≤ w) (hw : w ≤ 8) (hg : g ≤ 8) (hN : N ≤ 64) (hG : nbU N G (difU w 0)) {i : Nat} (hi : i ≤ N) : nbU N (anS w g L G i) (difU w i) := by
  induction i with
  | zero => exact hG
  | succ i ih =>
    have h1 := ih (by omega)
    have hI2 := hI.an (w := w) (g := g) i
    have hk : i < N := by omega
    exact pass_nb hw1 hw hg hN hk h1 (lack_fb hI2 hN hk (aim_fb hI2 hN hk h1).1)
/-- what is brought stays in its bounds: a design's, an aim's -/
theorem ds_B {X : XS} (hI : LI X) {p : Nat} (hp : p < xnp X) : ∀ i, i ≤ xN X p → ∀ j, j < xN X p → fb (cbr ((dsS (xwd X p) (xhg X p) (xnl X) (tbS (xlo X) (xg X p) (xN X p)).1 (fgG (tbS (xlo X) (xg X p) (xN X p)).2 (xN X p)) i).2 j)) (2 ^ 19) := by
  obtain ⟨⟨w1, w2⟩, g1, g2⟩ := hI.1.2.2 p hp
  have hN := (hI.1.N hp).2
  intro i hi j hj
  have h1 := dS_nb (((hI.2.1 p hp).tbS (Nat.le_refl _)).fg (xN X p)) w1 w2 g2 hN (fg_nb _ _ _) hi (g := xhg X p) j hj
  exact fb_mono h1.1 (Nat.le_trans (difU_le hi hN) (by decide))
theorem an_B {X : XS} (hI : LI X) {p : Nat} (hp : p < xnp X) : ∀ i, i ≤ xN X p → ∀ j, j < xN X p → fb (cbr (anS (xwd X p) (xhg X p) (xlo X) (fgG (xg X p) (xN X p)) i j)) (2 ^ 19) := by
  obtain ⟨⟨w1, w2⟩, g1, g2⟩ := hI.1.2.2 p hp
  have hN := (hI.1.N hp).2
  intro i hi j hj
  have h1 := an_nb ((hI.2.1 p hp).fg (xN X p)) w1 w2 g2 hN (fg_nb _ _ _) hi (g := xhg X p) j hj
  exact fb_mono h1.1 (Nat.le_trans (difU_le hi hN) (by decide))
theorem an_aim {X : XS} (hI : LI X) {p k : Nat} (hp : p < xnp X) (hk : k < xN X p) : fbt (FP.fadd (FP.i2f (cwn (anX X p k k))) (cbr (anX X p k k))) := by
  obtain ⟨⟨w1, w2⟩, g1, g2⟩ := hI.1.2.2 p hp
  have hN := (hI.1.N hp).2
  have hPI := (hI.2.1 p hp).fg (xN X p)
  have h1 := an_nb hPI w1 w2 g2 hN (fg_nb (xwd X p) _ _) (Nat.le_of_lt hk) (g := xhg X p)
  have h2 := aim_fb (hPI.an (w := xwd X p) (g := xhg X p) k) hN hk h1
  exact ⟨h2.1.1, h2.2⟩
/-! what holds of the class's numbers, always -/
def cOK (d : Cd) : Prop := ((d.1 = 0 ∨ d.1 = 3) ∧ clt d = none ∨ (d.1 = 1 ∨ d.1 = 2) ∧ ∃ b, clt d = some b) ∧ fbt (cam d) ∧ (d.1 = 2 → ∃ u, u < 2 ^ 31 ∧ cla d = nI u)
def CI (M : Nat) (X : XS) : Prop := LI X ∧ (∀ p, p < xnp X → ∀ k, k < xN X p → cOK (xg X p k)) ∧ (∀ j, j < xnl X → fp (ltn (xlo X j)) 255 ∧ (lth (xlo X j) = 0 ∨ lth (xlo X j) = 1)) ∧ (∀ c, c < 3 → ∃ f, f ≤ 9 ∧ rrt (xcr X c) = nI f) ∧ ∃ m, m ≤ M ∧ xnw X = nI m
theorem stn_fp {X : XS} {M : Nat} (h : CI M X) {p k : Nat} (hp : p < xnp X) (hk : k < xN X p) : fp (stn (xlo X) (xg X p k)) 255 := by
  unfold stn
  split
  · exact wn_fp (h.1.2.1 p hp) hk
  · rename_i b hb
    exact (h.2.2.1 b (((h.1.2.1 p hp).1 k hk).1 b hb)).1
theorem edg_fbt {X : XS} {M : Nat} (h : CI M X) {p j k : Nat} (hp : p < xnp X) (hj : j < xN X p) (hk : k < xN X p) : fbt (edg (xlo X) (xg X p j) (xg X p k)) := by
  unfold edg
  split
  · exact ⟨(fb_0 1).1, by show (0 : UInt32) ≠ 2147483648; decide⟩
  · have s1 := stn_fp h hp hj
    have s2 := stn_fp h hp hk
    have w1 := wn_fp (h.1.2.1 p hp) hj
    have w2 := wn_fp (h.1.2.1 p hp) hk
    have d1 := fb_sub (C := 510) s1.1 s2.1 (by decide) (by decide)
    have d2 := fb_sub (C := 510) w1.1 w2.1 (by decide) (by decide)
    exact fbt_fab (fb_sub (C := 1020) d1 d2 (by decide) (by decide)).1 (nz_sub d1.1 d2.1 (nz_sub s1.1.1 s2.1.1 (fp_nz s1)))
theorem grS_fbt {X : XS} {M : Nat} (h : CI M X) {p : Nat} (hp : p < xnp X) : ∀ i, i ≤ xN X p → fbt (grS (xwd X p) (xhg X p) (xlo X) (xg X p) i) := by
  obtain ⟨⟨w1, w2⟩, g1, g2⟩ := h.1.1.2.2 p hp
  have z : fbt FP.fconst0 := ⟨(fb_0 1).1, by show (0 : UInt32) ≠ 2147483648; decide⟩
  intro i
  induction i with
  | zero => intro _; exact z
  | succ i ih =>
    intro hi
    have hm := k_mod (k := i) w1
    have hv := k_div (g := xhg X p) (k := i) (w := xwd X p) hi
    have er : fbt (edR (xwd X p) (xlo X) (xg X p) i) := by
      unfold edR
      split
      · exact edg_fbt h hp hi (at_lt (by assumption) hv)
      · exact z
    have eb : fbt (edB (xwd X p) (xhg X p) (xlo X) (xg X p) i) := by
      unfold edB
      split
      · exact edg_fbt h hp hi (at_lt hm (by assumption))
      · exact z
    have ef : fbt (fmx (edR (xwd X p) (xlo X) (xg X p) i) (edB (xwd X p) (xhg X p) (xlo X) (xg X p) i)) := by
      unfold fmx
      split
      · exact eb
      · exact er
    unfold grS
    split
    · exact ef
    · exact ih (by omega)
