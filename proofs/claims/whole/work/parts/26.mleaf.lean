/-! the reference: what its calls ask, counts, tones, trays, dry rows -/
theorem okR_lt {x : Int32} {w : Nat} (hw : w ≤ 1000) : okR x 0 (nI w - 1) ↔ 0 ≤ x ∧ x < nI w := by
  constructor
  · rintro ⟨h1, h2⟩
    refine ⟨h1, ?_⟩
    rcases Nat.eq_zero_or_pos w with z | z
    · subst z
      have h3 := Int32.le_trans h1 h2
      exact absurd h3 (by decide)
    · obtain ⟨v, rfl⟩ : ∃ v, w = v + 1 := ⟨w - 1, by omega⟩
      rw [nI_pred] at h2
      have h4 : nI v < nI (v + 1) := nI_lt (by omega) (by omega)
      rw [Int32.lt_iff_toInt_lt] at h4 ⊢
      rw [Int32.le_iff_toInt_le] at h2
      omega
  · rintro ⟨h1, h2⟩
    refine ⟨h1, ?_⟩
    obtain ⟨k, hk, rfl⟩ := nI_in2 (by omega) h1 h2
    obtain ⟨v, rfl⟩ : ∃ v, w = v + 1 := ⟨w - 1, by omega⟩
    rw [nI_pred]
    exact nI_le (by omega) (by omega)
theorem ite_iff {P Q : Prop} [Decidable P] [Decidable Q] (h : P ↔ Q) : (if P then (1 : Int32) else 0) = if Q then 1 else 0 := by
  by_cases hp : P
  · rw [if_pos hp, if_pos (h.mp hp)]
  · rw [if_neg hp, if_neg (fun z => hp (h.mpr z))]
section LEAF2
variable {l : Launch} {D : va_G} {cA : Nat → ClassId} {bs : Nat} {A : Nat → Nat} {I : MI} {F : MF} {n : MN} {h : hE} {X : XS} {th : Int32} {M : Nat}
set_option maxHeartbeats 4000000 in
set_option maxRecDepth 100000 in
theorem r_asked2 (r : MR cA A I F n h) {x y : Int32} {P Q : Prop} [Decidable P] [Decidable Q] (hx : x = if P then 1 else 0) (hy : P → y = if Q then 1 else 0) : Mt l D cA bs yX5_asked_ wsX5_asked_ (rmk 0 0 0) [.ref (A 0), .int x, .int y] h (fun v h2 => v = some (.int (if P ∧ Q then 1 else 0)) ∧ MR cA A I F ((if P then if Q then 0 else 2 else 1), n.2) h2 ∧ mfr h h2) := by
  have m0 := r.m0
  by_cases hp : P
  · rw [if_pos hp] at hx
    have hy := hy hp
    by_cases hq : Q
    · rw [if_pos hq] at hy
      rw [if_pos hp, if_pos hq, if_pos ⟨hp, hq⟩]
      subst hx
      subst hy
      refine Mt_of (cc := cX5_asked_) (maxL := 3) (ret := (some .boolean)) (own := RX5) [some (.ref (A 0)), some (.int 1), some (.int 1)] rfl (by decide +kernel) rfl rfl (by exact Nat.le_of_ble_eq_true rfl) rfl ?_
      intro p9 e9 s9 m9 args9 below9 meth9 c9 C hr hnm
      refine V_aload_n (i := 0) C dX5_asked__0 rfl rfl ?_
      refine V_iload_n (i := 1) C dX5_asked__1 rfl rfl ?_
      refine V_if_ne (tgt := 9) C dX5_asked__2 (by decide) (fun _ => ?_) (fun z9 => absurd z9 (by decide))
      refine V_iload_n (i := 2) C dX5_asked__9 rfl rfl ?_
      refine V_if_eq (tgt := 17) C dX5_asked__10 (by decide) (fun z9 => absurd z9 (by decide)) (fun _ => ?_)
      refine V_iconst (v := 0) C dX5_asked__13 (by decide) ?_
      refine V_goto (tgt := 18) C dX5_asked__14 (by decide) ?_
      refine V_put (ci := 5) (CN := RX5) (T := TX5) (N := 26) (ty := (tyX5 0)) C dX5_asked__18 (by first | assumption | exact hset_s _ _ _) rfl tyX5 tyX5_ok nmX5 0 (by decide) flX5_asked__78 wiX5_asked__X5 rfl (tyX5_ok 0 (by decide)) (by rfl) (by rfl) (by exact Nat.le_of_ble_eq_true rfl) ?_
      refine V_aload_n (i := 0) C dX5_asked__21 rfl rfl ?_
      refine V_get (ci := 5) (CN := RX5) (T := TX5) (N := 26) C dX5_asked__22 (by first | assumption | exact hset_s _ _ _) rfl 0 (by decide) flX5_asked__78 wiX5_asked__X5 (by rfl) ?_
      refine V_if_ne (tgt := 32) C dX5_asked__25 (by decide) (fun z9 => absurd rfl z9) (fun _ => ?_)
      refine V_iconst (v := 1) C dX5_asked__28 (by decide) ?_
      refine V_goto (tgt := 33) C dX5_asked__29 (by decide) ?_
      exact V_zret C dX5_asked__33 hr (by rfl) ⟨rfl, r.setN (0, n.2), r.f0 _⟩ (by exact Nat.le_of_ble_eq_true rfl) (by exact Nat.le_of_ble_eq_true rfl)
    · rw [if_neg hq] at hy
      rw [if_pos hp, if_neg hq, if_neg (fun z => hq z.2)]
      subst hx
      subst hy
      refine Mt_of (cc := cX5_asked_) (maxL := 3) (ret := (some .boolean)) (own := RX5) [some (.ref (A 0)), some (.int 1), some (.int 0)] rfl (by decide +kernel) rfl rfl (by exact Nat.le_of_ble_eq_true rfl) rfl ?_
      intro p9 e9 s9 m9 args9 below9 meth9 c9 C hr hnm
      refine V_aload_n (i := 0) C dX5_asked__0 rfl rfl ?_
      refine V_iload_n (i := 1) C dX5_asked__1 rfl rfl ?_
      refine V_if_ne (tgt := 9) C dX5_asked__2 (by decide) (fun _ => ?_) (fun z9 => absurd z9 (by decide))
      refine V_iload_n (i := 2) C dX5_asked__9 rfl rfl ?_
      refine V_if_eq (tgt := 17) C dX5_asked__10 (by decide) (fun _ => ?_) (fun z9 => absurd rfl z9)
      refine V_iconst (v := 2) C dX5_asked__17 (by decide) ?_
      refine V_put (ci := 5) (CN := RX5) (T := TX5) (N := 26) (ty := (tyX5 0)) C dX5_asked__18 (by first | assumption | exact hset_s _ _ _) rfl tyX5 tyX5_ok nmX5 0 (by decide) flX5_asked__78 wiX5_asked__X5 rfl (tyX5_ok 0 (by decide)) (by rfl) (by rfl) (by exact Nat.le_of_ble_eq_true rfl) ?_
      refine V_aload_n (i := 0) C dX5_asked__21 rfl rfl ?_
      refine V_get (ci := 5) (CN := RX5) (T := TX5) (N := 26) C dX5_asked__22 (by first | assumption | exact hset_s _ _ _) rfl 0 (by decide) flX5_asked__78 wiX5_asked__X5 (by rfl) ?_
      refine V_if_ne (tgt := 32) C dX5_asked__25 (by decide) (fun _ => ?_) (fun z9 => absurd z9 (by decide))
      refine V_iconst (v := 0) C dX5_asked__32 (by decide) ?_
      exact V_zret C dX5_asked__33 hr (by rfl) ⟨rfl, r.setN (2, n.2), r.f0 _⟩ (by exact Nat.le_of_ble_eq_true rfl) (by exact Nat.le_of_ble_eq_true rfl)
  · rw [if_neg hp] at hx
    rw [if_neg hp, if_neg (fun z => hp z.1)]
    subst hx
    refine Mt_of (cc := cX5_asked_) (maxL := 3) (ret := (some .boolean)) (own := RX5) [some (.ref (A 0)), some (.int 0), some (.int y)] rfl (by decide +kernel) rfl rfl (by exact Nat.le_of_ble_eq_true rfl) rfl ?_
    intro p9 e9 s9 m9 args9 below9 meth9 c9 C hr hnm
    refine V_aload_n (i := 0) C dX5_asked__0 rfl rfl ?_
    refine V_iload_n (i := 1) C dX5_asked__1 rfl rfl ?_
    refine V_if_ne (tgt := 9) C dX5_asked__2 (by decide) (fun z9 => absurd rfl z9) (fun _ => ?_)
    refine V_iconst (v := 1) C dX5_asked__5 (by decide) ?_
    refine V_goto (tgt := 18) C dX5_asked__6 (by decide) ?_
    refine V_put (ci := 5) (CN := RX5) (T := TX5) (N := 26) (ty := (tyX5 0)) C dX5_asked__18 (by first | assumption | exact hset_s _ _ _) rfl tyX5 tyX5_ok nmX5 0 (by decide) flX5_asked__78 wiX5_asked__X5 rfl (tyX5_ok 0 (by decide)) (by rfl) (by rfl) (by exact Nat.le_of_ble_eq_true rfl) ?_
    refine V_aload_n (i := 0) C dX5_asked__21 rfl rfl ?_
    refine V_get (ci := 5) (CN := RX5) (T := TX5) (N := 26) C dX5_asked__22 (by first | assumption | exact hset_s _ _ _) rfl 0 (by decide) flX5_asked__78 wiX5_asked__X5 (by rfl) ?_
    refine V_if_ne (tgt := 32) C dX5_asked__25 (by decide) (fun _ => ?_) (fun z9 => absurd z9 (by decide))
    refine V_iconst (v := 0) C dX5_asked__32 (by decide) ?_
    exact V_zret C dX5_asked__33 hr (by rfl) ⟨rfl, r.setN (1, n.2), r.f0 _⟩ (by exact Nat.le_of_ble_eq_true rfl) (by exact Nat.le_of_ble_eq_true rfl)
set_option maxHeartbeats 4000000 in
set_option maxRecDepth 100000 in
theorem r_asked3 (r : MR cA A I F n h) {x y z : Int32} {P Q S : Prop} [Decidable P] [Decidable Q] [Decidable S] (hx : x = if P then 1 else 0) (hy : P → y = if Q then 1 else 0) (hz : P → z = if S then 1 else 0) : Mt l D cA bs yX5_asked__ wsX5_asked__ (rmk 0 0 0) [.ref (A 0), .int x, .int y, .int z] h (fun v h2 => v = some (.int (if P ∧ Q ∧ S then 1 else 0)) ∧ MR cA A I F ((if P then if Q then if S then 0 else 3 else 2 else 1), n.2) h2 ∧ mfr h h2) := by
  have m0 := r.m0
  by_cases hp : P
  · rw [if_pos hp] at hx
    have hy := hy hp
    have hz := hz hp
    by_cases hq : Q
    · rw [if_pos hq] at hy
      by_cases hs : S
      · rw [if_pos hs] at hz
        rw [if_pos hp, if_pos hq, if_pos hs, if_pos ⟨hp, hq, hs⟩]
        subst hx
        subst hy
        subst hz
        refine Mt_of (cc := cX5_asked__) (maxL := 4) (ret := (some .boolean)) (own := RX5) [some (.ref (A 0)), some (.int 1), some (.int 1), some (.int 1)] rfl (by decide +kernel) rfl rfl (by exact Nat.le_of_ble_eq_true rfl) rfl ?_
        intro p9 e9 s9 m9 args9 below9 meth9 c9 C hr hnm
        refine V_aload_n (i := 0) C dX5_asked___0 rfl rfl ?_
        refine V_iload_n (i := 1) C dX5_asked___1 rfl rfl ?_
        refine V_if_ne (tgt := 9) C dX5_asked___2 (by decide) (fun _ => ?_) (fun z9 => absurd z9 (by decide))
        refine V_iload_n (i := 2) C dX5_asked___9 rfl rfl ?_
        refine V_if_ne (tgt := 17) C dX5_asked___10 (by decide) (fun _ => ?_) (fun z9 => absurd z9 (by decide))
        refine V_iload_n (i := 3) C dX5_asked___17 rfl rfl ?_
        refine V_if_eq (tgt := 25) C dX5_asked___18 (by decide) (fun z9 => absurd z9 (by decide)) (fun _ => ?_)
        refine V_iconst (v := 0) C dX5_asked___21 (by decide) ?_
        refine V_goto (tgt := 26) C dX5_asked___22 (by decide) ?_
        refine V_put (ci := 5) (CN := RX5) (T := TX5) (N := 26) (ty := (tyX5 0)) C dX5_asked___26 (by first | assumption | exact hset_s _ _ _) rfl tyX5 tyX5_ok nmX5 0 (by decide) flX5_asked___78 wiX5_asked___X5 rfl (tyX5_ok 0 (by decide)) (by rfl) (by rfl) (by exact Nat.le_of_ble_eq_true rfl) ?_
        refine V_aload_n (i := 0) C dX5_asked___29 rfl rfl ?_
        refine V_get (ci := 5) (CN := RX5) (T := TX5) (N := 26) C dX5_asked___30 (by first | assumption | exact hset_s _ _ _) rfl 0 (by decide) flX5_asked___78 wiX5_asked___X5 (by rfl) ?_
        refine V_if_ne (tgt := 40) C dX5_asked___33 (by decide) (fun z9 => absurd rfl z9) (fun _ => ?_)
        refine V_iconst (v := 1) C dX5_asked___36 (by decide) ?_
        refine V_goto (tgt := 41) C dX5_asked___37 (by decide) ?_
        exact V_zret C dX5_asked___41 hr (by rfl) ⟨rfl, r.setN (0, n.2), r.f0 _⟩ (by exact Nat.le_of_ble_eq_true rfl) (by exact Nat.le_of_ble_eq_true rfl)
      · rw [if_neg hs] at hz
        rw [if_pos hp, if_pos hq, if_neg hs, if_neg (fun z => hs z.2.2)]
        subst hx
        subst hy
        subst hz
        refine Mt_of (cc := cX5_asked__) (maxL := 4) (ret := (some .boolean)) (own := RX5) [some (.ref (A 0)), some (.int 1), some (.int 1), some (.int 0)] rfl (by decide +kernel) rfl rfl (by exact Nat.le_of_ble_eq_true rfl) rfl ?_
        intro p9 e9 s9 m9 args9 below9 meth9 c9 C hr hnm
        refine V_aload_n (i := 0) C dX5_asked___0 rfl rfl ?_
        refine V_iload_n (i := 1) C dX5_asked___1 rfl rfl ?_
        refine V_if_ne (tgt := 9) C dX5_asked___2 (by decide) (fun _ => ?_) (fun z9 => absurd z9 (by decide))
        refine V_iload_n (i := 2) C dX5_asked___9 rfl rfl ?_
        refine V_if_ne (tgt := 17) C dX5_asked___10 (by decide) (fun _ => ?_) (fun z9 => absurd z9 (by decide))
        refine V_iload_n (i := 3) C dX5_asked___17 rfl rfl ?_
        refine V_if_eq (tgt := 25) C dX5_asked___18 (by decide) (fun _ => ?_) (fun z9 => absurd rfl z9)
        refine V_iconst (v := 3) C dX5_asked___25 (by decide) ?_
        refine V_put (ci := 5) (CN := RX5) (T := TX5) (N := 26) (ty := (tyX5 0)) C dX5_asked___26 (by first | assumption | exact hset_s _ _ _) rfl tyX5 tyX5_ok nmX5 0 (by decide) flX5_asked___78 wiX5_asked___X5 rfl (tyX5_ok 0 (by decide)) (by rfl) (by rfl) (by exact Nat.le_of_ble_eq_true rfl) ?_
        refine V_aload_n (i := 0) C dX5_asked___29 rfl rfl ?_
        refine V_get (ci := 5) (CN := RX5) (T := TX5) (N := 26) C dX5_asked___30 (by first | assumption | exact hset_s _ _ _) rfl 0 (by decide) flX5_asked___78 wiX5_asked___X5 (by rfl) ?_
        refine V_if_ne (tgt := 40) C dX5_asked___33 (by decide) (fun _ => ?_) (fun z9 => absurd z9 (by decide))
        refine V_iconst (v := 0) C dX5_asked___40 (by decide) ?_
        exact V_zret C dX5_asked___41 hr (by rfl) ⟨rfl, r.setN (3, n.2), r.f0 _⟩ (by exact Nat.le_of_ble_eq_true rfl) (by exact Nat.le_of_ble_eq_true rfl)
    · rw [if_neg hq] at hy
      rw [if_pos hp, if_neg hq, if_neg (fun z => hq z.2.1)]
      subst hx
      subst hy
      refine Mt_of (cc := cX5_asked__) (maxL := 4) (ret := (some .boolean)) (own := RX5) [some (.ref (A 0)), some (.int 1), some (.int 0), some (.int z)] rfl (by decide +kernel) rfl rfl (by exact Nat.le_of_ble_eq_true rfl) rfl ?_
      intro p9 e9 s9 m9 args9 below9 meth9 c9 C hr hnm
      refine V_aload_n (i := 0) C dX5_asked___0 rfl rfl ?_
      refine V_iload_n (i := 1) C dX5_asked___1 rfl rfl ?_
      refine V_if_ne (tgt := 9) C dX5_asked___2 (by decide) (fun _ => ?_) (fun z9 => absurd z9 (by decide))
      refine V_iload_n (i := 2) C dX5_asked___9 rfl rfl ?_
      refine V_if_ne (tgt := 17) C dX5_asked___10 (by decide) (fun z9 => absurd rfl z9) (fun _ => ?_)
      refine V_iconst (v := 2) C dX5_asked___13 (by decide) ?_
      refine V_goto (tgt := 26) C dX5_asked___14 (by decide) ?_
      refine V_put (ci := 5) (CN := RX5) (T := TX5) (N := 26) (ty := (tyX5 0)) C dX5_asked___26 (by first | assumption | exact hset_s _ _ _) rfl tyX5 tyX5_ok nmX5 0 (by decide) flX5_asked___78 wiX5_asked___X5 rfl (tyX5_ok 0 (by decide)) (by rfl) (by rfl) (by exact Nat.le_of_ble_eq_true rfl) ?_
      refine V_aload_n (i := 0) C dX5_asked___29 rfl rfl ?_
      refine V_get (ci := 5) (CN := RX5) (T := TX5) (N := 26) C dX5_asked___30 (by first | assumption | exact hset_s _ _ _) rfl 0 (by decide) flX5_asked___78 wiX5_asked___X5 (by rfl) ?_
      refine V_if_ne (tgt := 40) C dX5_asked___33 (by decide) (fun _ => ?_) (fun z9 => absurd z9 (by decide))
      refine V_iconst (v := 0) C dX5_asked___40 (by decide) ?_
      exact V_zret C dX5_asked___41 hr (by rfl) ⟨rfl, r.setN (2, n.2), r.f0 _⟩ (by exact Nat.le_of_ble_eq_true rfl) (by exact Nat.le_of_ble_eq_true rfl)
  · rw [if_neg hp] at hx
    rw [if_neg hp, if_neg (fun z => hp z.1)]
    subst hx
    refine Mt_of (cc := cX5_asked__) (maxL := 4) (ret := (some .boolean)) (own := RX5) [some (.ref (A 0)), some (.int 0), some (.int y), some (.int z)] rfl (by decide +kernel) rfl rfl (by exact Nat.le_of_ble_eq_true rfl) rfl ?_
    intro p9 e9 s9 m9 args9 below9 meth9 c9 C hr hnm
    refine V_aload_n (i := 0) C dX5_asked___0 rfl rfl ?_
    refine V_iload_n (i := 1) C dX5_asked___1 rfl rfl ?_
    refine V_if_ne (tgt := 9) C dX5_asked___2 (by decide) (fun z9 => absurd rfl z9) (fun _ => ?_)
    refine V_iconst (v := 1) C dX5_asked___5 (by decide) ?_
    refine V_goto (tgt := 26) C dX5_asked___6 (by decide) ?_
    refine V_put (ci := 5) (CN := RX5) (T := TX5) (N := 26) (ty := (tyX5 0)) C dX5_asked___26 (by first | assumption | exact hset_s _ _ _) rfl tyX5 tyX5_ok nmX5 0 (by decide) flX5_asked___78 wiX5_asked___X5 rfl (tyX5_ok 0 (by decide)) (by rfl) (by rfl) (by exact Nat.le_of_ble_eq_true rfl) ?_
    refine V_aload_n (i := 0) C dX5_asked___29 rfl rfl ?_
    refine V_get (ci := 5) (CN := RX5) (T := TX5) (N := 26) C dX5_asked___30 (by first | assumption | exact hset_s _ _ _) rfl 0 (by decide) flX5_asked___78 wiX5_asked___X5 (by rfl) ?_
    refine V_if_ne (tgt := 40) C dX5_asked___33 (by decide) (fun _ => ?_) (fun z9 => absurd z9 (by decide))
    refine V_iconst (v := 0) C dX5_asked___40 (by decide) ?_
    exact V_zret C dX5_asked___41 hr (by rfl) ⟨rfl, r.setN (1, n.2), r.f0 _⟩ (by exact Nat.le_of_ble_eq_true rfl) (by exact Nat.le_of_ble_eq_true rfl)
theorem r_isLotX (r : MR cA A I F (mnn X th) h) (hd : xdim X) {x : Int32} : Mt l D cA bs yX5_isLot wsX5_isLot (rmk 1 0 0) [.ref (A 0), .int x] h (fun v h2 => v = some (.int (if lotN X x then 1 else 0)) ∧ h2 = h) :=
  Mt_post (r_isLot r) (fun v h2 hv => ⟨by rw [hv.1]; congr 2; exact ite_iff (okR_lt (by have := hd.1; omega)), hv.2⟩)
theorem r_isPicX (r : MR cA A I F (mnn X th) h) (hd : xdim X) {x : Int32} : Mt l D cA bs yX5_isPicture wsX5_isPicture (rmk 1 0 0) [.ref (A 0), .int x] h (fun v h2 => v = some (.int (if picN X x then 1 else 0)) ∧ h2 = h) :=
  Mt_post (r_isPicture r) (fun v h2 hv => ⟨by rw [hv.1]; congr 2; exact ite_iff (okR_lt (by have := hd.2.1; omega)), hv.2⟩)
theorem r_isCrewX {x : Int32} : Mt l D cA bs yX5_isCrew wsX5_isCrew (rmk 1 0 0) [.int x] h (fun v h2 => v = some (.int (if crewN x then 1 else 0)) ∧ h2 = h) :=
  Mt_post r_isCrew (fun v h2 hv => ⟨by rw [hv.1]; congr 2; exact ite_iff (okR_lt (w := 3) (by decide)), hv.2⟩)
set_option maxHeartbeats 4000000 in
set_option maxRecDepth 100000 in
theorem r_isCell (r : MR cA A I F (mnn X th) h) (hd : xdim X) (hP : PR X I F) {a b c : Int32} : Mt l D cA bs yX5_isCell wsX5_isCell (rmk 2 0 0) [.ref (A 0), .int a, .int b, .int c] h (fun v h2 => v = some (.int (if celN X a b c then 1 else 0)) ∧ h2 = h) := by
  have m0 := r.m0
  have m10 := r.m10
  have m11 := r.m11
  have hnp := hd.2.1
  by_cases ha : picN X a
  · obtain ⟨p, hp, rfl, ep⟩ := picN_of hd ha
    obtain ⟨w9, g9⟩ := hP.2.2.1 p hp
    obtain ⟨⟨w1, w2⟩, g1, g2⟩ := hd.2.2 p hp
    have hb := okR_lt (x := b) (w := xwd X p) (by omega)
    have hc := okR_lt (x := c) (w := xhg X p) (by omega)
    have hcel : celN X (nI p) b c ↔ okR b 0 (nI (xwd X p) - 1) ∧ okR c 0 (nI (xhg X p) - 1) := by
      rw [hb, hc]
      show picN X (nI p) ∧ isAt (xwd X (tN (nI p))) (xhg X (tN (nI p))) b c ↔ _
      rw [ep]
      exact ⟨fun z => ⟨⟨z.2.1, z.2.2.1⟩, z.2.2.2⟩, fun z => ⟨ha, z.1.1, z.1.2, z.2⟩⟩
    rw [show (if celN X (nI p) b c then (1 : Int32) else 0) = if okR b 0 (nI (xwd X p) - 1) ∧ okR c 0 (nI (xhg X p) - 1) then 1 else 0 from ite_iff hcel]
    refine Mt_of (cc := cX5_isCell) (maxL := 4) (ret := (some .boolean)) (own := RX5) [some (.ref (A 0)), some (.int (nI p)), some (.int b), some (.int c)] rfl (by decide +kernel) rfl rfl (by exact Nat.le_of_ble_eq_true rfl) rfl ?_
    intro p9 e9 s9 m9 args9 below9 meth9 c9 C hr hnm
    refine V_aload_n (i := 0) C dX5_isCell_0 rfl rfl ?_
    refine V_iload_n (i := 1) C dX5_isCell_1 rfl rfl ?_
    refine V_callV (n := 1) C (r_isPicX r hd) dX5_isCell_2 gX5_isCell_X5_isPicture rfl (by first | assumption | exact hset_s _ _ _) rfl (by decide +kernel) rfl rfl (by exact Nat.le_of_ble_eq_true rfl) ⟨Nat.le_of_ble_eq_true rfl, Nat.le_of_ble_eq_true rfl⟩ ⟨Nat.le_of_ble_eq_true rfl, Nat.le_of_ble_eq_true rfl⟩ (fun v9 h9 hr9 => ?_)
    rw [if_pos ha] at hr9
    obtain ⟨rfl, z9⟩ := hr9
    have z9 := z9.symm
    subst z9
    refine V_if_eq (tgt := 44) C dX5_isCell_5 (by decide) (fun z9 => absurd z9 (by decide)) (fun _ => ?_)
    refine V_iload_n (i := 2) C dX5_isCell_8 rfl rfl ?_
    refine V_iconst (v := 0) C dX5_isCell_9 (by decide) ?_
    refine V_aload_n (i := 0) C dX5_isCell_10 rfl rfl ?_
    refine V_get (ci := 5) (CN := RX5) (T := TX5) (N := 26) C dX5_isCell_11 (by first | assumption | exact hset_s _ _ _) rfl 10 (by decide) flX5_isCell_30 wiX5_isCell_X5 (by rfl) ?_
    refine V_iload_n (i := 1) C dX5_isCell_14 rfl rfl ?_
    refine V_ialdK C dX5_isCell_15 (by first | assumption | exact hset_s _ _ _) rfl (by omega) (by decide) w9 ?_
    refine V_iconst (v := 1) C dX5_isCell_16 (by decide) ?_
    refine V_isub C dX5_isCell_17 ?_
    refine V_callS (n := 3) C (r_in) dX5_isCell_18 gX5_isCell_X5_in rfl (by decide +kernel) rfl rfl (by exact Nat.le_of_ble_eq_true rfl) ⟨Nat.le_of_ble_eq_true rfl, Nat.le_of_ble_eq_true rfl⟩ ⟨Nat.le_of_ble_eq_true rfl, Nat.le_of_ble_eq_true rfl⟩ (fun v9 h9 hr9 => ?_)
    obtain ⟨rfl, z9⟩ := hr9
    have z9 := z9.symm
    subst z9
    refine V_if_eq (tgt := 44) C dX5_isCell_21 (by decide) (fun c21 => ?_) (fun c21 => ?_)
    · have c21 := ite0.mp c21
      have e9 : ¬ (okR b 0 (nI (xwd X p) - 1) ∧ okR c 0 (nI (xhg X p) - 1)) := fun z => c21 z.1
      refine V_iconst (v := 0) C dX5_isCell_44 (by decide) ?_
      exact V_zret C dX5_isCell_45 hr (by rfl) ⟨by first | rw [if_pos e9] | rw [if_neg e9], rfl⟩ (by exact Nat.le_of_ble_eq_true rfl) (by exact Nat.le_of_ble_eq_true rfl)
    · have c21 := Classical.not_not.mp (fun z => c21 (ite0.mpr z))
      refine V_iload_n (i := 3) C dX5_isCell_24 rfl rfl ?_
      refine V_iconst (v := 0) C dX5_isCell_25 (by decide) ?_
      refine V_aload_n (i := 0) C dX5_isCell_26 rfl rfl ?_
      refine V_get (ci := 5) (CN := RX5) (T := TX5) (N := 26) C dX5_isCell_27 (by first | assumption | exact hset_s _ _ _) rfl 11 (by decide) flX5_isCell_33 wiX5_isCell_X5 (by rfl) ?_
      refine V_iload_n (i := 1) C dX5_isCell_30 rfl rfl ?_
      refine V_ialdK C dX5_isCell_31 (by first | assumption | exact hset_s _ _ _) rfl (by omega) (by decide) g9 ?_
      refine V_iconst (v := 1) C dX5_isCell_32 (by decide) ?_
      refine V_isub C dX5_isCell_33 ?_
      refine V_callS (n := 3) C (r_in) dX5_isCell_34 gX5_isCell_X5_in rfl (by decide +kernel) rfl rfl (by exact Nat.le_of_ble_eq_true rfl) ⟨Nat.le_of_ble_eq_true rfl, Nat.le_of_ble_eq_true rfl⟩ ⟨Nat.le_of_ble_eq_true rfl, Nat.le_of_ble_eq_true rfl⟩ (fun v9 h9 hr9 => ?_)
      obtain ⟨rfl, z9⟩ := hr9
      have z9 := z9.symm
      subst z9
      refine V_if_eq (tgt := 44) C dX5_isCell_37 (by decide) (fun c37 => ?_) (fun c37 => ?_)
      · have c37 := ite0.mp c37
        have e9 : ¬ (okR b 0 (nI (xwd X p) - 1) ∧ okR c 0 (nI (xhg X p) - 1)) := fun z => c37 z.2
        refine V_iconst (v := 0) C dX5_isCell_44 (by decide) ?_
        exact V_zret C dX5_isCell_45 hr (by rfl) ⟨by first | rw [if_pos e9] | rw [if_neg e9], rfl⟩ (by exact Nat.le_of_ble_eq_true rfl) (by exact Nat.le_of_ble_eq_true rfl)
      · have c37 := Classical.not_not.mp (fun z => c37 (ite0.mpr z))
        have e9 : okR b 0 (nI (xwd X p) - 1) ∧ okR c 0 (nI (xhg X p) - 1) := ⟨c21, c37⟩
        refine V_iconst (v := 1) C dX5_isCell_40 (by decide) ?_
        refine V_goto (tgt := 45) C dX5_isCell_41 (by decide) ?_
        exact V_zret C dX5_isCell_45 hr (by rfl) ⟨by first | rw [if_pos e9] | rw [if_neg e9], rfl⟩ (by exact Nat.le_of_ble_eq_true rfl) (by exact Nat.le_of_ble_eq_true rfl)
  · rw [if_neg (fun z => ha z.1)]
    refine Mt_of (cc := cX5_isCell) (maxL := 4) (ret := (some .boolean)) (own := RX5) [some (.ref (A 0)), some (.int a), some (.int b), some (.int c)] rfl (by decide +kernel) rfl rfl (by exact Nat.le_of_ble_eq_true rfl) rfl ?_
    intro p9 e9 s9 m9 args9 below9 meth9 c9 C hr hnm
    refine V_aload_n (i := 0) C dX5_isCell_0 rfl rfl ?_
    refine V_iload_n (i := 1) C dX5_isCell_1 rfl rfl ?_
    refine V_callV (n := 1) C (r_isPicX r hd) dX5_isCell_2 gX5_isCell_X5_isPicture rfl (by first | assumption | exact hset_s _ _ _) rfl (by decide +kernel) rfl rfl (by exact Nat.le_of_ble_eq_true rfl) ⟨Nat.le_of_ble_eq_true rfl, Nat.le_of_ble_eq_true rfl⟩ ⟨Nat.le_of_ble_eq_true rfl, Nat.le_of_ble_eq_true rfl⟩ (fun v9 h9 hr9 => ?_)
    rw [if_neg ha] at hr9
    obtain ⟨rfl, z9⟩ := hr9
    have z9 := z9.symm
    subst z9
    refine V_if_eq (tgt := 44) C dX5_isCell_5 (by decide) (fun _ => ?_) (fun z9 => absurd rfl z9)
    refine V_iconst (v := 0) C dX5_isCell_44 (by decide) ?_
    exact V_zret C dX5_isCell_45 hr (by rfl) ⟨rfl, rfl⟩ (by exact Nat.le_of_ble_eq_true rfl) (by exact Nat.le_of_ble_eq_true rfl)
set_option maxHeartbeats 4000000 in
set_option maxRecDepth 100000 in
theorem r_size {x : UInt32} : Mt l D cA bs yX5_size wsX5_size (rmk 0 0 0) [.float x] h (fun v h2 => v = some (.float (fab x)) ∧ h2 = h) := by
  refine Mt_of (cc := cX5_size) (maxL := 1) (ret := (some .float)) (own := RX5) [some (.float x)] rfl (by decide +kernel) rfl rfl (by exact Nat.le_of_ble_eq_true rfl) rfl ?_
  intro p9 e9 s9 m9 args9 below9 meth9 c9 C hr hnm
  refine V_fload_n (i := 0) C dX5_size_0 rfl rfl ?_
  refine V_fconst0 C dX5_size_1 ?_
  refine V_fcmp C dX5_size_2 ?_
  refine V_if_ge (tgt := 11) C dX5_size_3 (by decide) (fun c3 => ?_) (fun c3 => ?_)
  · have c3 := cv_g.mp c3
    refine V_fload_n (i := 0) C dX5_size_11 rfl rfl ?_
    exact V_fret C dX5_size_12 hr ⟨by simp [fab, c3], rfl⟩ (by exact Nat.le_of_ble_eq_true rfl) (by exact Nat.le_of_ble_eq_true rfl)
  · have c3 := Classical.not_not.mp (fun z => c3 (cv_g.mpr z))
    refine V_fload_n (i := 0) C dX5_size_6 rfl rfl ?_
    refine V_fneg C dX5_size_7 ?_
    refine V_goto (tgt := 12) C dX5_size_8 (by decide) ?_
    exact V_fret C dX5_size_12 hr ⟨by simp [fab, c3], rfl⟩ (by exact Nat.le_of_ble_eq_true rfl) (by exact Nat.le_of_ble_eq_true rfl)
set_option maxHeartbeats 4000000 in
set_option maxRecDepth 100000 in
theorem r_count (r : MR cA A I F (mnn X th) h) (hd : xdim X) (hP : PR X I F) {p : Nat} (hp : p < xnp X) {kd : Int32} : Mt l D cA bs yX5_count wsX5_count (rmk 1 0 0) [.ref (A 0), .int (nI p), .int kd] h (fun v h2 => v = some (.int (nI (cntN (xg X p) kd (xN X p)))) ∧ h2 = h) := by
  have m0 := r.m0
  have m10 := r.m10
  have m11 := r.m11
  have m13 := r.m13
  have hnp := hd.2.1
  obtain ⟨w9, g9⟩ := hP.2.2.1 p hp
  obtain ⟨⟨w1, w2⟩, g1, g2⟩ := hd.2.2 p hp
  refine Mt_of (cc := cX5_count) (maxL := 6) (ret := (some .int)) (own := RX5) [some (.ref (A 0)), some (.int (nI p)), some (.int kd), none, none, none] rfl (by decide +kernel) rfl rfl (by exact Nat.le_of_ble_eq_true rfl) rfl ?_
  intro p9 e9 s9 m9 args9 below9 meth9 c9 C hr hnm
  refine V_iconst (v := 0) C dX5_count_0 (by decide) ?_
  refine V_istore3 C dX5_count_1 (by decide) ?_
  refine V_iconst (v := 0) C dX5_count_2 (by decide) ?_
  refine V_istore4 C dX5_count_3 (by decide) ?_
  refine V_for (xhg X p) (fun y h2 ls2 => h2 = h ∧ ls2 = [some (.ref (A 0)), some (.int (nI p)), some (.int kd), some (.int (nI (cntN (xg X p) kd (y * xwd X p)))), some (.int (nI y)), none]) ?_ ?_ 0 (Nat.zero_le _) ⟨rfl, by rw [Nat.zero_mul]; rfl⟩
  · rintro y h2 ls2 hy ⟨z9, rfl⟩ ih
    have z9 := z9.symm
    subst z9
    refine V_iload C dX5_count_5 rfl ?_
    refine V_aload_n (i := 0) C dX5_count_7 rfl rfl ?_
    refine V_get (ci := 5) (CN := RX5) (T := TX5) (N := 26) C dX5_count_8 (by first | assumption | exact hset_s _ _ _) rfl 11 (by decide) flX5_count_33 wiX5_count_X5 (by rfl) ?_
    refine V_iload_n (i := 1) C dX5_count_11 rfl rfl ?_
    refine V_ialdK C dX5_count_12 (by first | assumption | exact hset_s _ _ _) rfl (by omega) (by decide) g9 ?_
    refine V_icmp_ge (tgt := 67) C dX5_count_13 (by decide) (fun z9 => absurd z9 (nI_ge hy (by omega))) (fun _ => ?_)
    refine V_iconst (v := 0) C dX5_count_16 (by decide) ?_
    refine V_istore5 C dX5_count_17 (by decide) ?_
    refine V_for (xwd X p) (fun x h2 ls2 => h2 = h ∧ ls2 = [some (.ref (A 0)), some (.int (nI p)), some (.int kd), some (.int (nI (cntN (xg X p) kd (y * xwd X p + x)))), some (.int (nI y)), some (.int (nI x))]) ?_ ?_ 0 (Nat.zero_le _) ⟨rfl, rfl⟩
    · rintro x h2 ls2 hx ⟨z9, rfl⟩ ih2
      have z9 := z9.symm
      subst z9
      have hk := at_lt hx hy
      have hcc := hP.2.2.2.1 p hp _ hk
      have hcl := cx_lt (p := p) w1 w2 g2 (by omega) hk
      refine V_iload C dX5_count_19 rfl ?_
      refine V_aload_n (i := 0) C dX5_count_21 rfl rfl ?_
      refine V_get (ci := 5) (CN := RX5) (T := TX5) (N := 26) C dX5_count_22 (by first | assumption | exact hset_s _ _ _) rfl 10 (by decide) flX5_count_30 wiX5_count_X5 (by rfl) ?_
      refine V_iload_n (i := 1) C dX5_count_25 rfl rfl ?_
      refine V_ialdK C dX5_count_26 (by first | assumption | exact hset_s _ _ _) rfl (by omega) (by decide) w9 ?_
      refine V_icmp_ge (tgt := 61) C dX5_count_27 (by decide) (fun z9 => absurd z9 (nI_ge hx (by omega))) (fun _ => ?_)
      refine V_iload_n (i := 3) C dX5_count_30 rfl rfl ?_
      refine V_aload_n (i := 0) C dX5_count_31 rfl rfl ?_
      refine V_get (ci := 5) (CN := RX5) (T := TX5) (N := 26) C dX5_count_32 (by first | assumption | exact hset_s _ _ _) rfl 13 (by decide) flX5_count_39 wiX5_count_X5 (by rfl) ?_
      refine V_iload_n (i := 1) C dX5_count_35 rfl rfl ?_
      refine V_iload C dX5_count_36 rfl ?_
      refine V_iload C dX5_count_38 rfl ?_
      refine V_callS (n := 3) C (r_cellOf) dX5_count_40 gX5_count_X5_cellOf rfl (by decide +kernel) rfl rfl (by exact Nat.le_of_ble_eq_true rfl) ⟨Nat.le_of_ble_eq_true rfl, Nat.le_of_ble_eq_true rfl⟩ ⟨Nat.le_of_ble_eq_true rfl, Nat.le_of_ble_eq_true rfl⟩ (fun v9 h9 hr9 => ?_)
      obtain ⟨rfl, z9⟩ := hr9
      have z9 := z9.symm
      subst z9
      refine V_ialdK C dX5_count_43 (by first | assumption | exact hset_s _ _ _) (by rw [cx_at _ hx]) hcl (by decide) hcc.2.1 ?_
      refine V_iload_n (i := 2) C dX5_count_44 rfl rfl ?_
      refine V_icmp_ne (tgt := 52) C dX5_count_45 (by decide) (fun c45 => ?_) (fun c45 => ?_)
      · refine V_iconst (v := 0) C dX5_count_52 (by decide) ?_
        refine V_iadd C dX5_count_53 ?_
        first | rw [nI_1] | rw [Int32.add_zero]
        refine V_istore3 C dX5_count_54 (by decide) ?_
        refine V_iinc5 (v := nI (x + 1)) C dX5_count_55 (nI_1 _) (by decide) ?_
        refine V_goto (tgt := 19) C dX5_count_58 (by decide) ?_
        first
          | exact V_wk (by simp [lle, ← Nat.add_assoc, cntN, c45]) (ih2 _ _ ⟨rfl, rfl⟩)
      · refine V_iconst (v := 1) C dX5_count_48 (by decide) ?_
        refine V_goto (tgt := 53) C dX5_count_49 (by decide) ?_
        refine V_iadd C dX5_count_53 ?_
        first | rw [nI_1] | rw [Int32.add_zero]
        refine V_istore3 C dX5_count_54 (by decide) ?_
        refine V_iinc5 (v := nI (x + 1)) C dX5_count_55 (nI_1 _) (by decide) ?_
        refine V_goto (tgt := 19) C dX5_count_58 (by decide) ?_
        first
          | exact V_wk (by simp [lle, ← Nat.add_assoc, cntN, c45]) (ih2 _ _ ⟨rfl, rfl⟩)
    · rintro h2 ls2 ⟨z9, rfl⟩
      have z9 := z9.symm
      subst z9
      refine V_iload C dX5_count_19 rfl ?_
      refine V_aload_n (i := 0) C dX5_count_21 rfl rfl ?_
      refine V_get (ci := 5) (CN := RX5) (T := TX5) (N := 26) C dX5_count_22 (by first | assumption | exact hset_s _ _ _) rfl 10 (by decide) flX5_count_30 wiX5_count_X5 (by rfl) ?_
      refine V_iload_n (i := 1) C dX5_count_25 rfl rfl ?_
      refine V_ialdK C dX5_count_26 (by first | assumption | exact hset_s _ _ _) rfl (by omega) (by decide) w9 ?_
      refine V_icmp_ge (tgt := 61) C dX5_count_27 (by decide) (fun _ => ?_) (fun z9 => absurd (nI_le (Nat.le_refl _) (by omega)) z9)
      refine V_iinc4 (v := nI (y + 1)) C dX5_count_61 (nI_1 _) (by decide) ?_
      refine V_goto (tgt := 5) C dX5_count_64 (by decide) ?_
      exact V_wk (by simp [lle, Nat.add_mul]) (ih _ _ ⟨rfl, rfl⟩)
  · rintro h2 ls2 ⟨z9, rfl⟩
    have z9 := z9.symm
    subst z9
    refine V_iload C dX5_count_5 rfl ?_
    refine V_aload_n (i := 0) C dX5_count_7 rfl rfl ?_
    refine V_get (ci := 5) (CN := RX5) (T := TX5) (N := 26) C dX5_count_8 (by first | assumption | exact hset_s _ _ _) rfl 11 (by decide) flX5_count_33 wiX5_count_X5 (by rfl) ?_
    refine V_iload_n (i := 1) C dX5_count_11 rfl rfl ?_
    refine V_ialdK C dX5_count_12 (by first | assumption | exact hset_s _ _ _) rfl (by omega) (by decide) g9 ?_
    refine V_icmp_ge (tgt := 67) C dX5_count_13 (by decide) (fun _ => ?_) (fun z9 => absurd (nI_le (Nat.le_refl _) (by omega)) z9)
    refine V_iload_n (i := 3) C dX5_count_67 rfl rfl ?_
    exact V_iret C dX5_count_68 hr ⟨by rw [Nat.mul_comm (xhg X p)], rfl⟩ (by exact Nat.le_of_ble_eq_true rfl) (by exact Nat.le_of_ble_eq_true rfl)
def cntT (ls : List Nat) : Nat → Nat
  | 0 => 0
  | n + 1 => cntT ls n + if n ∈ ls then 1 else 0
theorem cntT_le (ls : List Nat) (n : Nat) : cntT ls n ≤ n := by
  induction n with
  | zero => exact Nat.le_refl _
  | succ n ih =>
    unfold cntT
    split <;> omega
theorem cntT_cons {a : Nat} {ls : List Nat} (ha : a ∉ ls) (n : Nat) : cntT (a :: ls) n = cntT ls n + if a < n then 1 else 0 := by
  induction n with
  | zero => rfl
  | succ n ih =>
    unfold cntT
    rw [ih]
    by_cases h1 : n = a
    · subst h1
      simp [ha]
    · by_cases h2 : n ∈ ls
      · by_cases h3 : a < n
        · simp [h1, h2, h3, show a < n + 1 by omega]
        · simp [h1, h2, h3, show ¬ a < n + 1 by omega]
      · by_cases h3 : a < n
        · simp [h1, h2, h3, show a < n + 1 by omega]
        · simp [h1, h2, h3, show ¬ a < n + 1 by omega]
theorem cntT_len : ∀ {ls : List Nat}, ls.Nodup → ∀ n, (∀ a, a ∈ ls → a < n) → cntT ls n = ls.length
  | [], _, n, _ => by
    induction n with
    | zero => rfl
    | succ n ih =>
      unfold cntT
      rw [ih (fun a h => by cases h)]
      rfl
  | a :: ls, hn, n, h => by
    have h1 := List.nodup_cons.mp hn
    rw [cntT_cons h1.1, cntT_len h1.2 n (fun b hb => h b (List.mem_cons_of_mem _ hb)), if_pos (h a List.mem_cons_self)]
    rfl
set_option maxHeartbeats 4000000 in
set_option maxRecDepth 100000 in
theorem r_onTray (r : MR cA A I F n h) {c : Nat} (hc : c < 3) {d : Rw} (hrr : PRr I c d) (hl : ∀ b, b ∈ rtr d → b < 12) : Mt l D cA bs yX5_onTray wsX5_onTray (rmk 0 0 0) [.ref (A 0), .int (nI c)] h (fun v h2 => v = some (.int (nI (rtr d).length)) ∧ h2 = h) := by
  have m0 := r.m0
  have m24 := r.m24
  have hx : ∀ j, (12 : Int32) * nI c + nI j = nI (12 * c + j) := fun j => by
    rw [show (12 : Int32) = nI 12 from rfl, pk_mul, nI_add]
  refine Mt_of (cc := cX5_onTray) (maxL := 4) (ret := (some .int)) (own := RX5) [some (.ref (A 0)), some (.int (nI c)), none, none] rfl (by decide +kernel) rfl rfl (by exact Nat.le_of_ble_eq_true rfl) rfl ?_
  intro p9 e9 s9 m9 args9 below9 meth9 c9 C hr hnm
  refine V_iconst (v := 0) C dX5_onTray_0 (by decide) ?_
  refine V_istore2 C dX5_onTray_1 (by decide) ?_
  refine V_iconst (v := 0) C dX5_onTray_2 (by decide) ?_
  refine V_istore3 C dX5_onTray_3 (by decide) ?_
  refine V_for 12 (fun j h2 ls2 => h2 = h ∧ ls2 = [some (.ref (A 0)), some (.int (nI c)), some (.int (nI (cntT (rtr d) j))), some (.int (nI j))]) ?_ ?_ 0 (by decide) ⟨rfl, rfl⟩
  · rintro j h2 ls2 hj ⟨z9, rfl⟩ ih
    have z9 := z9.symm
    subst z9
    refine V_iload_n (i := 3) C dX5_onTray_4 rfl rfl ?_
    refine V_bipush (v := 12) C dX5_onTray_5 (by decide) ?_
    refine V_icmp_ge (tgt := 38) C dX5_onTray_7 (by decide) (fun z9 => absurd z9 (nI_ge (b := 12) hj (by decide))) (fun _ => ?_)
    refine V_iload_n (i := 2) C dX5_onTray_10 rfl rfl ?_
    refine V_aload_n (i := 0) C dX5_onTray_11 rfl rfl ?_
    refine V_get (ci := 5) (CN := RX5) (T := TX5) (N := 26) C dX5_onTray_12 (by first | assumption | exact hset_s _ _ _) rfl 24 (by decide) flX5_onTray_72 wiX5_onTray_X5 (by rfl) ?_
    refine V_bipush (v := 12) C dX5_onTray_15 (by decide) ?_
    refine V_iload_n (i := 1) C dX5_onTray_17 rfl rfl ?_
    refine V_imul C dX5_onTray_18 ?_
    refine V_iload_n (i := 3) C dX5_onTray_19 rfl rfl ?_
    refine V_iadd C dX5_onTray_20 ?_
    refine V_zaldK C dX5_onTray_21 (by first | assumption | exact hset_s _ _ _) (hx j) (by omega) (by decide) (hrr.2.2.2.2.2.1 j hj) ?_
    refine V_if_eq (tgt := 29) C dX5_onTray_22 (by decide) (fun c22 => ?_) (fun c22 => ?_)
    · have c22 := ite0.mp c22
      refine V_iconst (v := 0) C dX5_onTray_29 (by decide) ?_
      refine V_iadd C dX5_onTray_30 ?_
      first | rw [nI_1] | rw [Int32.add_zero]
      refine V_istore2 C dX5_onTray_31 (by decide) ?_
      refine V_iinc3 (v := nI (j + 1)) C dX5_onTray_32 (nI_1 _) (by decide) ?_
      refine V_goto (tgt := 4) C dX5_onTray_35 (by decide) ?_
      exact V_wk (by simp [lle, cntT, c22]) (ih _ _ ⟨rfl, rfl⟩)
    · have c22 := Classical.not_not.mp (fun z => c22 (ite0.mpr z))
      refine V_iconst (v := 1) C dX5_onTray_25 (by decide) ?_
      refine V_goto (tgt := 30) C dX5_onTray_26 (by decide) ?_
      refine V_iadd C dX5_onTray_30 ?_
      first | rw [nI_1] | rw [Int32.add_zero]
      refine V_istore2 C dX5_onTray_31 (by decide) ?_
      refine V_iinc3 (v := nI (j + 1)) C dX5_onTray_32 (nI_1 _) (by decide) ?_
      refine V_goto (tgt := 4) C dX5_onTray_35 (by decide) ?_
      exact V_wk (by simp [lle, cntT, c22]) (ih _ _ ⟨rfl, rfl⟩)
  · rintro h2 ls2 ⟨z9, rfl⟩
    have z9 := z9.symm
    subst z9
    refine V_iload_n (i := 3) C dX5_onTray_4 rfl rfl ?_
    refine V_bipush (v := 12) C dX5_onTray_5 (by decide) ?_
    refine V_icmp_ge (tgt := 38) C dX5_onTray_7 (by decide) (fun _ => ?_) (fun z9 => absurd (by decide) z9)
    refine V_iload_n (i := 2) C dX5_onTray_38 rfl rfl ?_
    exact V_iret C dX5_onTray_39 hr ⟨by rw [cntT_len hrr.2.2.2.2.2.2 12 hl], rfl⟩ (by exact Nat.le_of_ble_eq_true rfl) (by exact Nat.le_of_ble_eq_true rfl)
set_option maxHeartbeats 4000000 in
set_option maxRecDepth 100000 in
theorem r_toneOf (r : MR cA A I F (mnn X th) h) (hI : CI M X) (hP : PR X I F) {p k : Nat} (hp : p < xnp X) (hk : k < xN X p) (h0 : (xg X p k).1 ≠ 0) : Mt l D cA bs yX5_toneOf wsX5_toneOf (rmk 0 0 0) [.ref (A 0), .int (nI (cx (xwd X p) p k))] h (fun v h2 => v = some (.float (stn (xlo X) (xg X p k))) ∧ h2 = h) := by
  have m0 := r.m0
  have m3 := r.m3
  have m12 := r.m12
  have m13 := r.m13
  have m14 := r.m14
  have hd := hI.1.1
  have hnp := hd.2.1
  obtain ⟨⟨w1, w2⟩, g1, g2⟩ := hd.2.2 p hp
  have hcc := hP.2.2.2.1 p hp k hk
  have hcl := cx_lt (p := p) w1 w2 g2 (by omega) hk
  have hok := (hI.2.1 p hp k hk).1
  have hnl := hd.1
  rcases hb : clt (xg X p k) with _ | b
  · have h3 : (xg X p k).1 = 3 := by
      rcases hok with ⟨z | z, -⟩ | ⟨-, b, hb2⟩
      · exact absurd z h0
      · exact z
      · rw [hb] at hb2; cases hb2
    refine Mt_of (cc := cX5_toneOf) (maxL := 2) (ret := (some .float)) (own := RX5) [some (.ref (A 0)), some (.int (nI (cx (xwd X p) p k)))] rfl (by decide +kernel) rfl rfl (by exact Nat.le_of_ble_eq_true rfl) rfl ?_
    intro p9 e9 s9 m9 args9 below9 meth9 c9 C hr hnm
    refine V_aload_n (i := 0) C dX5_toneOf_0 rfl rfl ?_
    refine V_get (ci := 5) (CN := RX5) (T := TX5) (N := 26) C dX5_toneOf_1 (by first | assumption | exact hset_s _ _ _) rfl 13 (by decide) flX5_toneOf_39 wiX5_toneOf_X5 (by rfl) ?_
    refine V_iload_n (i := 1) C dX5_toneOf_4 rfl rfl ?_
    refine V_ialdK C dX5_toneOf_5 (by first | assumption | exact hset_s _ _ _) rfl hcl (by decide) hcc.2.1 ?_
    refine V_iconst (v := 3) C dX5_toneOf_6 (by decide) ?_
    refine V_icmp_ne (tgt := 20) C dX5_toneOf_7 (by decide) (fun z9 => absurd h3 z9) (fun _ => ?_)
    refine V_aload_n (i := 0) C dX5_toneOf_10 rfl rfl ?_
    refine V_get (ci := 5) (CN := RX5) (T := TX5) (N := 26) C dX5_toneOf_11 (by first | assumption | exact hset_s _ _ _) rfl 12 (by decide) flX5_toneOf_36 wiX5_toneOf_X5 (by rfl) ?_
    refine V_iload_n (i := 1) C dX5_toneOf_14 rfl rfl ?_
    refine V_ialdK C dX5_toneOf_15 (by first | assumption | exact hset_s _ _ _) rfl hcl (by decide) hcc.1 ?_
    refine V_i2f C dX5_toneOf_16 ?_
    refine V_goto (tgt := 31) C dX5_toneOf_17 (by decide) ?_
    exact V_fret C dX5_toneOf_31 hr ⟨by unfold stn; rw [hb], rfl⟩ (by exact Nat.le_of_ble_eq_true rfl) (by exact Nat.le_of_ble_eq_true rfl)
  · have h3 : ¬ (xg X p k).1 = 3 := by
      rcases hok with ⟨-, z⟩ | ⟨z | z, -⟩
      · rw [hb] at z; cases z
      · rw [z]; decide
      · rw [z]; decide
    have hbl := ((hI.1.2.1 p hp).1 k hk).1 b hb
    have hlc := hcc.2.2.1
    rw [hb] at hlc
    refine Mt_of (cc := cX5_toneOf) (maxL := 2) (ret := (some .float)) (own := RX5) [some (.ref (A 0)), some (.int (nI (cx (xwd X p) p k)))] rfl (by decide +kernel) rfl rfl (by exact Nat.le_of_ble_eq_true rfl) rfl ?_
    intro p9 e9 s9 m9 args9 below9 meth9 c9 C hr hnm
    refine V_aload_n (i := 0) C dX5_toneOf_0 rfl rfl ?_
    refine V_get (ci := 5) (CN := RX5) (T := TX5) (N := 26) C dX5_toneOf_1 (by first | assumption | exact hset_s _ _ _) rfl 13 (by decide) flX5_toneOf_39 wiX5_toneOf_X5 (by rfl) ?_
    refine V_iload_n (i := 1) C dX5_toneOf_4 rfl rfl ?_
    refine V_ialdK C dX5_toneOf_5 (by first | assumption | exact hset_s _ _ _) rfl hcl (by decide) hcc.2.1 ?_
    refine V_iconst (v := 3) C dX5_toneOf_6 (by decide) ?_
    refine V_icmp_ne (tgt := 20) C dX5_toneOf_7 (by decide) (fun _ => ?_) (fun z9 => absurd z9 h3)
    refine V_aload_n (i := 0) C dX5_toneOf_20 rfl rfl ?_
    refine V_get (ci := 5) (CN := RX5) (T := TX5) (N := 26) C dX5_toneOf_21 (by first | assumption | exact hset_s _ _ _) rfl 3 (by decide) flX5_toneOf_7 wiX5_toneOf_X5 (by rfl) ?_
    refine V_aload_n (i := 0) C dX5_toneOf_24 rfl rfl ?_
    refine V_get (ci := 5) (CN := RX5) (T := TX5) (N := 26) C dX5_toneOf_25 (by first | assumption | exact hset_s _ _ _) rfl 14 (by decide) flX5_toneOf_42 wiX5_toneOf_X5 (by rfl) ?_
    refine V_iload_n (i := 1) C dX5_toneOf_28 rfl rfl ?_
    refine V_ialdK C dX5_toneOf_29 (by first | assumption | exact hset_s _ _ _) rfl hcl (by decide) hlc ?_
    refine V_faldK C dX5_toneOf_30 (by first | assumption | exact hset_s _ _ _) rfl (by omega) (by decide) (hP.1 b hbl).1 ?_
    exact V_fret C dX5_toneOf_31 hr ⟨by unfold stn; rw [hb], rfl⟩ (by exact Nat.le_of_ble_eq_true rfl) (by exact Nat.le_of_ble_eq_true rfl)
set_option maxHeartbeats 4000000 in
set_option maxRecDepth 100000 in
theorem r_apart (r : MR cA A I F (mnn X th) h) (hI : CI M X) (hP : PR X I F) {p j k : Nat} (hp : p < xnp X) (hj : j < xN X p) (hk : k < xN X p) : Mt l D cA bs yX5_apart wsX5_apart (rmk 1 0 0) [.ref (A 0), .int (nI (cx (xwd X p) p j)), .int (nI (cx (xwd X p) p k))] h (fun v h2 => v = some (.float (edg (xlo X) (xg X p j) (xg X p k))) ∧ h2 = h) := by
  have m0 := r.m0
  have m12 := r.m12
  have m13 := r.m13
  have hd := hI.1.1
  have hnp := hd.2.1
  obtain ⟨⟨w1, w2⟩, g1, g2⟩ := hd.2.2 p hp
  have hcj := hP.2.2.2.1 p hp j hj
  have hck := hP.2.2.2.1 p hp k hk
  have hlj := cx_lt (p := p) w1 w2 g2 (by omega) hj
  have hlk := cx_lt (p := p) w1 w2 g2 (by omega) hk
  have s1 := stn_fp hI hp hj
  have s2 := stn_fp hI hp hk
  have u1 := wn_fp (hI.1.2.1 p hp) hj
  have u2 := wn_fp (hI.1.2.1 p hp) hk
  have d1 := fb_sub (C := 510) s1.1 s2.1 (by decide) (by decide)
  have d2 := fb_sub (C := 510) u1.1 u2.1 (by decide) (by decide)
  have n1 := fb_n32 d1
  have n2 := fb_n32 d2
  have n3 := fb_n32 (fb_sub (C := 1020) d1 d2 (by decide) (by decide))
  refine Mt_of (cc := cX5_apart) (maxL := 3) (ret := (some .float)) (own := RX5) [some (.ref (A 0)), some (.int (nI (cx (xwd X p) p j))), some (.int (nI (cx (xwd X p) p k)))] rfl (by decide +kernel) rfl rfl (by exact Nat.le_of_ble_eq_true rfl) rfl ?_
  intro p9 e9 s9 m9 args9 below9 meth9 c9 C hr hnm
  refine V_aload_n (i := 0) C dX5_apart_0 rfl rfl ?_
  refine V_get (ci := 5) (CN := RX5) (T := TX5) (N := 26) C dX5_apart_1 (by first | assumption | exact hset_s _ _ _) rfl 13 (by decide) flX5_apart_39 wiX5_apart_X5 (by rfl) ?_
  refine V_iload_n (i := 1) C dX5_apart_4 rfl rfl ?_
  refine V_ialdK C dX5_apart_5 (by first | assumption | exact hset_s _ _ _) rfl hlj (by decide) hcj.2.1 ?_
  refine V_if_eq (tgt := 18) C dX5_apart_6 (by decide) (fun c6 => ?_) (fun c6 => ?_)
  · have c6 : (xg X p j).1 = 0 := c6
    refine V_fconst0 C dX5_apart_18 ?_
    exact V_fret C dX5_apart_19 hr ⟨by simp [edg, c6], rfl⟩ (by exact Nat.le_of_ble_eq_true rfl) (by exact Nat.le_of_ble_eq_true rfl)
  · have c6 : ¬ (xg X p j).1 = 0 := c6
    refine V_aload_n (i := 0) C dX5_apart_9 rfl rfl ?_
    refine V_get (ci := 5) (CN := RX5) (T := TX5) (N := 26) C dX5_apart_10 (by first | assumption | exact hset_s _ _ _) rfl 13 (by decide) flX5_apart_39 wiX5_apart_X5 (by rfl) ?_
    refine V_iload_n (i := 2) C dX5_apart_13 rfl rfl ?_
    refine V_ialdK C dX5_apart_14 (by first | assumption | exact hset_s _ _ _) rfl hlk (by decide) hck.2.1 ?_
    refine V_if_ne (tgt := 20) C dX5_apart_15 (by decide) (fun c15 => ?_) (fun c15 => ?_)
    · have c15 : ¬ (xg X p k).1 = 0 := c15
      refine V_aload_n (i := 0) C dX5_apart_20 rfl rfl ?_
      refine V_iload_n (i := 1) C dX5_apart_21 rfl rfl ?_
      refine V_callV (n := 1) C (r_toneOf r hI hP hp hj c6) dX5_apart_22 gX5_apart_X5_toneOf rfl (by first | assumption | exact hset_s _ _ _) rfl (by decide +kernel) rfl rfl (by exact Nat.le_of_ble_eq_true rfl) ⟨Nat.le_of_ble_eq_true rfl, Nat.le_of_ble_eq_true rfl⟩ ⟨Nat.le_of_ble_eq_true rfl, Nat.le_of_ble_eq_true rfl⟩ (fun v9 h9 hr9 => ?_)
      obtain ⟨rfl, z9⟩ := hr9
      have z9 := z9.symm
      subst z9
      refine V_aload_n (i := 0) C dX5_apart_25 rfl rfl ?_
      refine V_iload_n (i := 2) C dX5_apart_26 rfl rfl ?_
      refine V_callV (n := 1) C (r_toneOf r hI hP hp hk c15) dX5_apart_27 gX5_apart_X5_toneOf rfl (by first | assumption | exact hset_s _ _ _) rfl (by decide +kernel) rfl rfl (by exact Nat.le_of_ble_eq_true rfl) ⟨Nat.le_of_ble_eq_true rfl, Nat.le_of_ble_eq_true rfl⟩ ⟨Nat.le_of_ble_eq_true rfl, Nat.le_of_ble_eq_true rfl⟩ (fun v9 h9 hr9 => ?_)
      obtain ⟨rfl, z9⟩ := hr9
      have z9 := z9.symm
      subst z9
      refine V_fsub C dX5_apart_30 (by assumption) ?_
      refine V_aload_n (i := 0) C dX5_apart_31 rfl rfl ?_
      refine V_get (ci := 5) (CN := RX5) (T := TX5) (N := 26) C dX5_apart_32 (by first | assumption | exact hset_s _ _ _) rfl 12 (by decide) flX5_apart_36 wiX5_apart_X5 (by rfl) ?_
      refine V_iload_n (i := 1) C dX5_apart_35 rfl rfl ?_
      refine V_ialdK C dX5_apart_36 (by first | assumption | exact hset_s _ _ _) rfl hlj (by decide) hcj.1 ?_
      refine V_i2f C dX5_apart_37 ?_
      refine V_aload_n (i := 0) C dX5_apart_38 rfl rfl ?_
      refine V_get (ci := 5) (CN := RX5) (T := TX5) (N := 26) C dX5_apart_39 (by first | assumption | exact hset_s _ _ _) rfl 12 (by decide) flX5_apart_36 wiX5_apart_X5 (by rfl) ?_
      refine V_iload_n (i := 2) C dX5_apart_42 rfl rfl ?_
      refine V_ialdK C dX5_apart_43 (by first | assumption | exact hset_s _ _ _) rfl hlk (by decide) hck.1 ?_
      refine V_i2f C dX5_apart_44 ?_
      refine V_fsub C dX5_apart_45 (by assumption) ?_
      refine V_fsub C dX5_apart_46 (by assumption) ?_
      refine V_callS (n := 1) C (r_size) dX5_apart_47 gX5_apart_X5_size rfl (by decide +kernel) rfl rfl (by exact Nat.le_of_ble_eq_true rfl) ⟨Nat.le_of_ble_eq_true rfl, Nat.le_of_ble_eq_true rfl⟩ ⟨Nat.le_of_ble_eq_true rfl, Nat.le_of_ble_eq_true rfl⟩ (fun v9 h9 hr9 => ?_)
      obtain ⟨rfl, z9⟩ := hr9
      have z9 := z9.symm
      subst z9
      exact V_fret C dX5_apart_50 hr ⟨by unfold edg; rw [if_neg (by rintro (z | z) <;> contradiction)], rfl⟩ (by exact Nat.le_of_ble_eq_true rfl) (by exact Nat.le_of_ble_eq_true rfl)
    · have c15 : (xg X p k).1 = 0 := c15
      refine V_fconst0 C dX5_apart_18 ?_
      exact V_fret C dX5_apart_19 hr ⟨by simp [edg, c6, c15], rfl⟩ (by exact Nat.le_of_ble_eq_true rfl) (by exact Nat.le_of_ble_eq_true rfl)
set_option maxHeartbeats 4000000 in
set_option maxRecDepth 100000 in
theorem r_isDry (r : MR cA A I F (mnn X th) h) (hI : CI M X) (hM : M < 2 ^ 30) (hP : PR X I F) {p y : Nat} (hp : p < xnp X) (hy : y < xhg X p) : Mt l D cA bs yX5_isDry wsX5_isDry (rmk 1 0 0) [.ref (A 0), .int (nI p), .int (nI y)] h (fun v h2 => v = some (.int (if dryB (xg X p) (ltS (xg X p) y (xwd X p) (xwd X p)) (xnw X) = true then 1 else 0)) ∧ h2 = h) := by
  have m0 := r.m0
  have m10 := r.m10
  have m13 := r.m13
  have m16 := r.m16
  have m17 := r.m17
  have hd := hI.1.1
  have hnp := hd.2.1
  obtain ⟨⟨w1, w2⟩, g1, g2⟩ := hd.2.2 p hp
  obtain ⟨w9, g9⟩ := hP.2.2.1 p hp
  obtain ⟨mm, hmm, hnw⟩ := hI.2.2.2.2
  refine Mt_of (cc := cX5_isDry) (maxL := 7) (ret := (some .boolean)) (own := RX5) [some (.ref (A 0)), some (.int (nI p)), some (.int (nI y)), none, none, none, none] rfl (by decide +kernel) rfl rfl (by exact Nat.le_of_ble_eq_true rfl) rfl ?_
  intro p9 e9 s9 m9 args9 below9 meth9 c9 C hr hnm
  refine V_iconst (v := (-1)) C dX5_isDry_0 (by decide) ?_
  refine V_istore3 C dX5_isDry_1 (by decide) ?_
  refine V_iconst (v := (-1)) C dX5_isDry_2 (by decide) ?_
  refine V_istore4 C dX5_isDry_3 (by decide) ?_
  refine V_iconst (v := 0) C dX5_isDry_5 (by decide) ?_
  refine V_istore5 C dX5_isDry_6 (by decide) ?_
  refine V_for (xwd X p) (fun x h2 ls2 => h2 = h ∧ ls2 = [some (.ref (A 0)), some (.int (nI p)), some (.int (nI y)), some (.int (match ltS (xg X p) y (xwd X p) x with | none => -1 | some j => cla (xg X p j))), some (.int (match ltS (xg X p) y (xwd X p) x with | none => -1 | some j => cdr (xg X p j))), some (.int (nI x)), none]) ?_ ?_ 0 (Nat.zero_le _) ⟨rfl, rfl⟩
  · rintro x h2 ls2 hx ⟨z9, rfl⟩ ih
    have z9 := z9.symm
    subst z9
    have hk := at_lt hx hy
    have hcc := hP.2.2.2.1 p hp _ hk
    have hcl := cx_lt (p := p) w1 w2 g2 (by omega) hk
    have hok := (hI.2.1 p hp _ hk).2.2
    refine V_iload C dX5_isDry_8 rfl ?_
    refine V_aload_n (i := 0) C dX5_isDry_10 rfl rfl ?_
    refine V_get (ci := 5) (CN := RX5) (T := TX5) (N := 26) C dX5_isDry_11 (by first | assumption | exact hset_s _ _ _) rfl 10 (by decide) flX5_isDry_30 wiX5_isDry_X5 (by rfl) ?_
    refine V_iload_n (i := 1) C dX5_isDry_14 rfl rfl ?_
    refine V_ialdK C dX5_isDry_15 (by first | assumption | exact hset_s _ _ _) rfl (by omega) (by decide) w9 ?_
    refine V_icmp_ge (tgt := 81) C dX5_isDry_16 (by decide) (fun z9 => absurd z9 (nI_ge hx (by omega))) (fun _ => ?_)
    refine V_iload_n (i := 1) C dX5_isDry_19 rfl rfl ?_
    refine V_iload C dX5_isDry_20 rfl ?_
    refine V_iload_n (i := 2) C dX5_isDry_22 rfl rfl ?_
    refine V_callS (n := 3) C (r_cellOf) dX5_isDry_23 gX5_isDry_X5_cellOf rfl (by decide +kernel) rfl rfl (by exact Nat.le_of_ble_eq_true rfl) ⟨Nat.le_of_ble_eq_true rfl, Nat.le_of_ble_eq_true rfl⟩ ⟨Nat.le_of_ble_eq_true rfl, Nat.le_of_ble_eq_true rfl⟩ (fun v9 h9 hr9 => ?_)
    obtain ⟨rfl, z9⟩ := hr9
    have z9 := z9.symm
    subst z9
    rw [← cx_at p hx]
    refine V_istore6 C dX5_isDry_26 (by decide) ?_
    refine V_aload_n (i := 0) C dX5_isDry_28 rfl rfl ?_
    refine V_get (ci := 5) (CN := RX5) (T := TX5) (N := 26) C dX5_isDry_29 (by first | assumption | exact hset_s _ _ _) rfl 13 (by decide) flX5_isDry_39 wiX5_isDry_X5 (by rfl) ?_
    refine V_iload C dX5_isDry_32 rfl ?_
    refine V_ialdK C dX5_isDry_34 (by first | assumption | exact hset_s _ _ _) rfl hcl (by decide) hcc.2.1 ?_
    refine V_iconst (v := 2) C dX5_isDry_35 (by decide) ?_
    refine V_icmp_ne (tgt := 75) C dX5_isDry_36 (by decide) (fun c36 => ?_) (fun c36 => ?_)
    · have c36 : ¬ (xg X p (y * xwd X p + x)).1 = 2 := c36
      have e9 : ltS (xg X p) y (xwd X p) (x + 1) = ltS (xg X p) y (xwd X p) x := if_neg (fun z => c36 z.1)
      refine V_iinc5 (v := nI (x + 1)) C dX5_isDry_75 (nI_1 _) (by decide) ?_
      refine V_goto (tgt := 8) C dX5_isDry_78 (by decide) ?_
      exact V_wk (by rw [e9]; simp [lle]) (ih _ _ ⟨rfl, rfl⟩)
    · have c36 : (xg X p (y * xwd X p + x)).1 = 2 := c36
      have h16 := hcc.2.2.2.2.1
      rw [if_pos c36] at h16
      have h17 := hcc.2.2.2.2.2 c36
      refine V_aload_n (i := 0) C dX5_isDry_39 rfl rfl ?_
      refine V_get (ci := 5) (CN := RX5) (T := TX5) (N := 26) C dX5_isDry_40 (by first | assumption | exact hset_s _ _ _) rfl 16 (by decide) flX5_isDry_48 wiX5_isDry_X5 (by rfl) ?_
      refine V_iload C dX5_isDry_43 rfl ?_
      refine V_ialdK C dX5_isDry_45 (by first | assumption | exact hset_s _ _ _) rfl hcl (by decide) h16 ?_
      refine V_iload_n (i := 3) C dX5_isDry_46 rfl rfl ?_
      refine V_icmp_lt (tgt := 75) C dX5_isDry_47 (by decide) (fun c47 => ?_) (fun c47 => ?_)
      · have e9 : ltS (xg X p) y (xwd X p) (x + 1) = ltS (xg X p) y (xwd X p) x := by
          refine if_neg (fun z => ?_)
          cases hb : ltS (xg X p) y (xwd X p) x with
          | none =>
            rw [hb] at c47
            obtain ⟨u, hu, hcu⟩ := hok c36
            rw [hcu] at c47
            have c47 : nI u < -1 := c47
            have h5 := Int32.lt_iff_toInt_lt.mp c47
            rw [nI_toInt hu] at h5
            have : ((-1 : Int32)).toInt = -1 := by decide
            omega
          | some j =>
            rw [hb] at c47
            exact Int32.not_lt.mpr (z.2 j hb) c47
        refine V_iinc5 (v := nI (x + 1)) C dX5_isDry_75 (nI_1 _) (by decide) ?_
        refine V_goto (tgt := 8) C dX5_isDry_78 (by decide) ?_
        exact V_wk (by rw [e9]; simp [lle]) (ih _ _ ⟨rfl, rfl⟩)
      · have e9 : ltS (xg X p) y (xwd X p) (x + 1) = some (y * xwd X p + x) := by
          refine if_pos ⟨c36, fun j hj => ?_⟩
          rw [hj] at c47
          exact Int32.not_lt.mp c47
        refine V_aload_n (i := 0) C dX5_isDry_50 rfl rfl ?_
        refine V_get (ci := 5) (CN := RX5) (T := TX5) (N := 26) C dX5_isDry_51 (by first | assumption | exact hset_s _ _ _) rfl 16 (by decide) flX5_isDry_48 wiX5_isDry_X5 (by rfl) ?_
        refine V_iload C dX5_isDry_54 rfl ?_
        refine V_ialdK C dX5_isDry_56 (by first | assumption | exact hset_s _ _ _) rfl hcl (by decide) h16 ?_
        refine V_istore3 C dX5_isDry_57 (by decide) ?_
        refine V_aload_n (i := 0) C dX5_isDry_58 rfl rfl ?_
        refine V_get (ci := 5) (CN := RX5) (T := TX5) (N := 26) C dX5_isDry_59 (by first | assumption | exact hset_s _ _ _) rfl 16 (by decide) flX5_isDry_48 wiX5_isDry_X5 (by rfl) ?_
        refine V_iload C dX5_isDry_62 rfl ?_
        refine V_ialdK C dX5_isDry_64 (by first | assumption | exact hset_s _ _ _) rfl hcl (by decide) rfl ?_
        refine V_aload_n (i := 0) C dX5_isDry_65 rfl rfl ?_
        refine V_get (ci := 5) (CN := RX5) (T := TX5) (N := 26) C dX5_isDry_66 (by first | assumption | exact hset_s _ _ _) rfl 17 (by decide) flX5_isDry_51 wiX5_isDry_X5 (by rfl) ?_
        refine V_iload C dX5_isDry_69 rfl ?_
        refine V_ialdK C dX5_isDry_71 (by first | assumption | exact hset_s _ _ _) rfl hcl (by decide) rfl ?_
        refine V_iadd C dX5_isDry_72 ?_
        rw [h17]
        refine V_istore4 C dX5_isDry_73 (by decide) ?_
        refine V_iinc5 (v := nI (x + 1)) C dX5_isDry_75 (nI_1 _) (by decide) ?_
        refine V_goto (tgt := 8) C dX5_isDry_78 (by decide) ?_
        exact V_wk (by rw [e9]; simp [lle]) (ih _ _ ⟨rfl, rfl⟩)
  · rintro h2 ls2 ⟨z9, rfl⟩
    have z9 := z9.symm
    subst z9
    cases hb : ltS (xg X p) y (xwd X p) (xwd X p) with
    | none =>
      have c87 : ¬ xnw X < -1 := by
        rw [hnw]
        intro z
        have h5 := Int32.lt_iff_toInt_lt.mp z
        rw [nI_toInt (by omega)] at h5
        have : ((-1 : Int32)).toInt = -1 := by decide
        omega
      refine V_iload C dX5_isDry_8 rfl ?_
      refine V_aload_n (i := 0) C dX5_isDry_10 rfl rfl ?_
      refine V_get (ci := 5) (CN := RX5) (T := TX5) (N := 26) C dX5_isDry_11 (by first | assumption | exact hset_s _ _ _) rfl 10 (by decide) flX5_isDry_30 wiX5_isDry_X5 (by rfl) ?_
      refine V_iload_n (i := 1) C dX5_isDry_14 rfl rfl ?_
      refine V_ialdK C dX5_isDry_15 (by first | assumption | exact hset_s _ _ _) rfl (by omega) (by decide) w9 ?_
      refine V_icmp_ge (tgt := 81) C dX5_isDry_16 (by decide) (fun _ => ?_) (fun z9 => absurd (nI_le (Nat.le_refl _) (by omega)) z9)
      refine V_aload_n (i := 0) C dX5_isDry_81 rfl rfl ?_
      refine V_get (ci := 5) (CN := RX5) (T := TX5) (N := 26) C dX5_isDry_82 (by first | assumption | exact hset_s _ _ _) rfl 1 (by decide) flX5_isDry_150 wiX5_isDry_X5 (by rfl) ?_
      refine V_iload C dX5_isDry_85 rfl ?_
      refine V_icmp_lt (tgt := 94) C dX5_isDry_87 (by decide) (fun z9 => absurd z9 c87) (fun _ => ?_)
      refine V_iconst (v := 1) C dX5_isDry_90 (by decide) ?_
      refine V_goto (tgt := 95) C dX5_isDry_91 (by decide) ?_
      exact V_zret C dX5_isDry_95 hr (by rfl) ⟨rfl, rfl⟩ (by exact Nat.le_of_ble_eq_true rfl) (by exact Nat.le_of_ble_eq_true rfl)
    | some j =>
      refine V_iload C dX5_isDry_8 rfl ?_
      refine V_aload_n (i := 0) C dX5_isDry_10 rfl rfl ?_
      refine V_get (ci := 5) (CN := RX5) (T := TX5) (N := 26) C dX5_isDry_11 (by first | assumption | exact hset_s _ _ _) rfl 10 (by decide) flX5_isDry_30 wiX5_isDry_X5 (by rfl) ?_
      refine V_iload_n (i := 1) C dX5_isDry_14 rfl rfl ?_
      refine V_ialdK C dX5_isDry_15 (by first | assumption | exact hset_s _ _ _) rfl (by omega) (by decide) w9 ?_
      refine V_icmp_ge (tgt := 81) C dX5_isDry_16 (by decide) (fun _ => ?_) (fun z9 => absurd (nI_le (Nat.le_refl _) (by omega)) z9)
      refine V_aload_n (i := 0) C dX5_isDry_81 rfl rfl ?_
      refine V_get (ci := 5) (CN := RX5) (T := TX5) (N := 26) C dX5_isDry_82 (by first | assumption | exact hset_s _ _ _) rfl 1 (by decide) flX5_isDry_150 wiX5_isDry_X5 (by rfl) ?_
      refine V_iload C dX5_isDry_85 rfl ?_
      refine V_icmp_lt (tgt := 94) C dX5_isDry_87 (by decide) (fun c87 => ?_) (fun c87 => ?_)
      · have e9 : ¬ dryB (xg X p) (some j) (xnw X) = true := fun z => Int32.not_le.mpr c87 (of_decide_eq_true z)
        refine V_iconst (v := 0) C dX5_isDry_94 (by decide) ?_
        exact V_zret C dX5_isDry_95 hr (by rfl) ⟨by first | rw [if_pos e9] | rw [if_neg e9], rfl⟩ (by exact Nat.le_of_ble_eq_true rfl) (by exact Nat.le_of_ble_eq_true rfl)
      · have e9 : dryB (xg X p) (some j) (xnw X) = true := decide_eq_true (Int32.not_lt.mp c87)
        refine V_iconst (v := 1) C dX5_isDry_90 (by decide) ?_
        refine V_goto (tgt := 95) C dX5_isDry_91 (by decide) ?_
        exact V_zret C dX5_isDry_95 hr (by rfl) ⟨by first | rw [if_pos e9] | rw [if_neg e9], rfl⟩ (by exact Nat.le_of_ble_eq_true rfl) (by exact Nat.le_of_ble_eq_true rfl)
end LEAF2
