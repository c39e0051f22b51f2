/-! the reference's constructor -/
def mfd (A : Nat → Nat) (lim j : Nat) : Value := if j < lim then .ref (A j) else .null
def modF (A : Nat → Nat) (lim : Nat) : List Value := [.int 0, .int 0, .int 0, mfd A lim 3, mfd A lim 4, mfd A lim 5, mfd A lim 6, mfd A lim 7, mfd A lim 8, .int 0, mfd A lim 10, mfd A lim 11, mfd A lim 12, mfd A lim 13, mfd A lim 14, mfd A lim 15, mfd A lim 16, mfd A lim 17, mfd A lim 18, mfd A lim 19, mfd A lim 20, mfd A lim 21, mfd A lim 22, mfd A lim 23, mfd A lim 24, mfd A lim 25]
/-- the reference's rows made so far -/
def mkM (cA : Nat → ClassId) (h h1 : hE) (q lim : Nat) : Prop := ∃ A : Nat → Nat, A 0 = q ∧ h1 q = some (.inr (5, modF A lim)) ∧ (∀ j, mvd j → 0 < j → j < lim → h1 (A j) = some (marr cA j (fun _ => 0) (fun _ => 0)) ∧ h (A j) = none) ∧ (∀ i j, mvd i → mvd j → 0 < i → 0 < j → i < lim → j < lim → A i = A j → i = j) ∧ hmore h h1 q
section MINIT
variable {l : Launch} {D : va_G} {cA : Nat → ClassId} {bs : Nat} {h h1 : hE}
theorem marr_inl {j : Nat} {f : Nat → Int32} {g : Nat → UInt32} : ∃ u, marr cA j f g = .inl u := by
  unfold marr
  split
  · exact ⟨_, rfl⟩
  · exact ⟨_, rfl⟩
theorem mkM.s {q lim lim' j a : Nat} {A : Nat → Nat} (hA : A 0 = q) (m1 : h1 q = some (.inr (5, modF A lim))) (m2 : ∀ j, mvd j → 0 < j → j < lim → h1 (A j) = some (marr cA j (fun _ => 0) (fun _ => 0)) ∧ h (A j) = none) (m3 : ∀ i j, mvd i → mvd j → 0 < i → 0 < j → i < lim → j < lim → A i = A j → i = j) (m4 : hmore h h1 q) (ha : h1 a = none) (hj : 0 < j) (hjl : ¬ j < lim) (hl : ∀ i, mvd i → 0 < i → i < lim' → i < lim ∨ i = j) (hs : (modF A lim).set j (.ref a) = modF (fset A j a) lim') : mkM cA h (hset (hset h1 a (marr cA j (fun _ => 0) (fun _ => 0))) q (.inr (5, (modF A lim).set j (.ref a)))) q lim' := by
  have haq : q ≠ a := fun z => by rw [← z, m1] at ha; cases ha
  have ha0 : h a = none := m4.no ha ⟨_, m1⟩
  have hq : ∀ i, mvd i → 0 < i → i < lim → A i ≠ q ∧ A i ≠ a := fun i h1 h2 h3 => by
    have h4 := (m2 i h1 h2 h3).1
    refine ⟨fun z => ?_, fun z => ?_⟩
    · obtain ⟨u, hu⟩ := marr_inl (cA := cA) (j := i) (f := fun _ => 0) (g := fun _ => 0)
      rw [z, m1, hu] at h4
      cases h4
    · rw [z, ha] at h4
      cases h4
  refine ⟨fset A j a, (fset_n (by omega)).trans hA, (hset_s _ _ _).trans (by rw [hs]), fun i i1 i2 i3 => ?_, fun i k i1 k1 i2 k2 i3 k3 he => ?_, (m4.put ha0).own⟩
  · by_cases hij : i = j
    · subst hij
      rw [fset_s]
      exact ⟨by rw [hset_n (Ne.symm haq), hset_s], ha0⟩
    · have hil := (hl i i1 i2 i3).resolve_right hij
      rw [fset_n hij]
      obtain ⟨u1, u2⟩ := hq i i1 i2 hil
      exact ⟨by rw [hset_n u1, hset_n u2]; exact (m2 i i1 i2 hil).1, (m2 i i1 i2 hil).2⟩
  · by_cases hij : i = j <;> by_cases hkj : k = j
    · omega
    · subst hij
      rw [fset_s, fset_n hkj] at he
      exact absurd he.symm (hq k k1 k2 ((hl k k1 k2 k3).resolve_right hkj)).2
    · subst hkj
      rw [fset_s, fset_n hij] at he
      exact absurd he (hq i i1 i2 ((hl i i1 i2 i3).resolve_right hij)).2
    · rw [fset_n hij, fset_n hkj] at he
      exact m3 i k i1 k1 i2 k2 ((hl i i1 i2 i3).resolve_right hij) ((hl k k1 k2 k3).resolve_right hkj) he
theorem MW00 {A : Nat → Nat} {f g d : Nat → Int32} (r : MR cA A (fset (fset (fset (fun _ _ => 0) 20 f) 21 g) 22 d) (fun _ _ => 0) (mnn X00 0) h) (hf : ∀ j, j < 3 → f j = -1 ∧ g j = 1 ∧ d j = 1) : MW cA A X00 0 h := by
  refine ⟨_, _, r, fun k hk => absurd hk (Nat.not_lt_zero k), fun k _ _ => ⟨rfl, rfl⟩, fun k hk => absurd hk (Nat.not_lt_zero k), fun k hk => absurd hk (Nat.not_lt_zero k), fun c _ z => absurd rfl z, fun c _ _ => rfl, fun c hc => ?_⟩
  obtain ⟨h1, h2, h3⟩ := hf c hc
  exact ⟨h1, h2, h3, rfl, rfl, fun j _ => rfl, List.nodup_nil⟩
set_option maxHeartbeats 8000000 in
set_option maxRecDepth 100000 in
theorem r_init {q : Nat} (hq : h q = some (.inr (5, modF (fun _ => q) 3))) : Ms l D cA bs SZr yX5_init wsX5_init (rmk 1 22 2181) [.ref q] h (fun v h2 => v = none ∧ (∃ A, A 0 = q ∧ MW cA A X00 0 h2) ∧ hmore h h2 q) := by
  refine Ms_of (cc := cX5_init) (maxL := 2) (ret := (none)) (own := RX5) [some (.ref q), none] rfl (by decide +kernel) rfl rfl (by exact Nat.le_of_ble_eq_true rfl) rfl ?_
  intro p9 e9 s9 m9 args9 below9 meth9 c9 C hr hnm hsz
  refine V_pt (fun h1 => mkM cA h h1 q 3) ⟨fun _ => q, rfl, hq, fun j hm h0 hj => absurd hj (by unfold mvd at hm; omega), fun i j hm _ h0 _ hi => absurd hi (by unfold mvd at hm; omega), hmore.rf⟩ (fun h1 hh1 => ?_)
  obtain ⟨A, e0, e1, e2, e3, e4⟩ := hh1
  refine V_aload_n (i := 0) C dX5_init_0 rfl rfl ?_
  refine V_objInit C dX5_init_1 (by decide +kernel) (by decide +kernel) (by decide +kernel) (by exact Nat.le_of_ble_eq_true rfl) (by exact Nat.le_of_ble_eq_true rfl) ?_
  refine V_aload_n (i := 0) C dX5_init_4 rfl rfl ?_
  refine V_bipush (v := 12) C dX5_init_5 (by decide) ?_
  refine V_newa (atype := .float) (ty := .float) (t0 := 1) (N2 := 12) (a0 := (12, .inr (.inr (.inl (fun _ => 0))))) C dX5_init_7 (by decide +kernel) rfl rfl (fun _ => rfl) (by decide) rfl (by exact Nat.le_of_ble_eq_true rfl) (by exact Nat.le_of_ble_eq_true rfl) (by exact Nat.le_of_ble_eq_true rfl) (fun b9 hb9 bb9 => ?_)
  have hbq : q ≠ b9 := fun z => by rw [← z, e1] at hb9; cases hb9
  refine V_putF (ci := 5) (CN := RX5) (T := TX5) (N := 26) (ty := (tyX5 3)) C dX5_init_9 ((hset_n hbq).trans e1) rfl tyX5 tyX5_ok nmX5 3 (by decide) flX5_init_7 wiX5_init_X5 rfl hnm rfl (tyX5_ok 3 (by decide)) (by rfl) (by rfl) (by exact Nat.le_of_ble_eq_true rfl) ?_
  refine V_pt (fun h1 => mkM cA h h1 q 4) (mkM.s (j := 3) e0 e1 e2 e3 e4 hb9 (by decide) (by decide) (fun i i1 i2 i3 => by unfold mvd at i1; omega) rfl) (fun h1 hh1 => ?_)
  obtain ⟨A, e0, e1, e2, e3, e4⟩ := hh1
  refine V_aload_n (i := 0) C dX5_init_12 rfl rfl ?_
  refine V_bipush (v := 12) C dX5_init_13 (by decide) ?_
  refine V_newa (atype := .int) (ty := .int) (t0 := 0) (N2 := 12) (a0 := (12, .inl (fun _ => 0))) C dX5_init_15 (by decide +kernel) rfl rfl (fun _ => rfl) (by decide) rfl (by exact Nat.le_of_ble_eq_true rfl) (by exact Nat.le_of_ble_eq_true rfl) (by exact Nat.le_of_ble_eq_true rfl) (fun b9 hb9 bb9 => ?_)
  have hbq : q ≠ b9 := fun z => by rw [← z, e1] at hb9; cases hb9
  refine V_putF (ci := 5) (CN := RX5) (T := TX5) (N := 26) (ty := (tyX5 4)) C dX5_init_17 ((hset_n hbq).trans e1) rfl tyX5 tyX5_ok nmX5 4 (by decide) flX5_init_13 wiX5_init_X5 rfl hnm rfl (tyX5_ok 4 (by decide)) (by rfl) (by rfl) (by exact Nat.le_of_ble_eq_true rfl) ?_
  refine V_pt (fun h1 => mkM cA h h1 q 5) (mkM.s (j := 4) e0 e1 e2 e3 e4 hb9 (by decide) (by decide) (fun i i1 i2 i3 => by unfold mvd at i1; omega) rfl) (fun h1 hh1 => ?_)
  obtain ⟨A, e0, e1, e2, e3, e4⟩ := hh1
  refine V_aload_n (i := 0) C dX5_init_20 rfl rfl ?_
  refine V_bipush (v := 12) C dX5_init_21 (by decide) ?_
  refine V_newa (atype := .int) (ty := .int) (t0 := 0) (N2 := 12) (a0 := (12, .inl (fun _ => 0))) C dX5_init_23 (by decide +kernel) rfl rfl (fun _ => rfl) (by decide) rfl (by exact Nat.le_of_ble_eq_true rfl) (by exact Nat.le_of_ble_eq_true rfl) (by exact Nat.le_of_ble_eq_true rfl) (fun b9 hb9 bb9 => ?_)
  have hbq : q ≠ b9 := fun z => by rw [← z, e1] at hb9; cases hb9
  refine V_putF (ci := 5) (CN := RX5) (T := TX5) (N := 26) (ty := (tyX5 5)) C dX5_init_25 ((hset_n hbq).trans e1) rfl tyX5 tyX5_ok nmX5 5 (by decide) flX5_init_17 wiX5_init_X5 rfl hnm rfl (tyX5_ok 5 (by decide)) (by rfl) (by rfl) (by exact Nat.le_of_ble_eq_true rfl) ?_
  refine V_pt (fun h1 => mkM cA h h1 q 6) (mkM.s (j := 5) e0 e1 e2 e3 e4 hb9 (by decide) (by decide) (fun i i1 i2 i3 => by unfold mvd at i1; omega) rfl) (fun h1 hh1 => ?_)
  obtain ⟨A, e0, e1, e2, e3, e4⟩ := hh1
  refine V_aload_n (i := 0) C dX5_init_28 rfl rfl ?_
  refine V_bipush (v := 12) C dX5_init_29 (by decide) ?_
  refine V_newa (atype := .boolean) (ty := .boolean) (t0 := 2) (N2 := 12) (a0 := (12, .inl (fun _ => 0))) C dX5_init_31 (by decide +kernel) rfl rfl (fun _ => rfl) (by decide) rfl (by exact Nat.le_of_ble_eq_true rfl) (by exact Nat.le_of_ble_eq_true rfl) (by exact Nat.le_of_ble_eq_true rfl) (fun b9 hb9 bb9 => ?_)
  have hbq : q ≠ b9 := fun z => by rw [← z, e1] at hb9; cases hb9
  refine V_putF (ci := 5) (CN := RX5) (T := TX5) (N := 26) (ty := (tyX5 6)) C dX5_init_33 ((hset_n hbq).trans e1) rfl tyX5 tyX5_ok nmX5 6 (by decide) flX5_init_20 wiX5_init_X5 rfl hnm rfl (tyX5_ok 6 (by decide)) (by rfl) (by rfl) (by exact Nat.le_of_ble_eq_true rfl) ?_
  refine V_pt (fun h1 => mkM cA h h1 q 7) (mkM.s (j := 6) e0 e1 e2 e3 e4 hb9 (by decide) (by decide) (fun i i1 i2 i3 => by unfold mvd at i1; omega) rfl) (fun h1 hh1 => ?_)
  obtain ⟨A, e0, e1, e2, e3, e4⟩ := hh1
  refine V_aload_n (i := 0) C dX5_init_36 rfl rfl ?_
  refine V_bipush (v := 12) C dX5_init_37 (by decide) ?_
  refine V_newa (atype := .int) (ty := .int) (t0 := 0) (N2 := 12) (a0 := (12, .inl (fun _ => 0))) C dX5_init_39 (by decide +kernel) rfl rfl (fun _ => rfl) (by decide) rfl (by exact Nat.le_of_ble_eq_true rfl) (by exact Nat.le_of_ble_eq_true rfl) (by exact Nat.le_of_ble_eq_true rfl) (fun b9 hb9 bb9 => ?_)
  have hbq : q ≠ b9 := fun z => by rw [← z, e1] at hb9; cases hb9
  refine V_putF (ci := 5) (CN := RX5) (T := TX5) (N := 26) (ty := (tyX5 7)) C dX5_init_41 ((hset_n hbq).trans e1) rfl tyX5 tyX5_ok nmX5 7 (by decide) flX5_init_24 wiX5_init_X5 rfl hnm rfl (tyX5_ok 7 (by decide)) (by rfl) (by rfl) (by exact Nat.le_of_ble_eq_true rfl) ?_
  refine V_pt (fun h1 => mkM cA h h1 q 8) (mkM.s (j := 7) e0 e1 e2 e3 e4 hb9 (by decide) (by decide) (fun i i1 i2 i3 => by unfold mvd at i1; omega) rfl) (fun h1 hh1 => ?_)
  obtain ⟨A, e0, e1, e2, e3, e4⟩ := hh1
  refine V_aload_n (i := 0) C dX5_init_44 rfl rfl ?_
  refine V_bipush (v := 12) C dX5_init_45 (by decide) ?_
  refine V_newa (atype := .int) (ty := .int) (t0 := 0) (N2 := 12) (a0 := (12, .inl (fun _ => 0))) C dX5_init_47 (by decide +kernel) rfl rfl (fun _ => rfl) (by decide) rfl (by exact Nat.le_of_ble_eq_true rfl) (by exact Nat.le_of_ble_eq_true rfl) (by exact Nat.le_of_ble_eq_true rfl) (fun b9 hb9 bb9 => ?_)
  have hbq : q ≠ b9 := fun z => by rw [← z, e1] at hb9; cases hb9
  refine V_putF (ci := 5) (CN := RX5) (T := TX5) (N := 26) (ty := (tyX5 8)) C dX5_init_49 ((hset_n hbq).trans e1) rfl tyX5 tyX5_ok nmX5 8 (by decide) flX5_init_27 wiX5_init_X5 rfl hnm rfl (tyX5_ok 8 (by decide)) (by rfl) (by rfl) (by exact Nat.le_of_ble_eq_true rfl) ?_
  refine V_pt (fun h1 => mkM cA h h1 q 9) (mkM.s (j := 8) e0 e1 e2 e3 e4 hb9 (by decide) (by decide) (fun i i1 i2 i3 => by unfold mvd at i1; omega) rfl) (fun h1 hh1 => ?_)
  obtain ⟨A, e0, e1, e2, e3, e4⟩ := hh1
  refine V_aload_n (i := 0) C dX5_init_52 rfl rfl ?_
  refine V_iconst (v := 5) C dX5_init_53 (by decide) ?_
  refine V_newa (atype := .int) (ty := .int) (t0 := 0) (N2 := 5) (a0 := (5, .inl (fun _ => 0))) C dX5_init_54 (by decide +kernel) rfl rfl (fun _ => rfl) (by decide) rfl (by exact Nat.le_of_ble_eq_true rfl) (by exact Nat.le_of_ble_eq_true rfl) (by exact Nat.le_of_ble_eq_true rfl) (fun b9 hb9 bb9 => ?_)
  have hbq : q ≠ b9 := fun z => by rw [← z, e1] at hb9; cases hb9
  refine V_putF (ci := 5) (CN := RX5) (T := TX5) (N := 26) (ty := (tyX5 10)) C dX5_init_56 ((hset_n hbq).trans e1) rfl tyX5 tyX5_ok nmX5 10 (by decide) flX5_init_30 wiX5_init_X5 rfl hnm rfl (tyX5_ok 10 (by decide)) (by rfl) (by rfl) (by exact Nat.le_of_ble_eq_true rfl) ?_
  refine V_pt (fun h1 => mkM cA h h1 q 11) (mkM.s (j := 10) e0 e1 e2 e3 e4 hb9 (by decide) (by decide) (fun i i1 i2 i3 => by unfold mvd at i1; omega) rfl) (fun h1 hh1 => ?_)
  obtain ⟨A, e0, e1, e2, e3, e4⟩ := hh1
  refine V_aload_n (i := 0) C dX5_init_59 rfl rfl ?_
  refine V_iconst (v := 5) C dX5_init_60 (by decide) ?_
  refine V_newa (atype := .int) (ty := .int) (t0 := 0) (N2 := 5) (a0 := (5, .inl (fun _ => 0))) C dX5_init_61 (by decide +kernel) rfl rfl (fun _ => rfl) (by decide) rfl (by exact Nat.le_of_ble_eq_true rfl) (by exact Nat.le_of_ble_eq_true rfl) (by exact Nat.le_of_ble_eq_true rfl) (fun b9 hb9 bb9 => ?_)
  have hbq : q ≠ b9 := fun z => by rw [← z, e1] at hb9; cases hb9
  refine V_putF (ci := 5) (CN := RX5) (T := TX5) (N := 26) (ty := (tyX5 11)) C dX5_init_63 ((hset_n hbq).trans e1) rfl tyX5 tyX5_ok nmX5 11 (by decide) flX5_init_33 wiX5_init_X5 rfl hnm rfl (tyX5_ok 11 (by decide)) (by rfl) (by rfl) (by exact Nat.le_of_ble_eq_true rfl) ?_
  refine V_pt (fun h1 => mkM cA h h1 q 12) (mkM.s (j := 11) e0 e1 e2 e3 e4 hb9 (by decide) (by decide) (fun i i1 i2 i3 => by unfold mvd at i1; omega) rfl) (fun h1 hh1 => ?_)
  obtain ⟨A, e0, e1, e2, e3, e4⟩ := hh1
  refine V_aload_n (i := 0) C dX5_init_66 rfl rfl ?_
  refine V_sipush (v := 320) C dX5_init_67 (by decide) ?_
  refine V_newa (atype := .int) (ty := .int) (t0 := 0) (N2 := 320) (a0 := (320, .inl (fun _ => 0))) C dX5_init_70 (by decide +kernel) rfl rfl (fun _ => rfl) (by decide) rfl (by exact Nat.le_of_ble_eq_true rfl) (by exact Nat.le_of_ble_eq_true rfl) (by exact Nat.le_of_ble_eq_true rfl) (fun b9 hb9 bb9 => ?_)
  have hbq : q ≠ b9 := fun z => by rw [← z, e1] at hb9; cases hb9
  refine V_putF (ci := 5) (CN := RX5) (T := TX5) (N := 26) (ty := (tyX5 12)) C dX5_init_72 ((hset_n hbq).trans e1) rfl tyX5 tyX5_ok nmX5 12 (by decide) flX5_init_36 wiX5_init_X5 rfl hnm rfl (tyX5_ok 12 (by decide)) (by rfl) (by rfl) (by exact Nat.le_of_ble_eq_true rfl) ?_
  refine V_pt (fun h1 => mkM cA h h1 q 13) (mkM.s (j := 12) e0 e1 e2 e3 e4 hb9 (by decide) (by decide) (fun i i1 i2 i3 => by unfold mvd at i1; omega) rfl) (fun h1 hh1 => ?_)
  obtain ⟨A, e0, e1, e2, e3, e4⟩ := hh1
  refine V_aload_n (i := 0) C dX5_init_75 rfl rfl ?_
  refine V_sipush (v := 320) C dX5_init_76 (by decide) ?_
  refine V_newa (atype := .int) (ty := .int) (t0 := 0) (N2 := 320) (a0 := (320, .inl (fun _ => 0))) C dX5_init_79 (by decide +kernel) rfl rfl (fun _ => rfl) (by decide) rfl (by exact Nat.le_of_ble_eq_true rfl) (by exact Nat.le_of_ble_eq_true rfl) (by exact Nat.le_of_ble_eq_true rfl) (fun b9 hb9 bb9 => ?_)
  have hbq : q ≠ b9 := fun z => by rw [← z, e1] at hb9; cases hb9
  refine V_putF (ci := 5) (CN := RX5) (T := TX5) (N := 26) (ty := (tyX5 13)) C dX5_init_81 ((hset_n hbq).trans e1) rfl tyX5 tyX5_ok nmX5 13 (by decide) flX5_init_39 wiX5_init_X5 rfl hnm rfl (tyX5_ok 13 (by decide)) (by rfl) (by rfl) (by exact Nat.le_of_ble_eq_true rfl) ?_
  refine V_pt (fun h1 => mkM cA h h1 q 14) (mkM.s (j := 13) e0 e1 e2 e3 e4 hb9 (by decide) (by decide) (fun i i1 i2 i3 => by unfold mvd at i1; omega) rfl) (fun h1 hh1 => ?_)
  obtain ⟨A, e0, e1, e2, e3, e4⟩ := hh1
  refine V_aload_n (i := 0) C dX5_init_84 rfl rfl ?_
  refine V_sipush (v := 320) C dX5_init_85 (by decide) ?_
  refine V_newa (atype := .int) (ty := .int) (t0 := 0) (N2 := 320) (a0 := (320, .inl (fun _ => 0))) C dX5_init_88 (by decide +kernel) rfl rfl (fun _ => rfl) (by decide) rfl (by exact Nat.le_of_ble_eq_true rfl) (by exact Nat.le_of_ble_eq_true rfl) (by exact Nat.le_of_ble_eq_true rfl) (fun b9 hb9 bb9 => ?_)
  have hbq : q ≠ b9 := fun z => by rw [← z, e1] at hb9; cases hb9
  refine V_putF (ci := 5) (CN := RX5) (T := TX5) (N := 26) (ty := (tyX5 14)) C dX5_init_90 ((hset_n hbq).trans e1) rfl tyX5 tyX5_ok nmX5 14 (by decide) flX5_init_42 wiX5_init_X5 rfl hnm rfl (tyX5_ok 14 (by decide)) (by rfl) (by rfl) (by exact Nat.le_of_ble_eq_true rfl) ?_
  refine V_pt (fun h1 => mkM cA h h1 q 15) (mkM.s (j := 14) e0 e1 e2 e3 e4 hb9 (by decide) (by decide) (fun i i1 i2 i3 => by unfold mvd at i1; omega) rfl) (fun h1 hh1 => ?_)
  obtain ⟨A, e0, e1, e2, e3, e4⟩ := hh1
  refine V_aload_n (i := 0) C dX5_init_93 rfl rfl ?_
  refine V_sipush (v := 320) C dX5_init_94 (by decide) ?_
  refine V_newa (atype := .float) (ty := .float) (t0 := 1) (N2 := 320) (a0 := (320, .inr (.inr (.inl (fun _ => 0))))) C dX5_init_97 (by decide +kernel) rfl rfl (fun _ => rfl) (by decide) rfl (by exact Nat.le_of_ble_eq_true rfl) (by exact Nat.le_of_ble_eq_true rfl) (by exact Nat.le_of_ble_eq_true rfl) (fun b9 hb9 bb9 => ?_)
  have hbq : q ≠ b9 := fun z => by rw [← z, e1] at hb9; cases hb9
  refine V_putF (ci := 5) (CN := RX5) (T := TX5) (N := 26) (ty := (tyX5 15)) C dX5_init_99 ((hset_n hbq).trans e1) rfl tyX5 tyX5_ok nmX5 15 (by decide) flX5_init_45 wiX5_init_X5 rfl hnm rfl (tyX5_ok 15 (by decide)) (by rfl) (by rfl) (by exact Nat.le_of_ble_eq_true rfl) ?_
  refine V_pt (fun h1 => mkM cA h h1 q 16) (mkM.s (j := 15) e0 e1 e2 e3 e4 hb9 (by decide) (by decide) (fun i i1 i2 i3 => by unfold mvd at i1; omega) rfl) (fun h1 hh1 => ?_)
  obtain ⟨A, e0, e1, e2, e3, e4⟩ := hh1
  refine V_aload_n (i := 0) C dX5_init_102 rfl rfl ?_
  refine V_sipush (v := 320) C dX5_init_103 (by decide) ?_
  refine V_newa (atype := .int) (ty := .int) (t0 := 0) (N2 := 320) (a0 := (320, .inl (fun _ => 0))) C dX5_init_106 (by decide +kernel) rfl rfl (fun _ => rfl) (by decide) rfl (by exact Nat.le_of_ble_eq_true rfl) (by exact Nat.le_of_ble_eq_true rfl) (by exact Nat.le_of_ble_eq_true rfl) (fun b9 hb9 bb9 => ?_)
  have hbq : q ≠ b9 := fun z => by rw [← z, e1] at hb9; cases hb9
  refine V_putF (ci := 5) (CN := RX5) (T := TX5) (N := 26) (ty := (tyX5 16)) C dX5_init_108 ((hset_n hbq).trans e1) rfl tyX5 tyX5_ok nmX5 16 (by decide) flX5_init_48 wiX5_init_X5 rfl hnm rfl (tyX5_ok 16 (by decide)) (by rfl) (by rfl) (by exact Nat.le_of_ble_eq_true rfl) ?_
  refine V_pt (fun h1 => mkM cA h h1 q 17) (mkM.s (j := 16) e0 e1 e2 e3 e4 hb9 (by decide) (by decide) (fun i i1 i2 i3 => by unfold mvd at i1; omega) rfl) (fun h1 hh1 => ?_)
  obtain ⟨A, e0, e1, e2, e3, e4⟩ := hh1
  refine V_aload_n (i := 0) C dX5_init_111 rfl rfl ?_
  refine V_sipush (v := 320) C dX5_init_112 (by decide) ?_
  refine V_newa (atype := .int) (ty := .int) (t0 := 0) (N2 := 320) (a0 := (320, .inl (fun _ => 0))) C dX5_init_115 (by decide +kernel) rfl rfl (fun _ => rfl) (by decide) rfl (by exact Nat.le_of_ble_eq_true rfl) (by exact Nat.le_of_ble_eq_true rfl) (by exact Nat.le_of_ble_eq_true rfl) (fun b9 hb9 bb9 => ?_)
  have hbq : q ≠ b9 := fun z => by rw [← z, e1] at hb9; cases hb9
  refine V_putF (ci := 5) (CN := RX5) (T := TX5) (N := 26) (ty := (tyX5 17)) C dX5_init_117 ((hset_n hbq).trans e1) rfl tyX5 tyX5_ok nmX5 17 (by decide) flX5_init_51 wiX5_init_X5 rfl hnm rfl (tyX5_ok 17 (by decide)) (by rfl) (by rfl) (by exact Nat.le_of_ble_eq_true rfl) ?_
  refine V_pt (fun h1 => mkM cA h h1 q 18) (mkM.s (j := 17) e0 e1 e2 e3 e4 hb9 (by decide) (by decide) (fun i i1 i2 i3 => by unfold mvd at i1; omega) rfl) (fun h1 hh1 => ?_)
  obtain ⟨A, e0, e1, e2, e3, e4⟩ := hh1
  refine V_aload_n (i := 0) C dX5_init_120 rfl rfl ?_
  refine V_bipush (v := 64) C dX5_init_121 (by decide) ?_
  refine V_newa (atype := .float) (ty := .float) (t0 := 1) (N2 := 64) (a0 := (64, .inr (.inr (.inl (fun _ => 0))))) C dX5_init_123 (by decide +kernel) rfl rfl (fun _ => rfl) (by decide) rfl (by exact Nat.le_of_ble_eq_true rfl) (by exact Nat.le_of_ble_eq_true rfl) (by exact Nat.le_of_ble_eq_true rfl) (fun b9 hb9 bb9 => ?_)
  have hbq : q ≠ b9 := fun z => by rw [← z, e1] at hb9; cases hb9
  refine V_putF (ci := 5) (CN := RX5) (T := TX5) (N := 26) (ty := (tyX5 18)) C dX5_init_125 ((hset_n hbq).trans e1) rfl tyX5 tyX5_ok nmX5 18 (by decide) flX5_init_54 wiX5_init_X5 rfl hnm rfl (tyX5_ok 18 (by decide)) (by rfl) (by rfl) (by exact Nat.le_of_ble_eq_true rfl) ?_
  refine V_pt (fun h1 => mkM cA h h1 q 19) (mkM.s (j := 18) e0 e1 e2 e3 e4 hb9 (by decide) (by decide) (fun i i1 i2 i3 => by unfold mvd at i1; omega) rfl) (fun h1 hh1 => ?_)
  obtain ⟨A, e0, e1, e2, e3, e4⟩ := hh1
  refine V_aload_n (i := 0) C dX5_init_128 rfl rfl ?_
  refine V_bipush (v := 64) C dX5_init_129 (by decide) ?_
  refine V_newa (atype := .int) (ty := .int) (t0 := 0) (N2 := 64) (a0 := (64, .inl (fun _ => 0))) C dX5_init_131 (by decide +kernel) rfl rfl (fun _ => rfl) (by decide) rfl (by exact Nat.le_of_ble_eq_true rfl) (by exact Nat.le_of_ble_eq_true rfl) (by exact Nat.le_of_ble_eq_true rfl) (fun b9 hb9 bb9 => ?_)
  have hbq : q ≠ b9 := fun z => by rw [← z, e1] at hb9; cases hb9
  refine V_putF (ci := 5) (CN := RX5) (T := TX5) (N := 26) (ty := (tyX5 19)) C dX5_init_133 ((hset_n hbq).trans e1) rfl tyX5 tyX5_ok nmX5 19 (by decide) flX5_init_57 wiX5_init_X5 rfl hnm rfl (tyX5_ok 19 (by decide)) (by rfl) (by rfl) (by exact Nat.le_of_ble_eq_true rfl) ?_
  refine V_pt (fun h1 => mkM cA h h1 q 20) (mkM.s (j := 19) e0 e1 e2 e3 e4 hb9 (by decide) (by decide) (fun i i1 i2 i3 => by unfold mvd at i1; omega) rfl) (fun h1 hh1 => ?_)
  obtain ⟨A, e0, e1, e2, e3, e4⟩ := hh1
  refine V_aload_n (i := 0) C dX5_init_136 rfl rfl ?_
  refine V_iconst (v := 3) C dX5_init_137 (by decide) ?_
  refine V_newa (atype := .int) (ty := .int) (t0 := 0) (N2 := 3) (a0 := (3, .inl (fun _ => 0))) C dX5_init_138 (by decide +kernel) rfl rfl (fun _ => rfl) (by decide) rfl (by exact Nat.le_of_ble_eq_true rfl) (by exact Nat.le_of_ble_eq_true rfl) (by exact Nat.le_of_ble_eq_true rfl) (fun b9 hb9 bb9 => ?_)
  have hbq : q ≠ b9 := fun z => by rw [← z, e1] at hb9; cases hb9
  refine V_putF (ci := 5) (CN := RX5) (T := TX5) (N := 26) (ty := (tyX5 20)) C dX5_init_140 ((hset_n hbq).trans e1) rfl tyX5 tyX5_ok nmX5 20 (by decide) flX5_init_60 wiX5_init_X5 rfl hnm rfl (tyX5_ok 20 (by decide)) (by rfl) (by rfl) (by exact Nat.le_of_ble_eq_true rfl) ?_
  refine V_pt (fun h1 => mkM cA h h1 q 21) (mkM.s (j := 20) e0 e1 e2 e3 e4 hb9 (by decide) (by decide) (fun i i1 i2 i3 => by unfold mvd at i1; omega) rfl) (fun h1 hh1 => ?_)
  obtain ⟨A, e0, e1, e2, e3, e4⟩ := hh1
  refine V_aload_n (i := 0) C dX5_init_143 rfl rfl ?_
  refine V_iconst (v := 3) C dX5_init_144 (by decide) ?_
  refine V_newa (atype := .int) (ty := .int) (t0 := 0) (N2 := 3) (a0 := (3, .inl (fun _ => 0))) C dX5_init_145 (by decide +kernel) rfl rfl (fun _ => rfl) (by decide) rfl (by exact Nat.le_of_ble_eq_true rfl) (by exact Nat.le_of_ble_eq_true rfl) (by exact Nat.le_of_ble_eq_true rfl) (fun b9 hb9 bb9 => ?_)
  have hbq : q ≠ b9 := fun z => by rw [← z, e1] at hb9; cases hb9
  refine V_putF (ci := 5) (CN := RX5) (T := TX5) (N := 26) (ty := (tyX5 21)) C dX5_init_147 ((hset_n hbq).trans e1) rfl tyX5 tyX5_ok nmX5 21 (by decide) flX5_init_63 wiX5_init_X5 rfl hnm rfl (tyX5_ok 21 (by decide)) (by rfl) (by rfl) (by exact Nat.le_of_ble_eq_true rfl) ?_
  refine V_pt (fun h1 => mkM cA h h1 q 22) (mkM.s (j := 21) e0 e1 e2 e3 e4 hb9 (by decide) (by decide) (fun i i1 i2 i3 => by unfold mvd at i1; omega) rfl) (fun h1 hh1 => ?_)
  obtain ⟨A, e0, e1, e2, e3, e4⟩ := hh1
  refine V_aload_n (i := 0) C dX5_init_150 rfl rfl ?_
  refine V_iconst (v := 3) C dX5_init_151 (by decide) ?_
  refine V_newa (atype := .int) (ty := .int) (t0 := 0) (N2 := 3) (a0 := (3, .inl (fun _ => 0))) C dX5_init_152 (by decide +kernel) rfl rfl (fun _ => rfl) (by decide) rfl (by exact Nat.le_of_ble_eq_true rfl) (by exact Nat.le_of_ble_eq_true rfl) (by exact Nat.le_of_ble_eq_true rfl) (fun b9 hb9 bb9 => ?_)
  have hbq : q ≠ b9 := fun z => by rw [← z, e1] at hb9; cases hb9
  refine V_putF (ci := 5) (CN := RX5) (T := TX5) (N := 26) (ty := (tyX5 22)) C dX5_init_154 ((hset_n hbq).trans e1) rfl tyX5 tyX5_ok nmX5 22 (by decide) flX5_init_66 wiX5_init_X5 rfl hnm rfl (tyX5_ok 22 (by decide)) (by rfl) (by rfl) (by exact Nat.le_of_ble_eq_true rfl) ?_
  refine V_pt (fun h1 => mkM cA h h1 q 23) (mkM.s (j := 22) e0 e1 e2 e3 e4 hb9 (by decide) (by decide) (fun i i1 i2 i3 => by unfold mvd at i1; omega) rfl) (fun h1 hh1 => ?_)
  obtain ⟨A, e0, e1, e2, e3, e4⟩ := hh1
  refine V_aload_n (i := 0) C dX5_init_157 rfl rfl ?_
  refine V_iconst (v := 3) C dX5_init_158 (by decide) ?_
  refine V_newa (atype := .int) (ty := .int) (t0 := 0) (N2 := 3) (a0 := (3, .inl (fun _ => 0))) C dX5_init_159 (by decide +kernel) rfl rfl (fun _ => rfl) (by decide) rfl (by exact Nat.le_of_ble_eq_true rfl) (by exact Nat.le_of_ble_eq_true rfl) (by exact Nat.le_of_ble_eq_true rfl) (fun b9 hb9 bb9 => ?_)
  have hbq : q ≠ b9 := fun z => by rw [← z, e1] at hb9; cases hb9
  refine V_putF (ci := 5) (CN := RX5) (T := TX5) (N := 26) (ty := (tyX5 23)) C dX5_init_161 ((hset_n hbq).trans e1) rfl tyX5 tyX5_ok nmX5 23 (by decide) flX5_init_69 wiX5_init_X5 rfl hnm rfl (tyX5_ok 23 (by decide)) (by rfl) (by rfl) (by exact Nat.le_of_ble_eq_true rfl) ?_
  refine V_pt (fun h1 => mkM cA h h1 q 24) (mkM.s (j := 23) e0 e1 e2 e3 e4 hb9 (by decide) (by decide) (fun i i1 i2 i3 => by unfold mvd at i1; omega) rfl) (fun h1 hh1 => ?_)
  obtain ⟨A, e0, e1, e2, e3, e4⟩ := hh1
  refine V_aload_n (i := 0) C dX5_init_164 rfl rfl ?_
  refine V_bipush (v := 36) C dX5_init_165 (by decide) ?_
  refine V_newa (atype := .boolean) (ty := .boolean) (t0 := 2) (N2 := 36) (a0 := (36, .inl (fun _ => 0))) C dX5_init_167 (by decide +kernel) rfl rfl (fun _ => rfl) (by decide) rfl (by exact Nat.le_of_ble_eq_true rfl) (by exact Nat.le_of_ble_eq_true rfl) (by exact Nat.le_of_ble_eq_true rfl) (fun b9 hb9 bb9 => ?_)
  have hbq : q ≠ b9 := fun z => by rw [← z, e1] at hb9; cases hb9
  refine V_putF (ci := 5) (CN := RX5) (T := TX5) (N := 26) (ty := (tyX5 24)) C dX5_init_169 ((hset_n hbq).trans e1) rfl tyX5 tyX5_ok nmX5 24 (by decide) flX5_init_72 wiX5_init_X5 rfl hnm rfl (tyX5_ok 24 (by decide)) (by rfl) (by rfl) (by exact Nat.le_of_ble_eq_true rfl) ?_
  refine V_pt (fun h1 => mkM cA h h1 q 25) (mkM.s (j := 24) e0 e1 e2 e3 e4 hb9 (by decide) (by decide) (fun i i1 i2 i3 => by unfold mvd at i1; omega) rfl) (fun h1 hh1 => ?_)
  obtain ⟨A, e0, e1, e2, e3, e4⟩ := hh1
  refine V_aload_n (i := 0) C dX5_init_172 rfl rfl ?_
  refine V_iconst (v := 3) C dX5_init_173 (by decide) ?_
  refine V_newa (atype := .int) (ty := .int) (t0 := 0) (N2 := 3) (a0 := (3, .inl (fun _ => 0))) C dX5_init_174 (by decide +kernel) rfl rfl (fun _ => rfl) (by decide) rfl (by exact Nat.le_of_ble_eq_true rfl) (by exact Nat.le_of_ble_eq_true rfl) (by exact Nat.le_of_ble_eq_true rfl) (fun b9 hb9 bb9 => ?_)
  have hbq : q ≠ b9 := fun z => by rw [← z, e1] at hb9; cases hb9
  refine V_putF (ci := 5) (CN := RX5) (T := TX5) (N := 26) (ty := (tyX5 25)) C dX5_init_176 ((hset_n hbq).trans e1) rfl tyX5 tyX5_ok nmX5 25 (by decide) flX5_init_75 wiX5_init_X5 rfl hnm rfl (tyX5_ok 25 (by decide)) (by rfl) (by rfl) (by exact Nat.le_of_ble_eq_true rfl) ?_
  refine V_pt (fun h1 => mkM cA h h1 q 26) (mkM.s (j := 25) e0 e1 e2 e3 e4 hb9 (by decide) (by decide) (fun i i1 i2 i3 => by unfold mvd at i1; omega) rfl) (fun h1 hh1 => ?_)
  obtain ⟨A, e0, e1, e2, e3, e4⟩ := hh1
  refine V_iconst (v := 0) C dX5_init_179 (by decide) ?_
  refine V_istore1 C dX5_init_180 (by decide) ?_
  have r0 : MR cA A (fun _ _ => 0) (fun _ _ => 0) (mnn X00 0) h1 := by
    refine ⟨fun j hj => ?_, fun i j hi hj he => ?_⟩
    · rcases Nat.eq_zero_or_pos j with z | z
      · subst z
        rw [e0, e1]
        rfl
      · rw [(e2 j hj z (by unfold mvd at hj; omega)).1]
        unfold mct
        rw [if_neg (by omega)]
    · have hn : ∀ j, mvd j → 0 < j → A j ≠ A 0 := fun j hj hj0 z => by
        have h4 := (e2 j hj hj0 (by unfold mvd at hj; omega)).1
        obtain ⟨u, hu⟩ := marr_inl (cA := cA) (j := j) (f := fun _ => 0) (g := fun _ => 0)
        rw [z, e0, e1, hu] at h4
        cases h4
      rcases Nat.eq_zero_or_pos i with z | z <;> rcases Nat.eq_zero_or_pos j with y | y
      · omega
      · subst z
        exact absurd he.symm (hn j hj y)
      · subst y
        exact absurd he (hn i hi z)
      · exact e3 i j hi hj z y (by unfold mvd at hi; omega) (by unfold mvd at hj; omega) he
  have n20 : h (A 20) = none := (e2 20 (Or.inr (Or.inr ⟨by decide, by decide⟩)) (by decide) (by decide)).2
  have n21 : h (A 21) = none := (e2 21 (Or.inr (Or.inr ⟨by decide, by decide⟩)) (by decide) (by decide)).2
  have n22 : h (A 22) = none := (e2 22 (Or.inr (Or.inr ⟨by decide, by decide⟩)) (by decide) (by decide)).2
  refine V_for 3 (fun i h4 ls4 => (∃ f g d : Nat → Int32, MR cA A (fset (fset (fset (fun _ _ => 0) 20 f) 21 g) 22 d) (fun _ _ => 0) (mnn X00 0) h4 ∧ ∀ j, j < i → f j = -1 ∧ g j = 1 ∧ d j = 1) ∧ hmore h h4 q ∧ ls4 = [some (.ref q), some (.int (nI i))]) ?_ ?_ 0 (by decide) ⟨⟨fun _ => 0, fun _ => 0, fun _ => 0, by
    have z : fset (fset (fset (fun _ _ => 0 : MI) 20 (fun _ => 0)) 21 (fun _ => 0)) 22 (fun _ => 0) = fun _ _ => 0 := by
      funext a b
      unfold fset
      split
      · rfl
      · split
        · rfl
        · split <;> rfl
    rw [z]
    exact r0, fun j hj => absurd hj (Nat.not_lt_zero j)⟩, e4, rfl⟩
  · rintro i h4 ls4 hi ⟨⟨f, g, d, r4, hf⟩, k4, rfl⟩ ih
    have m0 := r4.m0
    have m20 := r4.m20
    rw [e0] at m0
    refine V_iload_n (i := 1) C dX5_init_181 rfl rfl ?_
    refine V_iconst (v := 3) C dX5_init_182 (by decide) ?_
    refine V_icmp_ge (tgt := 213) C dX5_init_183 (by decide) (fun z9 => absurd z9 (nI_ge (b := 3) hi (by decide))) (fun _ => ?_)
    refine V_aload_n (i := 0) C dX5_init_186 rfl rfl ?_
    refine V_get (ci := 5) (CN := RX5) (T := TX5) (N := 26) C dX5_init_187 (by first | assumption | exact hset_s _ _ _) rfl 20 (by decide) flX5_init_60 wiX5_init_X5 (by rfl) ?_
    refine V_iload_n (i := 1) C dX5_init_190 rfl rfl ?_
    refine V_iconst (v := (-1)) C dX5_init_191 (by decide) ?_
    refine V_iastK C dX5_init_192 (by first | assumption | exact hset_s _ _ _) rfl hi (by decide) ?_
    have r5 := r4.s20 (fset f i (-1))
    have k5 := k4.put (e := iarr (cA 0) 3 (fset f i (-1))) n20
    have m0 := r5.m0
    have m21 := r5.m21
    rw [e0] at m0
    refine V_aload_n (i := 0) C dX5_init_193 rfl rfl ?_
    refine V_get (ci := 5) (CN := RX5) (T := TX5) (N := 26) C dX5_init_194 (by first | assumption | exact hset_s _ _ _) rfl 21 (by decide) flX5_init_63 wiX5_init_X5 (by rfl) ?_
    refine V_iload_n (i := 1) C dX5_init_197 rfl rfl ?_
    refine V_iconst (v := 1) C dX5_init_198 (by decide) ?_
    refine V_iastK C dX5_init_199 (by first | assumption | exact hset_s _ _ _) rfl hi (by decide) ?_
    have r6 := r5.s21 (fset g i 1)
    have k6 := k5.put (e := iarr (cA 0) 3 (fset g i 1)) n21
    have m0 := r6.m0
    have m22 := r6.m22
    rw [e0] at m0
    refine V_aload_n (i := 0) C dX5_init_200 rfl rfl ?_
    refine V_get (ci := 5) (CN := RX5) (T := TX5) (N := 26) C dX5_init_201 (by first | assumption | exact hset_s _ _ _) rfl 22 (by decide) flX5_init_66 wiX5_init_X5 (by rfl) ?_
    refine V_iload_n (i := 1) C dX5_init_204 rfl rfl ?_
    refine V_iconst (v := 1) C dX5_init_205 (by decide) ?_
    refine V_iastK C dX5_init_206 (by first | assumption | exact hset_s _ _ _) rfl hi (by decide) ?_
    have r7 := r6.s22 (fset d i 1)
    have k7 := k6.put (e := iarr (cA 0) 3 (fset d i 1)) n22
    have eI : fset (fset (fset (fset (fset (fset (fun _ _ => 0 : MI) 20 f) 21 g) 22 d) 20 (fset f i (-1))) 21 (fset g i 1)) 22 (fset d i 1) = fset (fset (fset (fun _ _ => 0) 20 (fset f i (-1))) 21 (fset g i 1)) 22 (fset d i 1) := by
      funext a
      unfold fset
      by_cases z22 : a = 22
      · rw [if_pos z22, if_pos z22]
      · by_cases z21 : a = 21
        · rw [if_neg z22, if_pos z21, if_neg z22, if_pos z21]
        · by_cases z20 : a = 20
          · rw [if_neg z22, if_neg z21, if_pos z20, if_neg z22, if_neg z21, if_pos z20]
          · simp only [if_neg z22, if_neg z21, if_neg z20]
    rw [eI] at r7
    refine V_iinc1 (v := nI (i + 1)) C dX5_init_207 (nI_1 _) (by decide) ?_
    refine V_goto (tgt := 181) C dX5_init_210 (by decide) ?_
    exact V_wk (by simp [lle]) (ih _ _ ⟨⟨_, _, _, r7, fun j hj => by
      by_cases hji : j = i
      · subst hji; exact ⟨fset_s _ _ _, fset_s _ _ _, fset_s _ _ _⟩
      · rw [fset_n hji, fset_n hji, fset_n hji]; exact hf j (by omega)⟩, k7, rfl⟩)
  · rintro h4 ls4 ⟨⟨f, g, d, r4, hf⟩, k4, rfl⟩
    refine V_iload_n (i := 1) C dX5_init_181 rfl rfl ?_
    refine V_iconst (v := 3) C dX5_init_182 (by decide) ?_
    refine V_icmp_ge (tgt := 213) C dX5_init_183 (by decide) (fun _ => ?_) (fun z9 => absurd (nI_le (a := 3) (b := 3) (Nat.le_refl _) (by decide)) z9)
    exact V_vret C dX5_init_213 hr ⟨rfl, ⟨A, e0, MW00 r4 hf⟩, k4⟩ (by exact Nat.le_of_ble_eq_true rfl) (by exact Nat.le_of_ble_eq_true rfl)
end MINIT
