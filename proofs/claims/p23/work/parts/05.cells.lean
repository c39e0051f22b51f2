/-! TesseraeRow's objects, and the methods of Cell and Lot -/
abbrev cellO (x y k : Int32) (lt : Option Nat) (w : Int32) (am br : UInt32) (rd la dr : Int32) : va_E := .inr (0, [.int x, .int y, .int k, va_rf lt, .int w, .float am, .float br, .int rd, .int la, .int dr])
abbrev crewO (rt dr : Int32) (pc : Option Nat) (mt : Int32) (tr : Nat) (ot ld : Int32) : va_E := .inr (1, [.int rt, .int dr, va_rf pc, .int mt, .ref tr, .int ot, .int ld])
abbrev lotO (nb : Int32) (tn : UInt32) (mt th lf pr ld : Int32) : va_E := .inr (2, [.int nb, .float tn, .int mt, .int th, .int lf, .int pr, .int ld])
abbrev picO (nb w hg : Int32) (cs : Nat) : va_E := .inr (3, [.int nb, .int w, .int hg, .ref cs])
abbrev rowO (ls ps cs : Nat) (nl np nw : Int32) : va_E := .inr (4, [.ref ls, .ref ps, .ref cs, .int nl, .int np, .int nw])
abbrev qarr (c : ClassId) (n : Nat) (f : Nat → Option Nat) : va_E := .inl (c, n, .inr (.inr (.inr (.inr f))))
abbrev iarr (c : ClassId) (n : Nat) (f : Nat → Int32) : va_E := .inl (c, n, .inl f)
abbrev farr (c : ClassId) (n : Nat) (f : Nat → UInt32) : va_E := .inl (c, n, .inr (.inr (.inl f)))
theorem ne_kinds {h : hE} {a b i j : Nat} {u v : List Value} (ha : h a = some (.inr (i, u))) (hb : h b = some (.inr (j, v))) (hij : i ≠ j) : a ≠ b := by
  intro z
  subst z
  rw [ha] at hb
  cases hb
  exact hij rfl
theorem ne_arr {h : hE} {a b i : Nat} {u : List Value} {x : ClassId × vp_A} (ha : h a = some (.inr (i, u))) (hb : h b = some (.inl x)) : a ≠ b := by
  intro z
  subst z
  rw [ha] at hb
  cases hb
section CELLS
variable {l : Launch} {D : va_G} {cA : Nat → ClassId} {bs : Nat} {h : hE} {q b : Nat} {x y k w rd la dr : Int32} {lt : Option Nat} {am br : UInt32} {nb mt th lf pr ld : Int32} {tn : UInt32}
set_option maxHeartbeats 4000000 in
set_option maxRecDepth 100000 in
theorem c_isDone (hq : h q = some (cellO x y k lt w am br rd la dr)) : Mt l D cA bs yX0_isDone wsX0_isDone (rmk 0 0 0) [.ref q] h (fun v h2 => v = some (.int (if k = 2 ∨ k = 3 then 1 else 0)) ∧ h2 = h) := by
  refine Mt_of (cc := cX0_isDone) (maxL := 1) (ret := (some .boolean)) (own := RX0) [some (.ref q)] rfl (by decide +kernel) rfl rfl (by exact Nat.le_of_ble_eq_true rfl) rfl ?_
  intro p9 e9 s9 m9 args9 below9 meth9 c9 C hr hnm
  refine V_aload_n (i := 0) C dX0_isDone_0 rfl rfl ?_
  refine V_get (ci := 0) (CN := RX0) (T := TX0) (N := 10) C dX0_isDone_1 (by first | assumption | exact hset_s _ _ _) rfl 2 (by decide) flX0_isDone_9 wiX0_isDone_X0 (by rfl) ?_
  refine V_iconst (v := 2) C dX0_isDone_4 (by decide) ?_
  refine V_icmp_eq (tgt := 16) C dX0_isDone_5 (by decide) (fun c5 => ?_) (fun c5 => ?_)
  · refine V_iconst (v := 1) C dX0_isDone_16 (by decide) ?_
    refine V_goto (tgt := 21) C dX0_isDone_17 (by decide) ?_
    exact V_zret C dX0_isDone_21 hr (by rfl) ⟨by simp [c5], rfl⟩ (by exact Nat.le_of_ble_eq_true rfl) (by exact Nat.le_of_ble_eq_true rfl)
  · refine V_aload_n (i := 0) C dX0_isDone_8 rfl rfl ?_
    refine V_get (ci := 0) (CN := RX0) (T := TX0) (N := 10) C dX0_isDone_9 (by first | assumption | exact hset_s _ _ _) rfl 2 (by decide) flX0_isDone_9 wiX0_isDone_X0 (by rfl) ?_
    refine V_iconst (v := 3) C dX0_isDone_12 (by decide) ?_
    refine V_icmp_ne (tgt := 20) C dX0_isDone_13 (by decide) (fun c13 => ?_) (fun c13 => ?_)
    · refine V_iconst (v := 0) C dX0_isDone_20 (by decide) ?_
      exact V_zret C dX0_isDone_21 hr (by rfl) ⟨by simp [c5, c13], rfl⟩ (by exact Nat.le_of_ble_eq_true rfl) (by exact Nat.le_of_ble_eq_true rfl)
    · refine V_iconst (v := 1) C dX0_isDone_16 (by decide) ?_
      refine V_goto (tgt := 21) C dX0_isDone_17 (by decide) ?_
      exact V_zret C dX0_isDone_21 hr (by rfl) ⟨by simp [c5, c13], rfl⟩ (by exact Nat.le_of_ble_eq_true rfl) (by exact Nat.le_of_ble_eq_true rfl)
set_option maxHeartbeats 4000000 in
set_option maxRecDepth 100000 in
theorem c_isPromised (hq : h q = some (cellO x y k lt w am br rd la dr)) (hl : k = 1 → ∃ a, lt = some a) : Mt l D cA bs yX0_isPromised wsX0_isPromised (rmk 0 0 0) [.ref q, .ref b] h (fun v h2 => v = some (.int (if k = 1 ∧ lt = some b then 1 else 0)) ∧ h2 = h) := by
  refine Mt_of (cc := cX0_isPromised) (maxL := 2) (ret := (some .boolean)) (own := RX0) [some (.ref q), some (.ref b)] rfl (by decide +kernel) rfl rfl (by exact Nat.le_of_ble_eq_true rfl) rfl ?_
  intro p9 e9 s9 m9 args9 below9 meth9 c9 C hr hnm
  refine V_aload_n (i := 0) C dX0_isPromised_0 rfl rfl ?_
  refine V_get (ci := 0) (CN := RX0) (T := TX0) (N := 10) C dX0_isPromised_1 (by first | assumption | exact hset_s _ _ _) rfl 2 (by decide) flX0_isPromised_9 wiX0_isPromised_X0 (by rfl) ?_
  refine V_iconst (v := 1) C dX0_isPromised_4 (by decide) ?_
  refine V_icmp_ne (tgt := 20) C dX0_isPromised_5 (by decide) (fun c5 => ?_) (fun c5 => ?_)
  · refine V_iconst (v := 0) C dX0_isPromised_20 (by decide) ?_
    exact V_zret C dX0_isPromised_21 hr (by rfl) ⟨by simp [c5], rfl⟩ (by exact Nat.le_of_ble_eq_true rfl) (by exact Nat.le_of_ble_eq_true rfl)
  · obtain ⟨a, rfl⟩ := hl c5
    refine V_aload_n (i := 0) C dX0_isPromised_8 rfl rfl ?_
    refine V_get (ci := 0) (CN := RX0) (T := TX0) (N := 10) C dX0_isPromised_9 (by first | assumption | exact hset_s _ _ _) rfl 3 (by decide) flX0_isPromised_24 wiX0_isPromised_X0 (by rfl) ?_
    refine V_aload_n (i := 1) C dX0_isPromised_12 rfl rfl ?_
    refine V_acmp_ne (tgt := 20) C dX0_isPromised_13 (by decide) (fun c13 => ?_) (fun c13 => ?_)
    · refine V_iconst (v := 0) C dX0_isPromised_20 (by decide) ?_
      exact V_zret C dX0_isPromised_21 hr (by rfl) ⟨by simp [c5, c13], rfl⟩ (by exact Nat.le_of_ble_eq_true rfl) (by exact Nat.le_of_ble_eq_true rfl)
    · refine V_iconst (v := 1) C dX0_isPromised_16 (by decide) ?_
      refine V_goto (tgt := 21) C dX0_isPromised_17 (by decide) ?_
      exact V_zret C dX0_isPromised_21 hr (by rfl) ⟨by simp [c5, c13], rfl⟩ (by exact Nat.le_of_ble_eq_true rfl) (by exact Nat.le_of_ble_eq_true rfl)
set_option maxHeartbeats 4000000 in
set_option maxRecDepth 100000 in
theorem c_promise (hq : h q = some (cellO x y k lt w am br rd la dr)) (hb : h b = some (lotO nb tn mt th lf pr ld)) : Mt l D cA bs yX0_promise wsX0_promise (rmk 0 0 0) [.ref q, .ref b] h (fun v h2 => v = none ∧ h2 = hset (hset h q (cellO x y 1 (some b) w am br rd la dr)) b (lotO nb tn mt th (lf - 1) (pr + 1) ld)) := by
  have hne : b ≠ q := ne_kinds hb hq (by decide)
  refine Mt_of (cc := cX0_promise) (maxL := 2) (ret := (none)) (own := RX0) [some (.ref q), some (.ref b)] rfl (by decide +kernel) rfl rfl (by exact Nat.le_of_ble_eq_true rfl) rfl ?_
  intro p9 e9 s9 m9 args9 below9 meth9 c9 C hr hnm
  refine V_aload_n (i := 0) C dX0_promise_0 rfl rfl ?_
  refine V_iconst (v := 1) C dX0_promise_1 (by decide) ?_
  refine V_put (ci := 0) (CN := RX0) (T := TX0) (N := 10) (ty := (tyX0 2)) C dX0_promise_2 (by first | assumption | exact hset_s _ _ _) rfl tyX0 tyX0_ok nmX0 2 (by decide) flX0_promise_9 wiX0_promise_X0 rfl (tyX0_ok 2 (by decide)) (by rfl) (by rfl) (by exact Nat.le_of_ble_eq_true rfl) ?_
  refine V_aload_n (i := 0) C dX0_promise_5 rfl rfl ?_
  refine V_aload_n (i := 1) C dX0_promise_6 rfl rfl ?_
  refine V_put (ci := 0) (CN := RX0) (T := TX0) (N := 10) (ty := (tyX0 3)) C dX0_promise_7 (by first | assumption | exact hset_s _ _ _) rfl tyX0 tyX0_ok nmX0 3 (by decide) flX0_promise_24 wiX0_promise_X0 rfl (tyX0_ok 3 (by decide)) (by rfl) (by rfl) (by exact Nat.le_of_ble_eq_true rfl) ?_
  rw [hset_hset]
  refine V_aload_n (i := 1) C dX0_promise_10 rfl rfl ?_
  refine V_dup C dX0_promise_11 rfl ?_
  refine V_get (ci := 2) (CN := RX2) (T := TX2) (N := 7) C dX0_promise_12 ((hset_n hne).trans hb) rfl 4 (by decide) flX0_promise_28 wiX0_promise_X2 (by rfl) ?_
  refine V_iconst (v := 1) C dX0_promise_15 (by decide) ?_
  refine V_isub C dX0_promise_16 ?_
  refine V_put (ci := 2) (CN := RX2) (T := TX2) (N := 7) (ty := (tyX2 4)) C dX0_promise_17 ((hset_n hne).trans hb) rfl tyX2 tyX2_ok nmX2 4 (by decide) flX0_promise_28 wiX0_promise_X2 rfl (tyX2_ok 4 (by decide)) (by rfl) (by rfl) (by exact Nat.le_of_ble_eq_true rfl) ?_
  refine V_aload_n (i := 1) C dX0_promise_20 rfl rfl ?_
  refine V_dup C dX0_promise_21 rfl ?_
  refine V_get (ci := 2) (CN := RX2) (T := TX2) (N := 7) C dX0_promise_22 (by first | assumption | exact hset_s _ _ _) rfl 5 (by decide) flX0_promise_33 wiX0_promise_X2 (by rfl) ?_
  refine V_iconst (v := 1) C dX0_promise_25 (by decide) ?_
  refine V_iadd C dX0_promise_26 ?_
  refine V_put (ci := 2) (CN := RX2) (T := TX2) (N := 7) (ty := (tyX2 5)) C dX0_promise_27 (by first | assumption | exact hset_s _ _ _) rfl tyX2 tyX2_ok nmX2 5 (by decide) flX0_promise_33 wiX0_promise_X2 rfl (tyX2_ok 5 (by decide)) (by rfl) (by rfl) (by exact Nat.le_of_ble_eq_true rfl) ?_
  rw [hset_hset]
  exact V_vret C dX0_promise_30 hr ⟨rfl, rfl⟩ (by exact Nat.le_of_ble_eq_true rfl) (by exact Nat.le_of_ble_eq_true rfl)
set_option maxHeartbeats 4000000 in
set_option maxRecDepth 100000 in
theorem c_takeBack1 (hq : h q = some (cellO x y 1 (some b) w am br rd la dr)) (hb : h b = some (lotO nb tn mt th lf pr ld)) : Mt l D cA bs yX0_takeBack wsX0_takeBack (rmk 0 0 0) [.ref q] h (fun v h2 => v = none ∧ h2 = hset (hset h b (lotO nb tn mt th (lf + 1) (pr - 1) ld)) q (cellO x y 0 none w am br rd la dr)) := by
  have hne : q ≠ b := ne_kinds hq hb (by decide)
  refine Mt_of (cc := cX0_takeBack) (maxL := 1) (ret := (none)) (own := RX0) [some (.ref q)] rfl (by decide +kernel) rfl rfl (by exact Nat.le_of_ble_eq_true rfl) rfl ?_
  intro p9 e9 s9 m9 args9 below9 meth9 c9 C hr hnm
  refine V_aload_n (i := 0) C dX0_takeBack_0 rfl rfl ?_
  refine V_get (ci := 0) (CN := RX0) (T := TX0) (N := 10) C dX0_takeBack_1 (by first | assumption | exact hset_s _ _ _) rfl 2 (by decide) flX0_takeBack_9 wiX0_takeBack_X0 (by rfl) ?_
  refine V_iconst (v := 1) C dX0_takeBack_4 (by decide) ?_
  refine V_icmp_ne (tgt := 51) C dX0_takeBack_5 (by decide) (fun z9 => absurd rfl z9) (fun _ => ?_)
  refine V_aload_n (i := 0) C dX0_takeBack_8 rfl rfl ?_
  refine V_get (ci := 0) (CN := RX0) (T := TX0) (N := 10) C dX0_takeBack_9 (by first | assumption | exact hset_s _ _ _) rfl 3 (by decide) flX0_takeBack_24 wiX0_takeBack_X0 (by rfl) ?_
  refine V_ifnull C dX0_takeBack_12 ?_
  refine V_aload_n (i := 0) C dX0_takeBack_15 rfl rfl ?_
  refine V_get (ci := 0) (CN := RX0) (T := TX0) (N := 10) C dX0_takeBack_16 (by first | assumption | exact hset_s _ _ _) rfl 3 (by decide) flX0_takeBack_24 wiX0_takeBack_X0 (by rfl) ?_
  refine V_dup C dX0_takeBack_19 rfl ?_
  refine V_get (ci := 2) (CN := RX2) (T := TX2) (N := 7) C dX0_takeBack_20 (by first | assumption | exact hset_s _ _ _) rfl 5 (by decide) flX0_takeBack_33 wiX0_takeBack_X2 (by rfl) ?_
  refine V_iconst (v := 1) C dX0_takeBack_23 (by decide) ?_
  refine V_isub C dX0_takeBack_24 ?_
  refine V_put (ci := 2) (CN := RX2) (T := TX2) (N := 7) (ty := (tyX2 5)) C dX0_takeBack_25 (by first | assumption | exact hset_s _ _ _) rfl tyX2 tyX2_ok nmX2 5 (by decide) flX0_takeBack_33 wiX0_takeBack_X2 rfl (tyX2_ok 5 (by decide)) (by rfl) (by rfl) (by exact Nat.le_of_ble_eq_true rfl) ?_
  refine V_aload_n (i := 0) C dX0_takeBack_28 rfl rfl ?_
  refine V_get (ci := 0) (CN := RX0) (T := TX0) (N := 10) C dX0_takeBack_29 ((hset_n hne).trans hq) rfl 3 (by decide) flX0_takeBack_24 wiX0_takeBack_X0 (by rfl) ?_
  refine V_dup C dX0_takeBack_32 rfl ?_
  refine V_get (ci := 2) (CN := RX2) (T := TX2) (N := 7) C dX0_takeBack_33 (by first | assumption | exact hset_s _ _ _) rfl 4 (by decide) flX0_takeBack_28 wiX0_takeBack_X2 (by rfl) ?_
  refine V_iconst (v := 1) C dX0_takeBack_36 (by decide) ?_
  refine V_iadd C dX0_takeBack_37 ?_
  refine V_put (ci := 2) (CN := RX2) (T := TX2) (N := 7) (ty := (tyX2 4)) C dX0_takeBack_38 (by first | assumption | exact hset_s _ _ _) rfl tyX2 tyX2_ok nmX2 4 (by decide) flX0_takeBack_28 wiX0_takeBack_X2 rfl (tyX2_ok 4 (by decide)) (by rfl) (by rfl) (by exact Nat.le_of_ble_eq_true rfl) ?_
  rw [hset_hset]
  refine V_aload_n (i := 0) C dX0_takeBack_41 rfl rfl ?_
  refine V_null C dX0_takeBack_42 ?_
  refine V_put (ci := 0) (CN := RX0) (T := TX0) (N := 10) (ty := (tyX0 3)) C dX0_takeBack_43 ((hset_n hne).trans hq) rfl tyX0 tyX0_ok nmX0 3 (by decide) flX0_takeBack_24 wiX0_takeBack_X0 rfl (tyX0_ok 3 (by decide)) (by rfl) (by rfl) (by exact Nat.le_of_ble_eq_true rfl) ?_
  refine V_aload_n (i := 0) C dX0_takeBack_46 rfl rfl ?_
  refine V_iconst (v := 0) C dX0_takeBack_47 (by decide) ?_
  refine V_put (ci := 0) (CN := RX0) (T := TX0) (N := 10) (ty := (tyX0 2)) C dX0_takeBack_48 (by first | assumption | exact hset_s _ _ _) rfl tyX0 tyX0_ok nmX0 2 (by decide) flX0_takeBack_9 wiX0_takeBack_X0 rfl (tyX0_ok 2 (by decide)) (by rfl) (by rfl) (by exact Nat.le_of_ble_eq_true rfl) ?_
  rw [hset_hset]
  exact V_vret C dX0_takeBack_51 hr ⟨rfl, rfl⟩ (by exact Nat.le_of_ble_eq_true rfl) (by exact Nat.le_of_ble_eq_true rfl)
set_option maxHeartbeats 4000000 in
set_option maxRecDepth 100000 in
theorem c_takeBack0 (hq : h q = some (cellO x y k lt w am br rd la dr)) (hk : k ≠ 1) : Mt l D cA bs yX0_takeBack wsX0_takeBack (rmk 0 0 0) [.ref q] h (fun v h2 => v = none ∧ h2 = h) := by
  refine Mt_of (cc := cX0_takeBack) (maxL := 1) (ret := (none)) (own := RX0) [some (.ref q)] rfl (by decide +kernel) rfl rfl (by exact Nat.le_of_ble_eq_true rfl) rfl ?_
  intro p9 e9 s9 m9 args9 below9 meth9 c9 C hr hnm
  refine V_aload_n (i := 0) C dX0_takeBack_0 rfl rfl ?_
  refine V_get (ci := 0) (CN := RX0) (T := TX0) (N := 10) C dX0_takeBack_1 (by first | assumption | exact hset_s _ _ _) rfl 2 (by decide) flX0_takeBack_9 wiX0_takeBack_X0 (by rfl) ?_
  refine V_iconst (v := 1) C dX0_takeBack_4 (by decide) ?_
  refine V_icmp_ne (tgt := 51) C dX0_takeBack_5 (by decide) (fun _ => ?_) (fun z9 => absurd z9 hk)
  exact V_vret C dX0_takeBack_51 hr ⟨rfl, rfl⟩ (by exact Nat.le_of_ble_eq_true rfl) (by exact Nat.le_of_ble_eq_true rfl)
set_option maxHeartbeats 4000000 in
set_option maxRecDepth 100000 in
theorem c_lay {u v : Int32} (hq : h q = some (cellO x y 1 (some b) w am br rd la dr)) (hb : h b = some (lotO nb tn mt th lf pr ld)) : Mt l D cA bs yX0_lay wsX0_lay (rmk 0 0 0) [.ref q, .int u, .int v] h (fun r h2 => r = none ∧ h2 = hset (hset h b (lotO nb tn mt th lf (pr - 1) (ld + 1))) q (cellO x y 2 (some b) w am br rd u (u + v))) := by
  have hne : q ≠ b := ne_kinds hq hb (by decide)
  refine Mt_of (cc := cX0_lay) (maxL := 3) (ret := (none)) (own := RX0) [some (.ref q), some (.int u), some (.int v)] rfl (by decide +kernel) rfl rfl (by exact Nat.le_of_ble_eq_true rfl) rfl ?_
  intro p9 e9 s9 m9 args9 below9 meth9 c9 C hr hnm
  refine V_aload_n (i := 0) C dX0_lay_0 rfl rfl ?_
  refine V_get (ci := 0) (CN := RX0) (T := TX0) (N := 10) C dX0_lay_1 (by first | assumption | exact hset_s _ _ _) rfl 2 (by decide) flX0_lay_9 wiX0_lay_X0 (by rfl) ?_
  refine V_iconst (v := 1) C dX0_lay_4 (by decide) ?_
  refine V_icmp_ne (tgt := 58) C dX0_lay_5 (by decide) (fun z9 => absurd rfl z9) (fun _ => ?_)
  refine V_aload_n (i := 0) C dX0_lay_8 rfl rfl ?_
  refine V_get (ci := 0) (CN := RX0) (T := TX0) (N := 10) C dX0_lay_9 (by first | assumption | exact hset_s _ _ _) rfl 3 (by decide) flX0_lay_24 wiX0_lay_X0 (by rfl) ?_
  refine V_ifnull C dX0_lay_12 ?_
  refine V_aload_n (i := 0) C dX0_lay_15 rfl rfl ?_
  refine V_get (ci := 0) (CN := RX0) (T := TX0) (N := 10) C dX0_lay_16 (by first | assumption | exact hset_s _ _ _) rfl 3 (by decide) flX0_lay_24 wiX0_lay_X0 (by rfl) ?_
  refine V_dup C dX0_lay_19 rfl ?_
  refine V_get (ci := 2) (CN := RX2) (T := TX2) (N := 7) C dX0_lay_20 (by first | assumption | exact hset_s _ _ _) rfl 5 (by decide) flX0_lay_33 wiX0_lay_X2 (by rfl) ?_
  refine V_iconst (v := 1) C dX0_lay_23 (by decide) ?_
  refine V_isub C dX0_lay_24 ?_
  refine V_put (ci := 2) (CN := RX2) (T := TX2) (N := 7) (ty := (tyX2 5)) C dX0_lay_25 (by first | assumption | exact hset_s _ _ _) rfl tyX2 tyX2_ok nmX2 5 (by decide) flX0_lay_33 wiX0_lay_X2 rfl (tyX2_ok 5 (by decide)) (by rfl) (by rfl) (by exact Nat.le_of_ble_eq_true rfl) ?_
  refine V_aload_n (i := 0) C dX0_lay_28 rfl rfl ?_
  refine V_get (ci := 0) (CN := RX0) (T := TX0) (N := 10) C dX0_lay_29 ((hset_n hne).trans hq) rfl 3 (by decide) flX0_lay_24 wiX0_lay_X0 (by rfl) ?_
  refine V_dup C dX0_lay_32 rfl ?_
  refine V_get (ci := 2) (CN := RX2) (T := TX2) (N := 7) C dX0_lay_33 (by first | assumption | exact hset_s _ _ _) rfl 6 (by decide) flX0_lay_36 wiX0_lay_X2 (by rfl) ?_
  refine V_iconst (v := 1) C dX0_lay_36 (by decide) ?_
  refine V_iadd C dX0_lay_37 ?_
  refine V_put (ci := 2) (CN := RX2) (T := TX2) (N := 7) (ty := (tyX2 6)) C dX0_lay_38 (by first | assumption | exact hset_s _ _ _) rfl tyX2 tyX2_ok nmX2 6 (by decide) flX0_lay_36 wiX0_lay_X2 rfl (tyX2_ok 6 (by decide)) (by rfl) (by rfl) (by exact Nat.le_of_ble_eq_true rfl) ?_
  rw [hset_hset]
  refine V_aload_n (i := 0) C dX0_lay_41 rfl rfl ?_
  refine V_iconst (v := 2) C dX0_lay_42 (by decide) ?_
  refine V_put (ci := 0) (CN := RX0) (T := TX0) (N := 10) (ty := (tyX0 2)) C dX0_lay_43 ((hset_n hne).trans hq) rfl tyX0 tyX0_ok nmX0 2 (by decide) flX0_lay_9 wiX0_lay_X0 rfl (tyX0_ok 2 (by decide)) (by rfl) (by rfl) (by exact Nat.le_of_ble_eq_true rfl) ?_
  refine V_aload_n (i := 0) C dX0_lay_46 rfl rfl ?_
  refine V_iload_n (i := 1) C dX0_lay_47 rfl rfl ?_
  refine V_put (ci := 0) (CN := RX0) (T := TX0) (N := 10) (ty := (tyX0 8)) C dX0_lay_48 (by first | assumption | exact hset_s _ _ _) rfl tyX0 tyX0_ok nmX0 8 (by decide) flX0_lay_39 wiX0_lay_X0 rfl (tyX0_ok 8 (by decide)) (by rfl) (by rfl) (by exact Nat.le_of_ble_eq_true rfl) ?_
  rw [hset_hset]
  refine V_aload_n (i := 0) C dX0_lay_51 rfl rfl ?_
  refine V_iload_n (i := 1) C dX0_lay_52 rfl rfl ?_
  refine V_iload_n (i := 2) C dX0_lay_53 rfl rfl ?_
  refine V_iadd C dX0_lay_54 ?_
  refine V_put (ci := 0) (CN := RX0) (T := TX0) (N := 10) (ty := (tyX0 9)) C dX0_lay_55 (by first | assumption | exact hset_s _ _ _) rfl tyX0 tyX0_ok nmX0 9 (by decide) flX0_lay_42 wiX0_lay_X0 rfl (tyX0_ok 9 (by decide)) (by rfl) (by rfl) (by exact Nat.le_of_ble_eq_true rfl) ?_
  rw [hset_hset]
  exact V_vret C dX0_lay_58 hr ⟨rfl, rfl⟩ (by exact Nat.le_of_ble_eq_true rfl) (by exact Nat.le_of_ble_eq_true rfl)
set_option maxHeartbeats 4000000 in
set_option maxRecDepth 100000 in
theorem c_stoneTone0 (hq : h q = some (cellO x y k none w am br rd la dr)) : Mt l D cA bs yX0_stoneTone wsX0_stoneTone (rmk 0 0 0) [.ref q] h (fun v h2 => v = some (.float (FP.i2f w)) ∧ h2 = h) := by
  refine Mt_of (cc := cX0_stoneTone) (maxL := 1) (ret := (some .float)) (own := RX0) [some (.ref q)] rfl (by decide +kernel) rfl rfl (by exact Nat.le_of_ble_eq_true rfl) rfl ?_
  intro p9 e9 s9 m9 args9 below9 meth9 c9 C hr hnm
  refine V_aload_n (i := 0) C dX0_stoneTone_0 rfl rfl ?_
  refine V_get (ci := 0) (CN := RX0) (T := TX0) (N := 10) C dX0_stoneTone_1 (by first | assumption | exact hset_s _ _ _) rfl 3 (by decide) flX0_stoneTone_24 wiX0_stoneTone_X0 (by rfl) ?_
  refine V_ifnonnullN C dX0_stoneTone_4 ?_
  refine V_aload_n (i := 0) C dX0_stoneTone_7 rfl rfl ?_
  refine V_get (ci := 0) (CN := RX0) (T := TX0) (N := 10) C dX0_stoneTone_8 (by first | assumption | exact hset_s _ _ _) rfl 4 (by decide) flX0_stoneTone_21 wiX0_stoneTone_X0 (by rfl) ?_
  refine V_i2f C dX0_stoneTone_11 ?_
  refine V_goto (tgt := 22) C dX0_stoneTone_12 (by decide) ?_
  exact V_fret C dX0_stoneTone_22 hr ⟨rfl, rfl⟩ (by exact Nat.le_of_ble_eq_true rfl) (by exact Nat.le_of_ble_eq_true rfl)
set_option maxHeartbeats 4000000 in
set_option maxRecDepth 100000 in
theorem c_stoneTone1 (hq : h q = some (cellO x y k (some b) w am br rd la dr)) (hb : h b = some (lotO nb tn mt th lf pr ld)) : Mt l D cA bs yX0_stoneTone wsX0_stoneTone (rmk 0 0 0) [.ref q] h (fun v h2 => v = some (.float tn) ∧ h2 = h) := by
  refine Mt_of (cc := cX0_stoneTone) (maxL := 1) (ret := (some .float)) (own := RX0) [some (.ref q)] rfl (by decide +kernel) rfl rfl (by exact Nat.le_of_ble_eq_true rfl) rfl ?_
  intro p9 e9 s9 m9 args9 below9 meth9 c9 C hr hnm
  refine V_aload_n (i := 0) C dX0_stoneTone_0 rfl rfl ?_
  refine V_get (ci := 0) (CN := RX0) (T := TX0) (N := 10) C dX0_stoneTone_1 (by first | assumption | exact hset_s _ _ _) rfl 3 (by decide) flX0_stoneTone_24 wiX0_stoneTone_X0 (by rfl) ?_
  refine V_ifnonnull (tgt := 15) C dX0_stoneTone_4 (by decide) ?_
  refine V_aload_n (i := 0) C dX0_stoneTone_15 rfl rfl ?_
  refine V_get (ci := 0) (CN := RX0) (T := TX0) (N := 10) C dX0_stoneTone_16 (by first | assumption | exact hset_s _ _ _) rfl 3 (by decide) flX0_stoneTone_24 wiX0_stoneTone_X0 (by rfl) ?_
  refine V_get (ci := 2) (CN := RX2) (T := TX2) (N := 7) C dX0_stoneTone_19 (by first | assumption | exact hset_s _ _ _) rfl 1 (by decide) flX0_stoneTone_45 wiX0_stoneTone_X2 (by rfl) ?_
  exact V_fret C dX0_stoneTone_22 hr ⟨rfl, rfl⟩ (by exact Nat.le_of_ble_eq_true rfl) (by exact Nat.le_of_ble_eq_true rfl)
set_option maxHeartbeats 4000000 in
set_option maxRecDepth 100000 in
theorem c_lackBehind0 {u : UInt32} (hq : h q = some (cellO x y k none w am br rd la dr)) : Mt l D cA bs yX0_lackBehind wsX0_lackBehind (rmk 0 0 0) [.ref q, .float u] h (fun v h2 => v = some (.float FP.fconst0) ∧ h2 = h) := by
  refine Mt_of (cc := cX0_lackBehind) (maxL := 2) (ret := (some .float)) (own := RX0) [some (.ref q), some (.float u)] rfl (by decide +kernel) rfl rfl (by exact Nat.le_of_ble_eq_true rfl) rfl ?_
  intro p9 e9 s9 m9 args9 below9 meth9 c9 C hr hnm
  refine V_aload_n (i := 0) C dX0_lackBehind_0 rfl rfl ?_
  refine V_get (ci := 0) (CN := RX0) (T := TX0) (N := 10) C dX0_lackBehind_1 (by first | assumption | exact hset_s _ _ _) rfl 3 (by decide) flX0_lackBehind_24 wiX0_lackBehind_X0 (by rfl) ?_
  refine V_ifnonnullN C dX0_lackBehind_4 ?_
  refine V_fconst0 C dX0_lackBehind_7 ?_
  refine V_goto (tgt := 20) C dX0_lackBehind_8 (by decide) ?_
  exact V_fret C dX0_lackBehind_20 hr ⟨rfl, rfl⟩ (by exact Nat.le_of_ble_eq_true rfl) (by exact Nat.le_of_ble_eq_true rfl)
set_option maxHeartbeats 4000000 in
set_option maxRecDepth 100000 in
theorem c_lackBehind1 {u : UInt32} (hq : h q = some (cellO x y k (some b) w am br rd la dr)) (hb : h b = some (lotO nb tn mt th lf pr ld)) (hn : vf_n32 (FP.fsub u tn)) : Mt l D cA bs yX0_lackBehind wsX0_lackBehind (rmk 0 0 0) [.ref q, .float u] h (fun v h2 => v = some (.float (FP.fsub u tn)) ∧ h2 = h) := by
  refine Mt_of (cc := cX0_lackBehind) (maxL := 2) (ret := (some .float)) (own := RX0) [some (.ref q), some (.float u)] rfl (by decide +kernel) rfl rfl (by exact Nat.le_of_ble_eq_true rfl) rfl ?_
  intro p9 e9 s9 m9 args9 below9 meth9 c9 C hr hnm
  refine V_aload_n (i := 0) C dX0_lackBehind_0 rfl rfl ?_
  refine V_get (ci := 0) (CN := RX0) (T := TX0) (N := 10) C dX0_lackBehind_1 (by first | assumption | exact hset_s _ _ _) rfl 3 (by decide) flX0_lackBehind_24 wiX0_lackBehind_X0 (by rfl) ?_
  refine V_ifnonnull (tgt := 11) C dX0_lackBehind_4 (by decide) ?_
  refine V_fload_n (i := 1) C dX0_lackBehind_11 rfl rfl ?_
  refine V_aload_n (i := 0) C dX0_lackBehind_12 rfl rfl ?_
  refine V_get (ci := 0) (CN := RX0) (T := TX0) (N := 10) C dX0_lackBehind_13 (by first | assumption | exact hset_s _ _ _) rfl 3 (by decide) flX0_lackBehind_24 wiX0_lackBehind_X0 (by rfl) ?_
  refine V_get (ci := 2) (CN := RX2) (T := TX2) (N := 7) C dX0_lackBehind_16 (by first | assumption | exact hset_s _ _ _) rfl 1 (by decide) flX0_lackBehind_45 wiX0_lackBehind_X2 (by rfl) ?_
  refine V_fsub C dX0_lackBehind_19 (by assumption) ?_
  exact V_fret C dX0_lackBehind_20 hr ⟨rfl, rfl⟩ (by exact Nat.le_of_ble_eq_true rfl) (by exact Nat.le_of_ble_eq_true rfl)
set_option maxHeartbeats 4000000 in
set_option maxRecDepth 100000 in
theorem c_bring {u : UInt32} (hq : h q = some (cellO x y k lt w am br rd la dr)) (hn : vf_n32 (FP.fadd br u)) : Mt l D cA bs yX0_bring wsX0_bring (rmk 0 0 0) [.ref q, .float u] h (fun v h2 => v = none ∧ h2 = hset h q (cellO x y k lt w am (FP.fadd br u) rd la dr)) := by
  refine Mt_of (cc := cX0_bring) (maxL := 2) (ret := (none)) (own := RX0) [some (.ref q), some (.float u)] rfl (by decide +kernel) rfl rfl (by exact Nat.le_of_ble_eq_true rfl) rfl ?_
  intro p9 e9 s9 m9 args9 below9 meth9 c9 C hr hnm
  refine V_aload_n (i := 0) C dX0_bring_0 rfl rfl ?_
  refine V_aload_n (i := 0) C dX0_bring_1 rfl rfl ?_
  refine V_get (ci := 0) (CN := RX0) (T := TX0) (N := 10) C dX0_bring_2 (by first | assumption | exact hset_s _ _ _) rfl 6 (by decide) flX0_bring_49 wiX0_bring_X0 (by rfl) ?_
  refine V_fload_n (i := 1) C dX0_bring_5 rfl rfl ?_
  refine V_fadd C dX0_bring_6 (by assumption) ?_
  refine V_put (ci := 0) (CN := RX0) (T := TX0) (N := 10) (ty := (tyX0 6)) C dX0_bring_7 (by first | assumption | exact hset_s _ _ _) rfl tyX0 tyX0_ok nmX0 6 (by decide) flX0_bring_49 wiX0_bring_X0 rfl (tyX0_ok 6 (by decide)) (by rfl) (by rfl) (by exact Nat.le_of_ble_eq_true rfl) ?_
  exact V_vret C dX0_bring_10 hr ⟨rfl, rfl⟩ (by exact Nat.le_of_ble_eq_true rfl) (by exact Nat.le_of_ble_eq_true rfl)
set_option maxHeartbeats 4000000 in
set_option maxRecDepth 100000 in
theorem c_canPromise (hb : h b = some (lotO nb tn mt th lf pr ld)) : Mt l D cA bs yX2_canPromise wsX2_canPromise (rmk 0 0 0) [.ref b] h (fun v h2 => v = some (.int (if th ≠ 0 ∧ 0 < lf then 1 else 0)) ∧ h2 = h) := by
  refine Mt_of (cc := cX2_canPromise) (maxL := 1) (ret := (some .boolean)) (own := RX2) [some (.ref b)] rfl (by decide +kernel) rfl rfl (by exact Nat.le_of_ble_eq_true rfl) rfl ?_
  intro p9 e9 s9 m9 args9 below9 meth9 c9 C hr hnm
  refine V_aload_n (i := 0) C dX2_canPromise_0 rfl rfl ?_
  refine V_get (ci := 2) (CN := RX2) (T := TX2) (N := 7) C dX2_canPromise_1 (by first | assumption | exact hset_s _ _ _) rfl 3 (by decide) flX2_canPromise_23 wiX2_canPromise_X2 (by rfl) ?_
  refine V_if_eq (tgt := 18) C dX2_canPromise_4 (by decide) (fun c4 => ?_) (fun c4 => ?_)
  · refine V_iconst (v := 0) C dX2_canPromise_18 (by decide) ?_
    exact V_zret C dX2_canPromise_19 hr (by rfl) ⟨by simp [c4], rfl⟩ (by exact Nat.le_of_ble_eq_true rfl) (by exact Nat.le_of_ble_eq_true rfl)
  · refine V_aload_n (i := 0) C dX2_canPromise_7 rfl rfl ?_
    refine V_get (ci := 2) (CN := RX2) (T := TX2) (N := 7) C dX2_canPromise_8 (by first | assumption | exact hset_s _ _ _) rfl 4 (by decide) flX2_canPromise_17 wiX2_canPromise_X2 (by rfl) ?_
    refine V_if_le (tgt := 18) C dX2_canPromise_11 (by decide) (fun c11 => ?_) (fun c11 => ?_)
    · refine V_iconst (v := 0) C dX2_canPromise_18 (by decide) ?_
      exact V_zret C dX2_canPromise_19 hr (by rfl) ⟨by simp [c4, c11], rfl⟩ (by exact Nat.le_of_ble_eq_true rfl) (by exact Nat.le_of_ble_eq_true rfl)
    · refine V_iconst (v := 1) C dX2_canPromise_14 (by decide) ?_
      refine V_goto (tgt := 19) C dX2_canPromise_15 (by decide) ?_
      exact V_zret C dX2_canPromise_19 hr (by rfl) ⟨by simp [c4, c11], rfl⟩ (by exact Nat.le_of_ble_eq_true rfl) (by exact Nat.le_of_ble_eq_true rfl)
set_option maxHeartbeats 4000000 in
set_option maxRecDepth 100000 in
theorem c_Cell_init {x0 y0 k0 w0 rd0 la0 dr0 : Int32} {am0 br0 : UInt32} (hq : h q = some (cellO x0 y0 k0 lt w0 am0 br0 rd0 la0 dr0)) : Mt l D cA bs yX0_init wsX0_init (rmk 1 0 0) [.ref q, .int x, .int y, .int w] h (fun v h2 => v = none ∧ h2 = hset h q (cellO x y 0 lt w am0 br0 rd0 la0 dr0)) := by
  refine Mt_of (cc := cX0_init) (maxL := 4) (ret := (none)) (own := RX0) [some (.ref q), some (.int x), some (.int y), some (.int w)] rfl (by decide +kernel) rfl rfl (by exact Nat.le_of_ble_eq_true rfl) rfl ?_
  intro p9 e9 s9 m9 args9 below9 meth9 c9 C hr hnm
  refine V_aload_n (i := 0) C dX0_init_0 rfl rfl ?_
  refine V_objInit C dX0_init_1 (by decide +kernel) (by decide +kernel) (by decide +kernel) (by exact Nat.le_of_ble_eq_true rfl) (by exact Nat.le_of_ble_eq_true rfl) ?_
  refine V_aload_n (i := 0) C dX0_init_4 rfl rfl ?_
  refine V_iconst (v := 0) C dX0_init_5 (by decide) ?_
  refine V_put (ci := 0) (CN := RX0) (T := TX0) (N := 10) (ty := (tyX0 2)) C dX0_init_6 (by first | assumption | exact hset_s _ _ _) rfl tyX0 tyX0_ok nmX0 2 (by decide) flX0_init_9 wiX0_init_X0 rfl (tyX0_ok 2 (by decide)) (by rfl) (by rfl) (by exact Nat.le_of_ble_eq_true rfl) ?_
  refine V_aload_n (i := 0) C dX0_init_9 rfl rfl ?_
  refine V_iload_n (i := 1) C dX0_init_10 rfl rfl ?_
  refine V_putF (ci := 0) (CN := RX0) (T := TX0) (N := 10) (ty := (tyX0 0)) C dX0_init_11 (by first | assumption | exact hset_s _ _ _) rfl tyX0 tyX0_ok nmX0 0 (by decide) flX0_init_15 wiX0_init_X0 rfl hnm rfl (tyX0_ok 0 (by decide)) (by rfl) (by rfl) (by exact Nat.le_of_ble_eq_true rfl) ?_
  rw [hset_hset]
  refine V_aload_n (i := 0) C dX0_init_14 rfl rfl ?_
  refine V_iload_n (i := 2) C dX0_init_15 rfl rfl ?_
  refine V_putF (ci := 0) (CN := RX0) (T := TX0) (N := 10) (ty := (tyX0 1)) C dX0_init_16 (by first | assumption | exact hset_s _ _ _) rfl tyX0 tyX0_ok nmX0 1 (by decide) flX0_init_18 wiX0_init_X0 rfl hnm rfl (tyX0_ok 1 (by decide)) (by rfl) (by rfl) (by exact Nat.le_of_ble_eq_true rfl) ?_
  rw [hset_hset]
  refine V_aload_n (i := 0) C dX0_init_19 rfl rfl ?_
  refine V_iload_n (i := 3) C dX0_init_20 rfl rfl ?_
  refine V_put (ci := 0) (CN := RX0) (T := TX0) (N := 10) (ty := (tyX0 4)) C dX0_init_21 (by first | assumption | exact hset_s _ _ _) rfl tyX0 tyX0_ok nmX0 4 (by decide) flX0_init_21 wiX0_init_X0 rfl (tyX0_ok 4 (by decide)) (by rfl) (by rfl) (by exact Nat.le_of_ble_eq_true rfl) ?_
  rw [hset_hset]
  exact V_vret C dX0_init_24 hr ⟨rfl, rfl⟩ (by exact Nat.le_of_ble_eq_true rfl) (by exact Nat.le_of_ble_eq_true rfl)
set_option maxHeartbeats 4000000 in
set_option maxRecDepth 100000 in
theorem c_Lot_init {nb0 mt0 th0 lf0 pr0 ld0 : Int32} {tn0 : UInt32} (hth : th = 0 ∨ th = 1) (hb : h b = some (lotO nb0 tn0 mt0 th0 lf0 pr0 ld0)) : Mt l D cA bs yX2_init wsX2_init (rmk 1 0 0) [.ref b, .int nb, .float tn, .int lf, .int mt, .int th] h (fun v h2 => v = none ∧ h2 = hset h b (lotO nb tn mt th lf pr0 ld0)) := by
  have hz1 : narrow .boolean (.int th) = .int th := by rcases hth with rfl | rfl <;> rfl
  have hz2 : fits .boolean (.int th) = true := by rcases hth with rfl | rfl <;> rfl
  refine Mt_of (cc := cX2_init) (maxL := 6) (ret := (none)) (own := RX2) [some (.ref b), some (.int nb), some (.float tn), some (.int lf), some (.int mt), some (.int th)] rfl (by decide +kernel) rfl rfl (by exact Nat.le_of_ble_eq_true rfl) rfl ?_
  intro p9 e9 s9 m9 args9 below9 meth9 c9 C hr hnm
  refine V_aload_n (i := 0) C dX2_init_0 rfl rfl ?_
  refine V_objInit C dX2_init_1 (by decide +kernel) (by decide +kernel) (by decide +kernel) (by exact Nat.le_of_ble_eq_true rfl) (by exact Nat.le_of_ble_eq_true rfl) ?_
  refine V_aload_n (i := 0) C dX2_init_4 rfl rfl ?_
  refine V_iload_n (i := 1) C dX2_init_5 rfl rfl ?_
  refine V_putF (ci := 2) (CN := RX2) (T := TX2) (N := 7) (ty := (tyX2 0)) C dX2_init_6 (by first | assumption | exact hset_s _ _ _) rfl tyX2 tyX2_ok nmX2 0 (by decide) flX2_init_7 wiX2_init_X2 rfl hnm rfl (tyX2_ok 0 (by decide)) (by rfl) (by rfl) (by exact Nat.le_of_ble_eq_true rfl) ?_
  refine V_aload_n (i := 0) C dX2_init_9 rfl rfl ?_
  refine V_fload_n (i := 2) C dX2_init_10 rfl rfl ?_
  refine V_putF (ci := 2) (CN := RX2) (T := TX2) (N := 7) (ty := (tyX2 1)) C dX2_init_11 (by first | assumption | exact hset_s _ _ _) rfl tyX2 tyX2_ok nmX2 1 (by decide) flX2_init_13 wiX2_init_X2 rfl hnm rfl (tyX2_ok 1 (by decide)) (by rfl) (by rfl) (by exact Nat.le_of_ble_eq_true rfl) ?_
  rw [hset_hset]
  refine V_aload_n (i := 0) C dX2_init_14 rfl rfl ?_
  refine V_iload_n (i := 3) C dX2_init_15 rfl rfl ?_
  refine V_put (ci := 2) (CN := RX2) (T := TX2) (N := 7) (ty := (tyX2 4)) C dX2_init_16 (by first | assumption | exact hset_s _ _ _) rfl tyX2 tyX2_ok nmX2 4 (by decide) flX2_init_17 wiX2_init_X2 rfl (tyX2_ok 4 (by decide)) (by rfl) (by rfl) (by exact Nat.le_of_ble_eq_true rfl) ?_
  rw [hset_hset]
  refine V_aload_n (i := 0) C dX2_init_19 rfl rfl ?_
  refine V_iload C dX2_init_20 rfl ?_
  refine V_putF (ci := 2) (CN := RX2) (T := TX2) (N := 7) (ty := (tyX2 2)) C dX2_init_22 (by first | assumption | exact hset_s _ _ _) rfl tyX2 tyX2_ok nmX2 2 (by decide) flX2_init_20 wiX2_init_X2 rfl hnm rfl (tyX2_ok 2 (by decide)) (by rfl) (by rfl) (by exact Nat.le_of_ble_eq_true rfl) ?_
  rw [hset_hset]
  refine V_aload_n (i := 0) C dX2_init_25 rfl rfl ?_
  refine V_iload C dX2_init_26 rfl ?_
  refine V_put (ci := 2) (CN := RX2) (T := TX2) (N := 7) (ty := (tyX2 3)) C dX2_init_28 (by first | assumption | exact hset_s _ _ _) rfl tyX2 tyX2_ok nmX2 3 (by decide) flX2_init_23 wiX2_init_X2 rfl (tyX2_ok 3 (by decide)) (by assumption) (by assumption) (by exact Nat.le_of_ble_eq_true rfl) ?_
  rw [hset_hset]
  exact V_vret C dX2_init_31 hr ⟨rfl, rfl⟩ (by exact Nat.le_of_ble_eq_true rfl) (by exact Nat.le_of_ble_eq_true rfl)
end CELLS
