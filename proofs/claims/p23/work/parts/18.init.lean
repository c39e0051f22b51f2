/-! constructors -/
theorem hset_ne {h : hE} {a q : Nat} {e : va_E} {f : va_E} (hq : h q = some f) (ha : h a = none) : hset h a e q = some f := by
  rw [hset_n (fun z => by rw [z, ha] at hq; cases hq)]
  exact hq
def X00 : XS := ((0, 0, 0), fun _ => (0, 0, 0, 0, 0, 0), fun _ => 0, fun _ => 0, fun _ _ => (0, none, 0, 0, 0, 0, 0, 0), fun _ => (1, 1, none, 0, [], 0))
section INIT
variable {l : Launch} {D : va_G} {cA : Nat → ClassId} {bs : Nat} {Z : Nat → Nat → Nat} {X : XS} {ta : Nat → Nat → Option Nat} {h : hE}
set_option maxHeartbeats 4000000 in
set_option maxRecDepth 100000 in
theorem c_Crew_init {q : Nat} (hq : h q = some (.inr (1, [.int 0, .int 0, .null, .int 0, .null, .int 0, .int 0]))) : Ms l D cA bs SZr yX1_init wsX1_init (rmk 1 1 4) [.ref q] h (fun v h2 => v = none ∧ ∃ t, h t = none ∧ h2 q = some (crewO 1 1 none 0 t 0 0) ∧ h2 t = some (qarr (cA 4) 4 (fun _ => none)) ∧ ∀ r, r ≠ q → r ≠ t → h2 r = h r) := by
  refine Ms_of (cc := cX1_init) (maxL := 1) (ret := (none)) (own := RX1) [some (.ref q)] rfl (by decide +kernel) rfl rfl (by exact Nat.le_of_ble_eq_true rfl) rfl ?_
  intro p9 e9 s9 m9 args9 below9 meth9 c9 C hr hnm hsz
  refine V_aload_n (i := 0) C dX1_init_0 rfl rfl ?_
  refine V_objInit C dX1_init_1 (by decide +kernel) (by decide +kernel) (by decide +kernel) (by exact Nat.le_of_ble_eq_true rfl) (by exact Nat.le_of_ble_eq_true rfl) ?_
  refine V_aload_n (i := 0) C dX1_init_4 rfl rfl ?_
  refine V_iconst (v := 1) C dX1_init_5 (by decide) ?_
  refine V_put (ci := 1) (CN := RX1) (T := TX1) (N := 7) (ty := (tyX1 0)) C dX1_init_6 (by first | assumption | exact hset_s _ _ _) rfl tyX1 tyX1_ok nmX1 0 (by decide) flX1_init_9 wiX1_init_X1 rfl (tyX1_ok 0 (by decide)) (by rfl) (by rfl) (by exact Nat.le_of_ble_eq_true rfl) ?_
  refine V_aload_n (i := 0) C dX1_init_9 rfl rfl ?_
  refine V_iconst (v := 1) C dX1_init_10 (by decide) ?_
  refine V_put (ci := 1) (CN := RX1) (T := TX1) (N := 7) (ty := (tyX1 1)) C dX1_init_11 (by first | assumption | exact hset_s _ _ _) rfl tyX1 tyX1_ok nmX1 1 (by decide) flX1_init_15 wiX1_init_X1 rfl (tyX1_ok 1 (by decide)) (by rfl) (by rfl) (by exact Nat.le_of_ble_eq_true rfl) ?_
  rw [hset_hset]
  refine V_aload_n (i := 0) C dX1_init_14 rfl rfl ?_
  refine V_iconst (v := 0) C dX1_init_15 (by decide) ?_
  refine V_put (ci := 1) (CN := RX1) (T := TX1) (N := 7) (ty := (tyX1 3)) C dX1_init_16 (by first | assumption | exact hset_s _ _ _) rfl tyX1 tyX1_ok nmX1 3 (by decide) flX1_init_18 wiX1_init_X1 rfl (tyX1_ok 3 (by decide)) (by rfl) (by rfl) (by exact Nat.le_of_ble_eq_true rfl) ?_
  rw [hset_hset]
  have hq3 := hset_s h q (.inr (1, ((([.int 0, .int 0, .null, .int 0, .null, .int 0, .int 0] : List Value).set 0 (.int 1)).set 1 (.int 1)).set 3 (.int 0)))
  refine V_aload_n (i := 0) C dX1_init_19 rfl rfl ?_
  refine V_iconst (v := 4) C dX1_init_20 (by decide) ?_
  refine V_newq (CN := RX2) (t0 := 4) C dX1_init_21 (by decide +kernel) hsz.2.2.1.2.2.1 rfl (by decide) rfl (by exact Nat.le_of_ble_eq_true rfl) (by exact Nat.le_of_ble_eq_true rfl) (by exact Nat.le_of_ble_eq_true rfl) (fun t9 ht9 bt9 => ?_)
  have htq : q ≠ t9 := fun z => by rw [← z, hset_s] at ht9; cases ht9
  have ht0 : h t9 = none := (hset_n (Ne.symm htq)).symm.trans ht9
  refine V_putF (ci := 1) (CN := RX1) (T := TX1) (N := 7) (ty := (tyX1 4)) C dX1_init_24 ((hset_n htq).trans hq3) rfl tyX1 tyX1_ok nmX1 4 (by decide) flX1_init_23 wiX1_init_X1 rfl hnm rfl (tyX1_ok 4 (by decide)) (by rfl) (by rfl) (by exact Nat.le_of_ble_eq_true rfl) ?_
  exact V_vret C dX1_init_27 hr ⟨rfl, t9, ht0, hset_s _ _ _, (hset_n (Ne.symm htq)).trans (hset_s _ _ _), fun r h1 h2 => by rw [hset_n h1, hset_n h2, hset_n h1]⟩ (by exact Nat.le_of_ble_eq_true rfl) (by exact Nat.le_of_ble_eq_true rfl)
/-- crews made so far -/
def mkC (cA : Nat → ClassId) (h h4 : hE) (q a b c i : Nat) : Prop := ∃ zc zt : Nat → Nat, h4 q = some (.inr (4, [.ref a, .ref b, .ref c, .int 0, .int 0, .int 0])) ∧ h4 a = some (qarr (cA 4) 12 (fun _ => none)) ∧ h4 b = some (qarr (cA 5) 5 (fun _ => none)) ∧ h4 c = some (qarr (cA 6) 3 (fun k => if k < i then some (zc k) else none)) ∧ (∀ k, k < i → h4 (zc k) = some (crewO 1 1 none 0 (zt k) 0 0) ∧ h4 (zt k) = some (qarr (cA 4) 4 (fun _ => none))) ∧ (∀ j k, j < i → k < i → zc j = zc k → j = k) ∧ (∀ j k, j < i → k < i → zt j = zt k → j = k) ∧ (∀ r e, h r = some e → r ≠ q → h4 r = some e) ∧ h c = none ∧ (h a = none ∧ h b = none) ∧ ∀ k, k < i → h (zc k) = none ∧ h (zt k) = none
theorem mkC.s {h h4 h5 : hE} {q a b c i q9 t : Nat} (m : mkC cA h h4 q a b c i) (hq9 : h4 q9 = none) (ht : h4 t = none) (htq : t ≠ q9) (h5q : h5 q9 = some (crewO 1 1 none 0 t 0 0)) (h5t : h5 t = some (qarr (cA 4) 4 (fun _ => none))) (h5r : ∀ r, r ≠ q9 → r ≠ t → h5 r = h4 r) : ∃ zc : Nat → Nat, h5 c = some (qarr (cA 6) 3 (fun k => if k < i then some (zc k) else none)) ∧ mkC cA h (hset h5 c (qarr (cA 6) 3 (fset (fun k => if k < i then some (zc k) else none) i (some q9)))) q a b c (i + 1) := by
  obtain ⟨zc, zt, m1, m2, m3, m4, m5, m6, m7, m8, m9, m10, m11⟩ := m
  have old : ∀ r e, h4 r = some e → h5 r = some e := fun r e he => by
    rw [h5r r (fun z => by rw [z, hq9] at he; cases he) (fun z => by rw [z, ht] at he; cases he)]
    exact he
  have nc : ∀ r e, h5 r = some e → e ≠ qarr (cA 6) 3 (fun k => if k < i then some (zc k) else none) → r ≠ c := fun r e he hn z => by
    rw [z, old c _ m4] at he
    exact hn (Option.some.inj he).symm
  have noc : ∀ {u : Nat × List Value}, (Sum.inr u : va_E) ≠ qarr (cA 6) 3 (fun k => if k < i then some (zc k) else none) := fun z => by cases z
  have nlen : ∀ {cl : ClassId} {n : Nat} {f : Nat → Option Nat}, n ≠ 3 → qarr cl n f ≠ qarr (cA 6) 3 (fun k => if k < i then some (zc k) else none) := fun hn z => hn (congrArg (fun e : va_E => match e with | .inl u => u.2.1 | .inr _ => 3) z)
  have hzne : ∀ k, k < i → zc k ≠ q9 ∧ zt k ≠ t := fun k hk => ⟨(fun z => by have := (m5 k hk).1; rw [z, hq9] at this; cases this), (fun z => by have := (m5 k hk).2; rw [z, ht] at this; cases this)⟩
  have put : ∀ r e, h5 r = some e → r ≠ c → hset h5 c (qarr (cA 6) 3 (fset (fun k => if k < i then some (zc k) else none) i (some q9))) r = some e := fun r e he hn => by rw [hset_n hn]; exact he
  refine ⟨zc, old _ _ m4, fset zc i q9, fset zt i t, put _ _ (old _ _ m1) (nc _ _ (old _ _ m1) noc), put _ _ (old _ _ m2) (nc _ _ (old _ _ m2) (nlen (by decide))), put _ _ (old _ _ m3) (nc _ _ (old _ _ m3) (nlen (by decide))), ?_, ?_, ?_, ?_, ?_, m9, m10, ?_⟩
  · rw [hset_s]
    congr 5
    funext k
    unfold fset
    by_cases hk : k = i
    · subst hk
      simp
    · by_cases hk2 : k < i
      · simp [hk, hk2, show k < i + 1 by omega]
      · simp [hk, hk2, show ¬ k < i + 1 by omega]
  · intro k hk
    by_cases hki : k = i
    · subst hki
      rw [fset_s, fset_s]
      exact ⟨put _ _ h5q (nc _ _ h5q noc), put _ _ h5t (nc _ _ h5t (nlen (by decide)))⟩
    · rw [fset_n hki, fset_n hki]
      obtain ⟨u1, u2⟩ := m5 k (by omega)
      exact ⟨put _ _ (old _ _ u1) (nc _ _ (old _ _ u1) noc), put _ _ (old _ _ u2) (nc _ _ (old _ _ u2) (nlen (by decide)))⟩
  · intro j k hj hk he
    by_cases hji : j = i <;> by_cases hki : k = i
    · omega
    · subst hji
      rw [fset_s, fset_n hki] at he
      exact absurd he.symm (hzne k (by omega)).1
    · subst hki
      rw [fset_s, fset_n hji] at he
      exact absurd he (hzne j (by omega)).1
    · rw [fset_n hji, fset_n hki] at he
      exact m6 j k (by omega) (by omega) he
  · intro j k hj hk he
    by_cases hji : j = i <;> by_cases hki : k = i
    · omega
    · subst hji
      rw [fset_s, fset_n hki] at he
      exact absurd he.symm (hzne k (by omega)).2
    · subst hki
      rw [fset_s, fset_n hji] at he
      exact absurd he (hzne j (by omega)).2
    · rw [fset_n hji, fset_n hki] at he
      exact m7 j k (by omega) (by omega) he
  · intro r e he hrq
    have h1 := m8 r e he hrq
    refine put _ _ (old _ _ h1) ?_
    intro z
    rw [z, m9] at he
    cases he
  · have hno : ∀ r, h4 r = none → h r = none := fun r hr => by
      cases hc : h r with
      | none => rfl
      | some e =>
        by_cases z : r = q
        · rw [z, m1] at hr
          cases hr
        · rw [m8 r e hc z] at hr
          cases hr
    intro k hk
    by_cases hki : k = i
    · subst hki
      rw [fset_s, fset_s]
      exact ⟨hno _ hq9, hno _ ht⟩
    · rw [fset_n hki, fset_n hki]
      exact m11 k (by omega)
section VPT
variable {p : Program} {e : Env} {R : Room} {s : State} {m : MethodId} {args : Array Value} {below : List Frame} {meth : Method} {c : Code} {nL : Nat} {cells slots : Nat} {Q : State → Prop} {pc : Nat} {ls : List (Option Value)} {st : List Value}
theorem V_pt (P : hE → Prop) (hp : P h) (k : ∀ h1, P h1 → V p l e R s m args below meth c D bs nL h1 cells slots Q pc ls st) : V p l e R s m args below meth c D bs nL h cells slots Q pc ls st := k h hp
end VPT
/-- a heap with more in it -/
def hmore (h h1 : hE) (q : Nat) : Prop := ∀ r e, h r = some e → r ≠ q → h1 r = some e
theorem hmore.no {h h1 : hE} {q r : Nat} (m : hmore h h1 q) (hr : h1 r = none) (hq : ∃ e, h1 q = some e) : h r = none := by
  cases hc : h r with
  | none => rfl
  | some e =>
    by_cases z : r = q
    · subst z
      obtain ⟨e2, he2⟩ := hq
      rw [hr] at he2
      cases he2
    · rw [m r e hc z] at hr
      cases hr
theorem hmore.put {h h1 : hE} {q r : Nat} {e : va_E} (m : hmore h h1 q) (hr : h r = none) : hmore h (hset h1 r e) q := fun a f ha hq => by
  rw [hset_n (fun z => by rw [z, hr] at ha; cases ha)]
  exact m a f ha hq
theorem hmore.own {h h1 : hE} {q : Nat} {e : va_E} (m : hmore h h1 q) : hmore h (hset h1 q e) q := fun a f ha hq => by
  rw [hset_n hq]
  exact m a f ha hq
theorem hmore.rf {h : hE} {q : Nat} : hmore h h q := fun _ _ z _ => z
def vtag (e : va_E) : Nat := match e with
  | .inl u => u.2.1
  | .inr u => 100 + u.1
/-- the beginning of a workshop -/
theorem mkC.XR {h h4 : hE} {q a b c : Nat} (m : mkC cA h h4 q a b c 3) : ∃ Z ta, Z 0 0 = q ∧ XR cA Z X00 ta h4 ∧ ∀ A i, xvd X00 A i → Z A i = q ∨ h (Z A i) = none := by
  obtain ⟨zc, zt, m1, m2, m3, m4, m5, m6, m7, m8, m9, m10, m11⟩ := m
  have hF : ∀ A i, xvd X00 A i → h4 ((fun A i => match A with | 0 => (match i with | 0 => q | 1 => a | 2 => b | _ => c) | 4 => zc i | _ => zt i : Nat → Nat → Nat) A i) = some (xct cA (fun A i => match A with | 0 => (match i with | 0 => q | 1 => a | 2 => b | _ => c) | 4 => zc i | _ => zt i) X00 (fun _ _ => none) A i) := by
    intro A i hv
    match A with
    | 0 => match i with
      | 0 => exact m1
      | 1 => exact m2
      | 2 => exact m3
      | i + 3 => exact m4
    | 1 => exact absurd hv (Nat.not_lt_zero i)
    | 2 => exact absurd hv (Nat.not_lt_zero i)
    | 3 => exact absurd hv (Nat.not_lt_zero i)
    | 4 => exact (m5 i hv).1
    | 5 => exact (m5 i hv).2
    | p + 6 => exact absurd hv.1 (Nat.not_lt_zero p)
  have hfr : ∀ A i, xvd X00 A i → ((fun A i => match A with | 0 => (match i with | 0 => q | 1 => a | 2 => b | _ => c) | 4 => zc i | _ => zt i) : Nat → Nat → Nat) A i = q ∨ h (((fun A i => match A with | 0 => (match i with | 0 => q | 1 => a | 2 => b | _ => c) | 4 => zc i | _ => zt i) : Nat → Nat → Nat) A i) = none := by
    intro A i hv
    match A with
    | 0 => match i with
      | 0 => exact Or.inl rfl
      | 1 => exact Or.inr m10.1
      | 2 => exact Or.inr m10.2
      | i + 3 => exact Or.inr m9
    | 1 => exact absurd hv (Nat.not_lt_zero i)
    | 2 => exact absurd hv (Nat.not_lt_zero i)
    | 3 => exact absurd hv (Nat.not_lt_zero i)
    | 4 => exact Or.inr (m11 i hv).1
    | 5 => exact Or.inr (m11 i hv).2
    | p + 6 => exact absurd hv.1 (Nat.not_lt_zero p)
  refine ⟨fun A i => match A with | 0 => (match i with | 0 => q | 1 => a | 2 => b | _ => c) | 4 => zc i | _ => zt i, fun _ _ => none, rfl, ⟨hF, ?_⟩, hfr⟩
  intro A i B j hA hB hz
  have h1 := hF A i hA
  have h2 := hF B j hB
  rw [hz, h2] at h1
  have h3 := Option.some.inj h1
  clear h1 h2
  have kind : ∀ {A i}, xvd X00 A i → A = 0 ∨ A = 4 ∨ A = 5 := by
    intro A i hv
    match A with
    | 0 => exact Or.inl rfl
    | 1 => exact absurd hv (Nat.not_lt_zero i)
    | 2 => exact absurd hv (Nat.not_lt_zero i)
    | 3 => exact absurd hv (Nat.not_lt_zero i)
    | 4 => exact Or.inr (Or.inl rfl)
    | 5 => exact Or.inr (Or.inr rfl)
    | p + 6 => exact absurd hv.1 (Nat.not_lt_zero p)
  have h4 := congrArg vtag h3
  clear h3 hF
  have t0 : ∀ i, i < 4 → i = 0 ∨ i = 1 ∨ i = 2 ∨ i = 3 := fun i hi => by omega
  rcases kind hA with rfl | rfl | rfl <;> rcases kind hB with rfl | rfl | rfl
  · rcases t0 i hA with rfl | rfl | rfl | rfl <;> rcases t0 j hB with rfl | rfl | rfl | rfl <;> first | exact ⟨rfl, rfl⟩ | (exfalso; simp [vtag, xct] at h4)
  · rcases t0 i hA with rfl | rfl | rfl | rfl <;> (exfalso; simp [vtag, xct] at h4)
  · rcases t0 i hA with rfl | rfl | rfl | rfl <;> (exfalso; simp [vtag, xct] at h4)
  · rcases t0 j hB with rfl | rfl | rfl | rfl <;> (exfalso; simp [vtag, xct] at h4)
  · exact ⟨rfl, m6 i j hA hB hz⟩
  · simp [vtag, xct] at h4
  · rcases t0 j hB with rfl | rfl | rfl | rfl <;> (exfalso; simp [vtag, xct] at h4)
  · simp [vtag, xct] at h4
  · exact ⟨rfl, m7 i j hA hB hz⟩
set_option maxHeartbeats 4000000 in
set_option maxRecDepth 100000 in
theorem c_Row_init {q : Nat} (hq : h q = some (.inr (4, [.null, .null, .null, .int 0, .int 0, .int 0]))) : Ms l D cA bs SZr yX4_init wsX4_init (rmk 2 9 53) [.ref q] h (fun v h2 => v = none ∧ (∃ Z ta, Z 0 0 = q ∧ XR cA Z X00 ta h2 ∧ ∀ A i, xvd X00 A i → Z A i = q ∨ h (Z A i) = none) ∧ hmore h h2 q) := by
  refine Ms_of (cc := cX4_init) (maxL := 2) (ret := (none)) (own := RX4) [some (.ref q), none] rfl (by decide +kernel) rfl rfl (by exact Nat.le_of_ble_eq_true rfl) rfl ?_
  intro p9 e9 s9 m9 args9 below9 meth9 c9 C hr hnm hsz
  refine V_aload_n (i := 0) C dX4_init_0 rfl rfl ?_
  refine V_objInit C dX4_init_1 (by decide +kernel) (by decide +kernel) (by decide +kernel) (by exact Nat.le_of_ble_eq_true rfl) (by exact Nat.le_of_ble_eq_true rfl) ?_
  refine V_aload_n (i := 0) C dX4_init_4 rfl rfl ?_
  refine V_bipush (v := 12) C dX4_init_5 (by decide) ?_
  refine V_newq (CN := RX2) (t0 := 4) (N2 := 12) C dX4_init_7 (by decide +kernel) hsz.2.2.1.2.2.1 rfl (by decide) rfl (by exact Nat.le_of_ble_eq_true rfl) (by exact Nat.le_of_ble_eq_true rfl) (by exact Nat.le_of_ble_eq_true rfl) (fun a9 ha9 ba9 => ?_)
  have haq : q ≠ a9 := fun z => by rw [← z, hq] at ha9; cases ha9
  refine V_putF (ci := 4) (CN := RX4) (T := TX4) (N := 6) (ty := (tyX4 0)) C dX4_init_10 ((hset_n haq).trans hq) rfl tyX4 tyX4_ok nmX4 0 (by decide) flX4_init_11 wiX4_init_X4 rfl hnm rfl (tyX4_ok 0 (by decide)) (by rfl) (by rfl) (by exact Nat.le_of_ble_eq_true rfl) ?_
  refine V_pt (fun h1 => h1 q = some (.inr (4, [.ref a9, .null, .null, .int 0, .int 0, .int 0])) ∧ h1 a9 = some (qarr (cA 4) 12 (fun _ => none)) ∧ hmore h h1 q) ⟨hset_s _ _ _, (hset_n (Ne.symm haq)).trans (hset_s _ _ _), (hmore.rf.put ha9).own⟩ (fun h1 hh1 => ?_)
  obtain ⟨e1, e2, e3⟩ := hh1
  refine V_aload_n (i := 0) C dX4_init_13 rfl rfl ?_
  refine V_iconst (v := 5) C dX4_init_14 (by decide) ?_
  refine V_newq (CN := RX3) (t0 := 5) (N2 := 5) C dX4_init_15 (by decide +kernel) hsz.2.2.1.2.2.2 rfl (by decide) rfl (by exact Nat.le_of_ble_eq_true rfl) (by exact Nat.le_of_ble_eq_true rfl) (by exact Nat.le_of_ble_eq_true rfl) (fun b9 hb9 bb9 => ?_)
  have hbq : q ≠ b9 := fun z => by rw [← z, e1] at hb9; cases hb9
  have hb0 := e3.no hb9 ⟨_, e1⟩
  refine V_putF (ci := 4) (CN := RX4) (T := TX4) (N := 6) (ty := (tyX4 1)) C dX4_init_18 ((hset_n hbq).trans e1) rfl tyX4 tyX4_ok nmX4 1 (by decide) flX4_init_17 wiX4_init_X4 rfl hnm rfl (tyX4_ok 1 (by decide)) (by rfl) (by rfl) (by exact Nat.le_of_ble_eq_true rfl) ?_
  refine V_pt (fun h1 => h1 q = some (.inr (4, [.ref a9, .ref b9, .null, .int 0, .int 0, .int 0])) ∧ h1 a9 = some (qarr (cA 4) 12 (fun _ => none)) ∧ h1 b9 = some (qarr (cA 5) 5 (fun _ => none)) ∧ hmore h h1 q) ⟨hset_s _ _ _, (hset_n (Ne.symm haq)).trans (hset_ne e2 hb9), (hset_n (Ne.symm hbq)).trans (hset_s _ _ _), (e3.put hb0).own⟩ (fun h1 hh1 => ?_)
  obtain ⟨e1, e2, e3, e4⟩ := hh1
  refine V_aload_n (i := 0) C dX4_init_21 rfl rfl ?_
  refine V_iconst (v := 3) C dX4_init_22 (by decide) ?_
  refine V_newq (CN := RX1) (t0 := 6) (N2 := 3) C dX4_init_23 (by decide +kernel) hsz.2.2.1.2.1 rfl (by decide) rfl (by exact Nat.le_of_ble_eq_true rfl) (by exact Nat.le_of_ble_eq_true rfl) (by exact Nat.le_of_ble_eq_true rfl) (fun c9 hc9 bc9 => ?_)
  have hcq : q ≠ c9 := fun z => by rw [← z, e1] at hc9; cases hc9
  have hc0 := e4.no hc9 ⟨_, e1⟩
  refine V_putF (ci := 4) (CN := RX4) (T := TX4) (N := 6) (ty := (tyX4 2)) C dX4_init_26 ((hset_n hcq).trans e1) rfl tyX4 tyX4_ok nmX4 2 (by decide) flX4_init_23 wiX4_init_X4 rfl hnm rfl (tyX4_ok 2 (by decide)) (by rfl) (by rfl) (by exact Nat.le_of_ble_eq_true rfl) ?_
  refine V_iconst (v := 0) C dX4_init_29 (by decide) ?_
  refine V_istore1 C dX4_init_30 (by decide) ?_
  refine V_forC (fun i => 3 + 2 * i) (fun i => 20 + 11 * i) 3 (fun i h4 ls4 => mkC cA h h4 q a9 b9 c9 i ∧ ls4 = [some (.ref q), some (.int (nI i))]) ?_ ?_ 0 (by decide) ⟨⟨fun _ => 0, fun _ => 0, hset_s _ _ _, (hset_n (Ne.symm haq)).trans (hset_ne e2 hc9), (hset_n (Ne.symm hbq)).trans (hset_ne e3 hc9), (hset_n (Ne.symm hcq)).trans (hset_s _ _ _), fun k hk => absurd hk (Nat.not_lt_zero k), fun j k hj => absurd hj (Nat.not_lt_zero j), fun j k hj => absurd hj (Nat.not_lt_zero j), (e4.put hc0).own, hc0, ⟨ha9, hb0⟩, fun k hk => absurd hk (Nat.not_lt_zero k)⟩, rfl⟩
  · rintro i h4 ls4 hi ⟨mk, rfl⟩ ih
    obtain ⟨zc, zt, m1, m2, m3, m4, m5, m6, m7, m8, m9, m10, m11⟩ := id mk
    refine V_iload_n (i := 1) C dX4_init_31 rfl rfl ?_
    refine V_aload_n (i := 0) C dX4_init_32 rfl rfl ?_
    refine V_get (ci := 4) (CN := RX4) (T := TX4) (N := 6) C dX4_init_33 (by first | assumption | exact hset_s _ _ _) rfl 2 (by decide) flX4_init_23 wiX4_init_X4 (by rfl) ?_
    refine V_alen C dX4_init_36 (by first | assumption | exact hset_s _ _ _) (by rfl) (by rfl) ?_
    refine V_icmp_ge (tgt := 59) C dX4_init_37 (by decide) (fun z9 => absurd z9 (nI_ge (b := 3) hi (by decide))) (fun _ => ?_)
    refine V_aload_n (i := 0) C dX4_init_40 rfl rfl ?_
    refine V_get (ci := 4) (CN := RX4) (T := TX4) (N := 6) C dX4_init_41 (by first | assumption | exact hset_s _ _ _) rfl 2 (by decide) flX4_init_23 wiX4_init_X4 (by rfl) ?_
    refine V_iload_n (i := 1) C dX4_init_44 rfl rfl ?_
    refine V_new (ci := 1) (CN := RX1) (T := TX1) (N := 7) (fs := [.int 0, .int 0, .null, .int 0, .null, .int 0, .int 0]) C dX4_init_45 rfl tyX1 tyX1_ok wiX4_init_X1 (by decide +kernel) (by decide +kernel) (by decide +kernel) (by decide +kernel) (by show 3 + 2 * i + 1 ≤ 9; omega) (by show 20 + 11 * i + 7 ≤ 53; omega) (fun q9 hq9 bq9 => ?_)
    have hqq := hset_s h4 q9 (.inr (1, [.int 0, .int 0, .null, .int 0, .null, .int 0, .int 0]))
    refine V_dup C dX4_init_48 rfl ?_
    refine V_scallIN (n := 0) C (c_Crew_init hqq) dX4_init_49 gX4_init_X1_init_n27 rfl (by decide +kernel) hsz.2.2.2 (by decide +kernel) rfl (by decide +kernel) rfl rfl (by exact Nat.le_of_ble_eq_true rfl) ⟨by show 3 + 2 * i + 1 + 1 ≤ 9; omega, by show 20 + 11 * i + 7 + 4 ≤ 53; omega⟩ ⟨Nat.le_of_ble_eq_true rfl, Nat.le_of_ble_eq_true rfl⟩ SZr.moves hsz (fun v9 h9 hr9 => ?_)
    obtain ⟨rfl, t, t1, t2, t3, t4⟩ := hr9
    have htq : t ≠ q9 := fun z => by rw [z, hset_s] at t1; cases t1
    obtain ⟨zc2, s1, s2⟩ := mk.s hq9 ((hset_n htq).symm.trans t1) htq t2 t3 (fun r r1 r2 => by rw [t4 r r1 r2, hset_n r1])
    refine V_aastK C dX4_init_52 s1 rfl t2 rfl rfl hi (by decide) ?_
    refine V_iinc1 (v := nI (i + 1)) C dX4_init_53 (nI_1 _) (by decide) ?_
    refine V_goto (tgt := 31) C dX4_init_56 (by decide) ?_
    exact V_wid (k2 := 3 + 2 * (i + 1)) (n2 := 20 + 11 * (i + 1)) (by show 3 + 2 * i + 1 + 1 ≤ _; omega) (by show 20 + 11 * i + 7 + 4 ≤ _; omega) (V_wk (by simp [lle]) (ih _ _ ⟨s2, rfl⟩))
  · rintro h4 ls4 ⟨mk, rfl⟩
    obtain ⟨zc, zt, m1, m2, m3, m4, m5, m6, m7, m8, m9, m10, m11⟩ := id mk
    refine V_iload_n (i := 1) C dX4_init_31 rfl rfl ?_
    refine V_aload_n (i := 0) C dX4_init_32 rfl rfl ?_
    refine V_get (ci := 4) (CN := RX4) (T := TX4) (N := 6) C dX4_init_33 (by first | assumption | exact hset_s _ _ _) rfl 2 (by decide) flX4_init_23 wiX4_init_X4 (by rfl) ?_
    refine V_alen C dX4_init_36 (by first | assumption | exact hset_s _ _ _) (by rfl) (by rfl) ?_
    refine V_icmp_ge (tgt := 59) C dX4_init_37 (by decide) (fun _ => ?_) (fun z9 => absurd (nI_le (a := 3) (b := 3) (Nat.le_refl _) (by decide)) z9)
    exact V_vret C dX4_init_59 hr ⟨rfl, mk.XR, m8⟩ (by exact Nat.le_of_ble_eq_true rfl) (by exact Nat.le_of_ble_eq_true rfl)
/-- a picture's cells made so far -/
def mkP (cA : Nat → ClassId) (h h4 : hE) (q a nb w g : Nat) (tn : Int32) (i : Nat) (zc : Nat → Nat) : Prop := h4 q = some (picO (nI nb) (nI w) (nI g) a) ∧ h4 a = some (qarr (cA 7) (w * g) (fun k => if k < i then some (zc k) else none)) ∧ (∀ k, k < i → h4 (zc k) = some (cellO (nI (k % w)) (nI (k / w)) 0 none tn FP.fconst0 FP.fconst0 0 0 0) ∧ h (zc k) = none) ∧ (∀ j k, j < i → k < i → zc j = zc k → j = k) ∧ hmore h h4 q ∧ h a = none
theorem mkP.s {h h4 : hE} {q a nb w g i q9 x y : Nat} {tn : Int32} {zc : Nat → Nat} (m : mkP cA h h4 q a nb w g tn i zc) (hq9 : h4 q9 = none) (hx : x = i % w) (hy : y = i / w) : hset h4 q9 (cellO (nI x) (nI y) 0 none tn FP.fconst0 FP.fconst0 0 0 0) a = some (qarr (cA 7) (w * g) (fun k => if k < i then some (zc k) else none)) ∧ mkP cA h (hset (hset h4 q9 (cellO (nI x) (nI y) 0 none tn FP.fconst0 FP.fconst0 0 0 0)) a (qarr (cA 7) (w * g) (fset (fun k => if k < i then some (zc k) else none) i (some q9)))) q a nb w g tn (i + 1) (fset zc i q9) := by
  obtain ⟨m1, m2, m3, m4, m5, m6⟩ := m
  have hqa : q ≠ a := ne_arr m1 m2
  have h0 := m5.no hq9 ⟨_, m1⟩
  have hza : ∀ k, k < i → zc k ≠ a := fun k hk => ne_arr (m3 k hk).1 m2
  have hzq : ∀ k, k < i → zc k ≠ q9 := fun k hk z => by have := (m3 k hk).1; rw [z, hq9] at this; cases this
  have hqa9 : q9 ≠ a := fun z => by rw [z, m2] at hq9; cases hq9
  refine ⟨hset_ne m2 hq9, (hset_n hqa).trans (hset_ne m1 hq9), ?_, ?_, ?_, ?_, m6⟩
  · rw [hset_s]
    congr 5
    funext k
    unfold fset
    by_cases hk : k = i
    · subst hk
      simp
    · by_cases hk2 : k < i
      · simp [hk, hk2, show k < i + 1 by omega]
      · simp [hk, hk2, show ¬ k < i + 1 by omega]
  · intro k hk
    by_cases hki : k = i
    · subst hki
      rw [fset_s]
      exact ⟨by rw [hset_n hqa9, hset_s, hx, hy], h0⟩
    · rw [fset_n hki]
      obtain ⟨u1, u2⟩ := m3 k (by omega)
      exact ⟨(hset_n (hza k (by omega))).trans (hset_ne u1 hq9), u2⟩
  · intro j k hj hk he
    by_cases hji : j = i <;> by_cases hki : k = i
    · omega
    · subst hji
      rw [fset_s, fset_n hki] at he
      exact absurd he.symm (hzq k (by omega))
    · subst hki
      rw [fset_s, fset_n hji] at he
      exact absurd he (hzq j (by omega))
    · rw [fset_n hji, fset_n hki] at he
      exact m4 j k (by omega) (by omega) he
  · exact (m5.put h0).put m6
set_option maxHeartbeats 4000000 in
set_option maxRecDepth 100000 in
theorem c_Pic_init {q nb w g : Nat} {tn : Int32} (hq : h q = some (.inr (3, [.int 0, .int 0, .int 0, .null]))) (hw1 : 1 ≤ w) (hw : w ≤ 8) (hg : g ≤ 8) : Ms l D cA bs SZr yX3_init wsX3_init (rmk 2 65 704) [.ref q, .int (nI nb), .int (nI w), .int (nI g), .int tn] h (fun v h2 => v = none ∧ ∃ a zc, mkP cA h h2 q a nb w g tn (w * g) zc) := by
  have hN : w * g ≤ 64 := Nat.mul_le_mul hw hg
  refine Ms_of (cc := cX3_init) (maxL := 8) (ret := (none)) (own := RX3) [some (.ref q), some (.int (nI nb)), some (.int (nI w)), some (.int (nI g)), some (.int tn), none, none, none] rfl (by decide +kernel) rfl rfl (by exact Nat.le_of_ble_eq_true rfl) rfl ?_
  intro p9 e9 s9 m9 args9 below9 meth9 c9 C hr hnm hsz
  refine V_aload_n (i := 0) C dX3_init_0 rfl rfl ?_
  refine V_objInit C dX3_init_1 (by decide +kernel) (by decide +kernel) (by decide +kernel) (by exact Nat.le_of_ble_eq_true rfl) (by exact Nat.le_of_ble_eq_true rfl) ?_
  refine V_aload_n (i := 0) C dX3_init_4 rfl rfl ?_
  refine V_iload_n (i := 1) C dX3_init_5 rfl rfl ?_
  refine V_putF (ci := 3) (CN := RX3) (T := TX3) (N := 4) (ty := (tyX3 0)) C dX3_init_6 (by first | assumption | exact hset_s _ _ _) rfl tyX3 tyX3_ok nmX3 0 (by decide) flX3_init_9 wiX3_init_X3 rfl hnm rfl (tyX3_ok 0 (by decide)) (by rfl) (by rfl) (by exact Nat.le_of_ble_eq_true rfl) ?_
  refine V_aload_n (i := 0) C dX3_init_9 rfl rfl ?_
  refine V_iload_n (i := 2) C dX3_init_10 rfl rfl ?_
  refine V_putF (ci := 3) (CN := RX3) (T := TX3) (N := 4) (ty := (tyX3 1)) C dX3_init_11 (by first | assumption | exact hset_s _ _ _) rfl tyX3 tyX3_ok nmX3 1 (by decide) flX3_init_15 wiX3_init_X3 rfl hnm rfl (tyX3_ok 1 (by decide)) (by rfl) (by rfl) (by exact Nat.le_of_ble_eq_true rfl) ?_
  rw [hset_hset]
  refine V_aload_n (i := 0) C dX3_init_14 rfl rfl ?_
  refine V_iload_n (i := 3) C dX3_init_15 rfl rfl ?_
  refine V_putF (ci := 3) (CN := RX3) (T := TX3) (N := 4) (ty := (tyX3 2)) C dX3_init_16 (by first | assumption | exact hset_s _ _ _) rfl tyX3 tyX3_ok nmX3 2 (by decide) flX3_init_18 wiX3_init_X3 rfl hnm rfl (tyX3_ok 2 (by decide)) (by rfl) (by rfl) (by exact Nat.le_of_ble_eq_true rfl) ?_
  rw [hset_hset]
  have hq3 := hset_s h q (.inr (3, ((([.int 0, .int 0, .int 0, .null] : List Value).set 0 (.int (nI nb))).set 1 (.int (nI w))).set 2 (.int (nI g))))
  refine V_aload_n (i := 0) C dX3_init_19 rfl rfl ?_
  refine V_iload_n (i := 2) C dX3_init_20 rfl rfl ?_
  refine V_iload_n (i := 3) C dX3_init_21 rfl rfl ?_
  refine V_imul C dX3_init_22 ?_
  rw [pk_mul]
  refine V_newq (CN := RX0) (t0 := 7) (N2 := w * g) C dX3_init_23 (by decide +kernel) hsz.2.2.1.1 rfl (nI_pos (by omega)) (nI_clamp (by omega)) (by omega) (by exact Nat.le_of_ble_eq_true rfl) (by show 0 + w * g ≤ 704; omega) (fun a9 ha9 ba9 => ?_)
  have haq : q ≠ a9 := fun z => by rw [← z, hset_s] at ha9; cases ha9
  have ha0 : h a9 = none := (hset_n (Ne.symm haq)).symm.trans ha9
  refine V_putF (ci := 3) (CN := RX3) (T := TX3) (N := 4) (ty := (tyX3 3)) C dX3_init_26 ((hset_n haq).trans hq3) rfl tyX3 tyX3_ok nmX3 3 (by decide) flX3_init_23 wiX3_init_X3 rfl hnm rfl (tyX3_ok 3 (by decide)) (by rfl) (by rfl) (by exact Nat.le_of_ble_eq_true rfl) ?_
  refine V_pt (fun h1 => mkP cA h h1 q a9 nb w g tn 0 (fun _ => 0)) ⟨hset_s _ _ _, (hset_n (Ne.symm haq)).trans (by rw [hset_s]; congr 5), fun k hk => absurd hk (Nat.not_lt_zero k), fun j k hj => absurd hj (Nat.not_lt_zero j), (hmore.rf.own.put ha0).own, ha0⟩ (fun h1 hh1 => ?_)
  refine V_iconst (v := 0) C dX3_init_29 (by decide) ?_
  refine V_istore5 C dX3_init_30 (by decide) ?_
  refine V_iconst (v := 0) C dX3_init_32 (by decide) ?_
  refine V_istore6 C dX3_init_33 (by decide) ?_
  refine V_iconst (v := 0) C dX3_init_35 (by decide) ?_
  refine V_istore7 C dX3_init_36 (by decide) ?_
  refine V_wid (k2 := 1 + 0) (n2 := w * g + 10 * 0) (by show 0 + 1 ≤ _; omega) (by show 0 + w * g ≤ _; omega) ?_
  refine V_forC (fun i => 1 + i) (fun i => w * g + 10 * i) (w * g) (fun i h4 ls4 => ∃ x y zc, x < w ∧ i = y * w + x ∧ mkP cA h h4 q a9 nb w g tn i zc ∧ ls4 = [some (.ref q), some (.int (nI nb)), some (.int (nI w)), some (.int (nI g)), some (.int tn), some (.int (nI x)), some (.int (nI y)), some (.int (nI i))]) ?_ ?_ 0 (Nat.zero_le _) ⟨0, 0, _, hw1, by omega, hh1, rfl⟩
  · rintro i h4 ls4 hi ⟨x, y, zc, hx, hxy, mk, rfl⟩ ih
    obtain ⟨m1, m2, m3, m4, m5, m6⟩ := id mk
    have hxm : x = i % w := by rw [hxy]; exact (at_mod hx).symm
    have hym : y = i / w := by rw [hxy]; exact (at_div hx).symm
    refine V_iload C dX3_init_38 rfl ?_
    refine V_aload_n (i := 0) C dX3_init_40 rfl rfl ?_
    refine V_get (ci := 3) (CN := RX3) (T := TX3) (N := 4) C dX3_init_41 (by first | assumption | exact hset_s _ _ _) rfl 3 (by decide) flX3_init_23 wiX3_init_X3 (by rfl) ?_
    refine V_alen C dX3_init_44 (by first | assumption | exact hset_s _ _ _) (by rfl) (by rfl) ?_
    refine V_icmp_ge (tgt := 89) C dX3_init_45 (by decide) (fun z9 => absurd z9 (nI_ge hi (by omega))) (fun _ => ?_)
    refine V_aload_n (i := 0) C dX3_init_48 rfl rfl ?_
    refine V_get (ci := 3) (CN := RX3) (T := TX3) (N := 4) C dX3_init_49 (by first | assumption | exact hset_s _ _ _) rfl 3 (by decide) flX3_init_23 wiX3_init_X3 (by rfl) ?_
    refine V_iload C dX3_init_52 rfl ?_
    refine V_new (ci := 0) (CN := RX0) (T := TX0) (N := 10) (fs := [.int 0, .int 0, .int 0, .null, .int 0, .float 0, .float 0, .int 0, .int 0, .int 0]) C dX3_init_54 rfl tyX0 tyX0_ok wiX3_init_X0 (by decide +kernel) (by decide +kernel) (by decide +kernel) (by decide +kernel) (by show 1 + i + 1 ≤ 65; omega) (by show w * g + 10 * i + 10 ≤ 704; omega) (fun q9 hq9 bq9 => ?_)
    have hqq := hset_s h4 q9 (cellO 0 0 0 none 0 FP.fconst0 FP.fconst0 0 0 0)
    refine V_dup C dX3_init_57 rfl ?_
    refine V_iload C dX3_init_58 rfl ?_
    refine V_iload C dX3_init_60 rfl ?_
    refine V_iload C dX3_init_62 rfl ?_
    refine V_callI (n := 3) C (c_Cell_init hqq) dX3_init_64 gX3_init_X0_init rfl (by decide +kernel) (by decide +kernel) (by decide +kernel) rfl (by decide +kernel) rfl rfl (by exact Nat.le_of_ble_eq_true rfl) ⟨by show 1 + i + 1 ≤ 65; omega, by show w * g + 10 * i + 10 ≤ 704; omega⟩ ⟨Nat.le_of_ble_eq_true rfl, Nat.le_of_ble_eq_true rfl⟩ (fun v9 h9 hr9 => ?_)
    obtain ⟨rfl, rfl⟩ := hr9
    rw [hset_hset]
    obtain ⟨s1, s2⟩ := mk.s hq9 hxm hym
    refine V_aastK C dX3_init_67 s1 rfl (hset_s _ _ _) rfl rfl hi (by omega) ?_
    refine V_iinc5 (v := nI (x + 1)) C dX3_init_68 (nI_1 _) (by decide) ?_
    refine V_iload C dX3_init_71 rfl ?_
    refine V_iload_n (i := 2) C dX3_init_73 rfl rfl ?_
    refine V_icmp_ne (tgt := 83) C dX3_init_74 (by decide) (fun c74 => ?_) (fun c74 => ?_)
    · have hx1 : x + 1 < w := by have : x + 1 ≠ w := fun z => c74 (congrArg nI z); omega
      refine V_iinc7 (v := nI (i + 1)) C dX3_init_83 (nI_1 _) (by decide) ?_
      refine V_goto (tgt := 38) C dX3_init_86 (by decide) ?_
      first | exact V_wid (k2 := 1 + (i + 1)) (n2 := w * g + 10 * (i + 1)) (by show 1 + i + 1 ≤ _; omega) (by show w * g + 10 * i + 10 ≤ _; omega) (ih _ _ ⟨x + 1, y, _, hx1, by omega, s2, rfl⟩) | exact V_wid (k2 := 1 + (i + 1)) (n2 := w * g + 10 * (i + 1)) (by show 1 + i + 1 ≤ _; omega) (by show w * g + 10 * i + 10 ≤ _; omega) (ih _ _ ⟨0, y + 1, _, by omega, by omega, s2, rfl⟩)
    · have hx1 : x + 1 = w := (nI_eq (by omega) (by omega)).mp c74
      have hy1 : (y + 1) * w = i + 1 := by rw [Nat.add_mul, Nat.one_mul]; omega
      refine V_iconst (v := 0) C dX3_init_77 (by decide) ?_
      refine V_istore5 C dX3_init_78 (by decide) ?_
      refine V_iinc6 (v := nI (y + 1)) C dX3_init_80 (nI_1 _) (by decide) ?_
      refine V_iinc7 (v := nI (i + 1)) C dX3_init_83 (nI_1 _) (by decide) ?_
      refine V_goto (tgt := 38) C dX3_init_86 (by decide) ?_
      first | exact V_wid (k2 := 1 + (i + 1)) (n2 := w * g + 10 * (i + 1)) (by show 1 + i + 1 ≤ _; omega) (by show w * g + 10 * i + 10 ≤ _; omega) (ih _ _ ⟨x + 1, y, _, hx1, by omega, s2, rfl⟩) | exact V_wid (k2 := 1 + (i + 1)) (n2 := w * g + 10 * (i + 1)) (by show 1 + i + 1 ≤ _; omega) (by show w * g + 10 * i + 10 ≤ _; omega) (ih _ _ ⟨0, y + 1, _, by omega, by omega, s2, rfl⟩)
  · rintro h4 ls4 ⟨x, y, zc, hx, hxy, mk, rfl⟩
    obtain ⟨m1, m2, m3, m4, m5, m6⟩ := id mk
    refine V_iload C dX3_init_38 rfl ?_
    refine V_aload_n (i := 0) C dX3_init_40 rfl rfl ?_
    refine V_get (ci := 3) (CN := RX3) (T := TX3) (N := 4) C dX3_init_41 (by first | assumption | exact hset_s _ _ _) rfl 3 (by decide) flX3_init_23 wiX3_init_X3 (by rfl) ?_
    refine V_alen C dX3_init_44 (by first | assumption | exact hset_s _ _ _) (by rfl) (by rfl) ?_
    refine V_icmp_ge (tgt := 89) C dX3_init_45 (by decide) (fun _ => ?_) (fun z9 => absurd (nI_le (Nat.le_refl _) (by omega)) z9)
    exact V_vret C dX3_init_89 hr ⟨rfl, a9, zc, mk⟩ (by show 1 + w * g ≤ 65; omega) (by show w * g + 10 * (w * g) ≤ 704; omega)
end INIT
