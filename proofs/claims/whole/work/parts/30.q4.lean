/-! the reference's calls: load, and those that only tell -/
theorem mx_eq {r b m : UInt32} (hr : FP.Core.val32 r ≠ .nan) (hb : FP.Core.val32 b ≠ .nan) (hm : FP.Core.val32 m ≠ .nan) : (if FP.fcmp (fmx r b) m = some .gt then fmx r b else m) = (if FP.fcmp b (if FP.fcmp r m = some .gt then r else m) = some .gt then b else (if FP.fcmp r m = some .gt then r else m)) := by
  have g : ∀ {x y : UInt32}, FP.Core.val32 x ≠ .nan → FP.Core.val32 y ≠ .nan → (FP.fcmp x y = some .gt ↔ FP.Core.zval FP.Core.b32 (FP.Core.val32 y) < FP.Core.zval FP.Core.b32 (FP.Core.val32 x)) := fun hx hy => ⟨fun z => (FP.Core.fcmp_gt.mp z).2.2, fun z => FP.Core.fcmp_gt.mpr ⟨hx, hy, z⟩⟩
  have hl : (FP.fcmp r b = some .lt ∨ FP.fcmp r b = none) ↔ FP.Core.zval FP.Core.b32 (FP.Core.val32 r) < FP.Core.zval FP.Core.b32 (FP.Core.val32 b) := by
    constructor
    · rintro (z | z)
      · exact (FP.Core.fcmp_lt.mp z).2.2
      · rcases (FP.Core.fcmp_none _ _).mp z with z | z
        · exact absurd z hr
        · exact absurd z hb
    · exact fun z => Or.inl (FP.Core.fcmp_lt.mpr ⟨hr, hb, z⟩)
  unfold fmx
  by_cases h1 : FP.Core.zval FP.Core.b32 (FP.Core.val32 r) < FP.Core.zval FP.Core.b32 (FP.Core.val32 b)
  · rw [if_pos (hl.mpr h1)]
    by_cases h2 : FP.Core.zval FP.Core.b32 (FP.Core.val32 m) < FP.Core.zval FP.Core.b32 (FP.Core.val32 r)
    · rw [if_pos ((g hr hm).mpr h2), if_pos ((g hb hr).mpr h1), if_pos ((g hb hm).mpr (by omega))]
    · rw [if_neg (fun z => h2 ((g hr hm).mp z))]
  · rw [if_neg (fun z => h1 (hl.mp z))]
    by_cases h2 : FP.Core.zval FP.Core.b32 (FP.Core.val32 m) < FP.Core.zval FP.Core.b32 (FP.Core.val32 r)
    · rw [if_pos ((g hr hm).mpr h2), if_neg (fun z => h1 ((g hb hr).mp z))]
    · rw [if_neg (fun z => h2 ((g hr hm).mp z)), if_neg (fun z => by have := (g hb hm).mp z; omega)]
section RPUB4
variable {l : Launch} {D : va_G} {cA : Nat → ClassId} {bs : Nat} {A : Nat → Nat} {I : MI} {F : MF} {h : hE} {X : XS} {th : Int32} {M : Nat}
theorem PR.on (hP : PR X I F) {c : Nat} (hc : c < 3) {f : Nat → Int32} {d : Rw} (hd : d.1 = rrt (xcr X c) ∧ rdy d = rdy (xcr X c) ∧ rpc d = rpc (xcr X c) ∧ rmt d = rmt (xcr X c) ∧ rld d = rld (xcr X c)) (hf : ∀ j, j < 12 → f (12 * c + j) = if j ∈ rtr d then 1 else 0) (hn : (rtr d).Nodup) (ho : ∀ i, i < 12 * c ∨ 12 * c + 12 ≤ i → f i = I 24 i) : PR (setR X c d) (fset I 24 f) F := by
  obtain ⟨q1, q2, q3, q4, q5, q6, q7⟩ := hP.2.2.2.2.2.2 c hc
  obtain ⟨d1, d2, d3, d4, d5⟩ := hd
  exact hP.crew (c := c) (fun j hj => fset_n (by omega)) ⟨by rw [d3]; exact q1, by show I 21 c = d.1; rw [d1]; exact q2, by rw [d2]; exact q3, by rw [d4]; exact q4, by rw [d5]; exact q5, fun j hj => by show fset I 24 f 24 _ = _; rw [fset_s]; exact hf j hj, hn⟩ (fun c2 hc2 hn2 hp => ⟨hp.1, hp.2.1, hp.2.2.1, hp.2.2.2.1, hp.2.2.2.2.1, fun j hj => by show fset I 24 f 24 _ = _; rw [fset_s, ho _ (by omega)]; exact hp.2.2.2.2.2.1 j hj, hp.2.2.2.2.2.2⟩)
set_option maxHeartbeats 4000000 in
set_option maxRecDepth 100000 in
theorem q_load (r : MR cA A I F (mnn X th) h) (hd : xdim X) (hP : PR X I F) (ht : ∀ c, c < 3 → ∀ b, b ∈ rtr (xcr X c) → b < xnl X) {c a : Int32} : Mt l D cA bs yX5_load wsX5_load (rmk 3 0 0) [.ref (A 0), .int c, .int a] h (Rst cA A kIO kIA (sp_load X c a) h) := by
  have m0 := r.m0
  have hnl := hd.1
  by_cases hx : crewN c ∧ lotN X a
  · obtain ⟨k, hk, rfl, ek⟩ := crewN_of hx.1
    obtain ⟨b, hb, rfl, eb⟩ := lotN_of hd hx.2
    have hrk := hP.2.2.2.2.2.2 k hk
    obtain ⟨q1, q2, q3, q4, q5, q6, q7⟩ := id hrk
    obtain ⟨u1, u2, u3, u4, u5, u6⟩ := hP.1 b hb
    have esp : sp_load X (nI k) (nI b) = if b ∈ rtr (xcr X k) then (none, 1, X) else if lmt (xlo X b) = rmt (xcr X k) ∧ (rtr (xcr X k)).length < 4 then (none, 1, ldX X k b) else (none, 0, X) := by unfold sp_load; rw [if_pos hx, ek, eb]
    have hix : (12 : Int32) * nI k + nI b = nI (12 * k + b) := by rw [show (12 : Int32) = nI 12 from rfl, pk_mul, nI_add]
    have hlen : (rtr (xcr X k)).length ≤ 12 := by
      have := cntT_len q7 12 (fun j hj => Nat.lt_of_lt_of_le (ht k hk j hj) hnl)
      have := cntT_le (rtr (xcr X k)) 12
      omega
    have hb12 : b < 12 := by omega
    have hon := q6 b hb12
    refine Mt_of (cc := cX5_load) (maxL := 3) (ret := (some .boolean)) (own := RX5) [some (.ref (A 0)), some (.int (nI k)), some (.int (nI b))] rfl (by decide +kernel) rfl rfl (by exact Nat.le_of_ble_eq_true rfl) rfl ?_
    intro p9 e9 s9 m9 args9 below9 meth9 c9 C hr hnm
    refine V_aload_n (i := 0) C dX5_load_0 rfl rfl ?_
    refine V_iload_n (i := 1) C dX5_load_1 rfl rfl ?_
    refine V_callS (n := 1) C (r_isCrewX) dX5_load_2 gX5_load_X5_isCrew rfl (by decide +kernel) rfl rfl (by exact Nat.le_of_ble_eq_true rfl) ⟨Nat.le_of_ble_eq_true rfl, Nat.le_of_ble_eq_true rfl⟩ ⟨Nat.le_of_ble_eq_true rfl, Nat.le_of_ble_eq_true rfl⟩ (fun v9 h9 hr9 => ?_)
    rw [if_pos hx.1] at hr9
    obtain ⟨rfl, z9⟩ := hr9
    have z9 := z9.symm
    subst z9
    refine V_if_eq (tgt := 20) C dX5_load_5 (by decide) (fun z9 => absurd z9 (by decide)) (fun _ => ?_)
    refine V_aload_n (i := 0) C dX5_load_8 rfl rfl ?_
    refine V_iload_n (i := 2) C dX5_load_9 rfl rfl ?_
    refine V_callV (n := 1) C (r_isLotX r hd) dX5_load_10 gX5_load_X5_isLot rfl (by first | assumption | exact hset_s _ _ _) rfl (by decide +kernel) rfl rfl (by exact Nat.le_of_ble_eq_true rfl) ⟨Nat.le_of_ble_eq_true rfl, Nat.le_of_ble_eq_true rfl⟩ ⟨Nat.le_of_ble_eq_true rfl, Nat.le_of_ble_eq_true rfl⟩ (fun v9 h9 hr9 => ?_)
    rw [if_pos hx.2] at hr9
    obtain ⟨rfl, z9⟩ := hr9
    have z9 := z9.symm
    subst z9
    refine V_if_eq (tgt := 20) C dX5_load_13 (by decide) (fun z9 => absurd z9 (by decide)) (fun _ => ?_)
    refine V_iconst (v := 1) C dX5_load_16 (by decide) ?_
    refine V_goto (tgt := 21) C dX5_load_17 (by decide) ?_
    refine V_callV (n := 1) C (r_asked1 (P := True) r rfl) dX5_load_21 gX5_load_X5_asked rfl (by first | assumption | exact hset_s _ _ _) rfl (by decide +kernel) rfl rfl (by exact Nat.le_of_ble_eq_true rfl) ⟨Nat.le_of_ble_eq_true rfl, Nat.le_of_ble_eq_true rfl⟩ ⟨Nat.le_of_ble_eq_true rfl, Nat.le_of_ble_eq_true rfl⟩ (fun v9 h9 hr9 => ?_)
    obtain ⟨rfl, r2, f2⟩ := hr9
    rw [if_pos trivial] at r2
    have m0 := r2.m0
    have m24 := r2.m24
    have m5 := r2.m5
    have m23 := r2.m23
    refine V_if_ne (tgt := 29) C dX5_load_24 (by decide) (fun _ => ?_) (fun z9 => absurd z9 (by decide))
    refine V_aload_n (i := 0) C dX5_load_29 rfl rfl ?_
    refine V_get (ci := 5) (CN := RX5) (T := TX5) (N := 26) C dX5_load_30 (by first | assumption | exact hset_s _ _ _) rfl 24 (by decide) flX5_load_72 wiX5_load_X5 (by rfl) ?_
    refine V_bipush (v := 12) C dX5_load_33 (by decide) ?_
    refine V_iload_n (i := 1) C dX5_load_35 rfl rfl ?_
    refine V_imul C dX5_load_36 ?_
    refine V_iload_n (i := 2) C dX5_load_37 rfl rfl ?_
    refine V_iadd C dX5_load_38 ?_
    rw [hix]
    refine V_dup2 C dX5_load_39 rfl rfl ?_
    refine V_zaldK C dX5_load_40 (by first | assumption | exact hset_s _ _ _) rfl (show 12 * k + b < 36 by omega) (by decide) hon ?_
    refine V_join 70 (fun h4 ls4 st4 => h4 = h9 ∧ ls4 = [some (.ref (A 0)), some (.int (nI k)), some (.int (nI b))] ∧ ∃ y, y = (if lmt (xlo X b) = rmt (xcr X k) ∧ (rtr (xcr X k)).length < 4 then (1 : Int32) else 0) ∧ st4 = [.int y, .int (if b ∈ rtr (xcr X k) then 1 else 0), .int (nI (12 * k + b)), .ref (A 24)]) ?_ (fun hj => ?_)
    skip
    · rintro h4 ls4 st4 ⟨z9, rfl, y, hy, rfl⟩
      have z9 := z9.symm
      subst z9
      have hy01 : y = 0 ∨ y = 1 := by
        rw [hy]
        split
        · exact Or.inr rfl
        · exact Or.inl rfl
      obtain ⟨v, hv⟩ : ∃ v : Int32, v = (if b ∈ rtr (xcr X k) then 1 else 0) ||| y := ⟨_, rfl⟩
      have hv01 : v = 0 ∨ v = 1 := by
        rw [hv]
        rcases hy01 with rfl | rfl <;> split <;> decide
      refine V_ior C dX5_load_70 ?_
      rw [← hv]
      refine V_zastK C dX5_load_71 (by first | assumption | exact hset_s _ _ _) rfl (show 12 * k + b < 36 by omega) (by decide) hv01 ?_
      have r3 := r2.s24 (fset (I 24) (12 * k + b) v)
      have f3 := f2.tr (r2.f24 (iarr (cA 2) 36 (fset (I 24) (12 * k + b) v)))
      have m0 := r3.m0
      have m24 := r3.m24
      refine V_aload_n (i := 0) C dX5_load_72 rfl rfl ?_
      refine V_get (ci := 5) (CN := RX5) (T := TX5) (N := 26) C dX5_load_73 (by first | assumption | exact hset_s _ _ _) rfl 24 (by decide) flX5_load_72 wiX5_load_X5 (by rfl) ?_
      refine V_bipush (v := 12) C dX5_load_76 (by decide) ?_
      refine V_iload_n (i := 1) C dX5_load_78 rfl rfl ?_
      refine V_imul C dX5_load_79 ?_
      refine V_iload_n (i := 2) C dX5_load_80 rfl rfl ?_
      refine V_iadd C dX5_load_81 ?_
      rw [hix]
      refine V_zaldK C dX5_load_82 (by first | assumption | exact hset_s _ _ _) rfl (show 12 * k + b < 36 by omega) (by decide) (fset_s _ _ _) ?_
      exact V_zret C dX5_load_83 hr (by rcases hv01 with z | z <;> (rw [z]; rfl)) (by
        by_cases h1 : b ∈ rtr (xcr X k)
        · have hv1 : v = 1 := by rw [hv, if_pos h1]; rcases hy01 with rfl | rfl <;> decide
          rw [if_pos h1] at esp hon
          rw [esp]
          refine ⟨⟨v, rfl, fun _ => hv1⟩, ⟨_, F, r3, ?_⟩, f3⟩
          rw [hv1, show fset (I 24) (12 * k + b) 1 = I 24 from fset_id hon, show fset I 24 (I 24) = I from fset_id rfl]
          exact hP
        · rw [if_neg h1] at esp hon
          by_cases h2 : lmt (xlo X b) = rmt (xcr X k) ∧ (rtr (xcr X k)).length < 4
          · have hv1 : v = 1 := by rw [hv, if_neg h1, hy, if_pos h2]; decide
            rw [if_pos h2] at esp
            rw [esp]
            refine ⟨⟨v, rfl, fun _ => hv1⟩, ⟨_, F, r3, hP.on hk ⟨rfl, rfl, rfl, rfl, rfl⟩ (fun j hj => ?_) (List.nodup_append.mpr ⟨q7, List.nodup_cons.mpr ⟨List.not_mem_nil, List.nodup_nil⟩, fun x hx y hy2 => by rw [List.mem_singleton.mp hy2]; exact fun z => h1 (z ▸ hx)⟩) (fun i hi => fset_n (by omega))⟩, f3⟩
            show fset (I 24) (12 * k + b) v (12 * k + j) = if j ∈ rtr (xcr X k) ++ [b] then 1 else 0
            by_cases hjb : j = b
            · subst hjb
              rw [fset_s, hv1, if_pos (List.mem_append_right _ List.mem_cons_self)]
            · rw [fset_n (by omega), q6 j hj]
              refine ite_iff ⟨fun z => List.mem_append_left _ z, fun z => ?_⟩
              rcases List.mem_append.mp z with z | z
              · exact z
              · exact absurd (List.mem_singleton.mp z) hjb
          · have hv1 : v = 0 := by rw [hv, if_neg h1, hy, if_neg h2]; decide
            rw [if_neg h2] at esp
            rw [esp]
            refine ⟨⟨v, rfl, fun _ => hv1⟩, ⟨_, F, r3, ?_⟩, f3⟩
            rw [hv1, show fset (I 24) (12 * k + b) 0 = I 24 from fset_id hon, show fset I 24 (I 24) = I from fset_id rfl]
            exact hP) (by exact Nat.le_of_ble_eq_true rfl) (by exact Nat.le_of_ble_eq_true rfl)
    · refine V_aload_n (i := 0) C dX5_load_41 rfl rfl ?_
      refine V_get (ci := 5) (CN := RX5) (T := TX5) (N := 26) C dX5_load_42 (by first | assumption | exact hset_s _ _ _) rfl 5 (by decide) flX5_load_17 wiX5_load_X5 (by rfl) ?_
      refine V_iload_n (i := 2) C dX5_load_45 rfl rfl ?_
      refine V_ialdK C dX5_load_46 (by first | assumption | exact hset_s _ _ _) rfl hb12 (by decide) u2 ?_
      refine V_aload_n (i := 0) C dX5_load_47 rfl rfl ?_
      refine V_get (ci := 5) (CN := RX5) (T := TX5) (N := 26) C dX5_load_48 (by first | assumption | exact hset_s _ _ _) rfl 23 (by decide) flX5_load_69 wiX5_load_X5 (by rfl) ?_
      refine V_iload_n (i := 1) C dX5_load_51 rfl rfl ?_
      refine V_ialdK C dX5_load_52 (by first | assumption | exact hset_s _ _ _) rfl hk (by decide) q4 ?_
      refine V_icmp_ne (tgt := 69) C dX5_load_53 (by decide) (fun c53 => ?_) (fun c53 => ?_)
      · have e9 : ¬ (lmt (xlo X b) = rmt (xcr X k) ∧ (rtr (xcr X k)).length < 4) := fun z => c53 z.1
        refine V_iconst (v := 0) C dX5_load_69 (by decide) ?_
        exact hj _ _ _ ⟨rfl, rfl, _, by first | exact (if_pos e9).symm | exact (if_neg e9).symm, rfl⟩
      · have c53 : lmt (xlo X b) = rmt (xcr X k) := c53
        refine V_aload_n (i := 0) C dX5_load_56 rfl rfl ?_
        refine V_iload_n (i := 1) C dX5_load_57 rfl rfl ?_
        refine V_callV (n := 1) C (r_onTray r2 hk hrk (fun j hj => Nat.lt_of_lt_of_le (ht k hk j hj) hnl)) dX5_load_58 gX5_load_X5_onTray rfl (by first | assumption | exact hset_s _ _ _) rfl (by decide +kernel) rfl rfl (by exact Nat.le_of_ble_eq_true rfl) ⟨Nat.le_of_ble_eq_true rfl, Nat.le_of_ble_eq_true rfl⟩ ⟨Nat.le_of_ble_eq_true rfl, Nat.le_of_ble_eq_true rfl⟩ (fun v9 h9 hr9 => ?_)
        obtain ⟨rfl, z9⟩ := hr9
        have z9 := z9.symm
        subst z9
        refine V_iconst (v := 4) C dX5_load_61 (by decide) ?_
        refine V_icmp_ge (tgt := 69) C dX5_load_62 (by decide) (fun c62 => ?_) (fun c62 => ?_)
        · have e9 : ¬ (lmt (xlo X b) = rmt (xcr X k) ∧ (rtr (xcr X k)).length < 4) := fun z => nI_ge (b := 4) z.2 (by decide) c62
          refine V_iconst (v := 0) C dX5_load_69 (by decide) ?_
          exact hj _ _ _ ⟨rfl, rfl, _, by first | exact (if_pos e9).symm | exact (if_neg e9).symm, rfl⟩
        · have e9 : lmt (xlo X b) = rmt (xcr X k) ∧ (rtr (xcr X k)).length < 4 := ⟨c53, by rcases Nat.lt_or_ge (rtr (xcr X k)).length 4 with z | z; exact z; exact absurd (nI_le (a := 4) z (by omega)) c62⟩
          refine V_iconst (v := 1) C dX5_load_65 (by decide) ?_
          refine V_goto (tgt := 70) C dX5_load_66 (by decide) ?_
          exact hj _ _ _ ⟨rfl, rfl, _, by first | exact (if_pos e9).symm | exact (if_neg e9).symm, rfl⟩
  · have e : sp_load X c a = (some kIO, 0, X) := by unfold sp_load; rw [if_neg hx]
    rw [e]
    refine Mt_of (cc := cX5_load) (maxL := 3) (ret := (some .boolean)) (own := RX5) [some (.ref (A 0)), some (.int c), some (.int a)] rfl (by decide +kernel) rfl rfl (by exact Nat.le_of_ble_eq_true rfl) rfl ?_
    intro p9 e9 s9 m9 args9 below9 meth9 c9 C hr hnm
    refine V_join 21 (fun h2 ls2 st2 => h2 = h ∧ ls2 = [some (.ref (A 0)), some (.int c), some (.int a)] ∧ st2 = [.int 0, .ref (A 0)]) ?_ (fun hj => ?_)
    · rintro h2 ls2 st2 ⟨z9, rfl, rfl⟩
      have z9 := z9.symm
      subst z9
      refine V_callV (n := 1) C (r_asked1 (P := False) r rfl) dX5_load_21 gX5_load_X5_asked rfl (by first | assumption | exact hset_s _ _ _) rfl (by decide +kernel) rfl rfl (by exact Nat.le_of_ble_eq_true rfl) ⟨Nat.le_of_ble_eq_true rfl, Nat.le_of_ble_eq_true rfl⟩ ⟨Nat.le_of_ble_eq_true rfl, Nat.le_of_ble_eq_true rfl⟩ (fun v9 h9 hr9 => ?_)
      obtain ⟨rfl, r2, f2⟩ := hr9
      rw [if_neg (fun z => z)] at r2
      refine V_if_ne (tgt := 29) C dX5_load_24 (by decide) (fun z9 => absurd rfl z9) (fun _ => ?_)
      refine V_iconst (v := 0) C dX5_load_27 (by decide) ?_
      exact V_zret C dX5_load_28 hr (by rfl) (Rst_x r2 hP f2 (by decide +kernel)) (by exact Nat.le_of_ble_eq_true rfl) (by exact Nat.le_of_ble_eq_true rfl)
    · refine V_aload_n (i := 0) C dX5_load_0 rfl rfl ?_
      refine V_iload_n (i := 1) C dX5_load_1 rfl rfl ?_
      refine V_callS (n := 1) C (r_isCrewX) dX5_load_2 gX5_load_X5_isCrew rfl (by decide +kernel) rfl rfl (by exact Nat.le_of_ble_eq_true rfl) ⟨Nat.le_of_ble_eq_true rfl, Nat.le_of_ble_eq_true rfl⟩ ⟨Nat.le_of_ble_eq_true rfl, Nat.le_of_ble_eq_true rfl⟩ (fun v9 h9 hr9 => ?_)
      obtain ⟨rfl, z9⟩ := hr9
      have z9 := z9.symm
      subst z9
      refine V_if_eq (tgt := 20) C dX5_load_5 (by decide) (fun c5 => ?_) (fun c5 => ?_)
      · have c5 := ite0.mp c5
        refine V_iconst (v := 0) C dX5_load_20 (by decide) ?_
        exact hj _ _ _ ⟨rfl, rfl, rfl⟩
      · have c5 := Classical.not_not.mp (fun z => c5 (ite0.mpr z))
        refine V_aload_n (i := 0) C dX5_load_8 rfl rfl ?_
        refine V_iload_n (i := 2) C dX5_load_9 rfl rfl ?_
        refine V_callV (n := 1) C (r_isLotX r hd) dX5_load_10 gX5_load_X5_isLot rfl (by first | assumption | exact hset_s _ _ _) rfl (by decide +kernel) rfl rfl (by exact Nat.le_of_ble_eq_true rfl) ⟨Nat.le_of_ble_eq_true rfl, Nat.le_of_ble_eq_true rfl⟩ ⟨Nat.le_of_ble_eq_true rfl, Nat.le_of_ble_eq_true rfl⟩ (fun v9 h9 hr9 => ?_)
        obtain ⟨rfl, z9⟩ := hr9
        have z9 := z9.symm
        subst z9
        refine V_if_eq (tgt := 20) C dX5_load_13 (by decide) (fun c13 => ?_) (fun c13 => ?_)
        · have c13 := ite0.mp c13
          refine V_iconst (v := 0) C dX5_load_20 (by decide) ?_
          exact hj _ _ _ ⟨rfl, rfl, rfl⟩
        · exact absurd ⟨c5, Classical.not_not.mp (fun z => c13 (ite0.mpr z))⟩ hx
          skip
set_option maxHeartbeats 4000000 in
set_option maxRecDepth 100000 in
theorem q_ofPic (r : MR cA A I F (mnn X th) h) (hd : xdim X) (hP : PR X I F) {x d : Int32} : Mt l D cA bs yX5_ofPicture wsX5_ofPicture (rmk 3 0 0) [.ref (A 0), .int x, .int d] h (Rst cA A kIO kIA (sp_ofPic X x d) h) := by
  have m0 := r.m0
  have esp : sp_ofPic X x d = if picN X x then (if okR d 0 3 then (none, nI (cntN (xg X (tN x)) d (xN X (tN x))), X) else (some kIA, 0, X)) else (some kIO, 0, X) := rfl
  refine Mt_of (cc := cX5_ofPicture) (maxL := 3) (ret := (some .int)) (own := RX5) [some (.ref (A 0)), some (.int x), some (.int d)] rfl (by decide +kernel) rfl rfl (by exact Nat.le_of_ble_eq_true rfl) rfl ?_
  intro p9 e9 s9 m9 args9 below9 meth9 c9 C hr hnm
  refine V_aload_n (i := 0) C dX5_ofPicture_0 rfl rfl ?_
  refine V_aload_n (i := 0) C dX5_ofPicture_1 rfl rfl ?_
  refine V_iload_n (i := 1) C dX5_ofPicture_2 rfl rfl ?_
  refine V_callV (n := 1) C (r_isPicX r hd) dX5_ofPicture_3 gX5_ofPicture_X5_isPicture rfl (by first | assumption | exact hset_s _ _ _) rfl (by decide +kernel) rfl rfl (by exact Nat.le_of_ble_eq_true rfl) ⟨Nat.le_of_ble_eq_true rfl, Nat.le_of_ble_eq_true rfl⟩ ⟨Nat.le_of_ble_eq_true rfl, Nat.le_of_ble_eq_true rfl⟩ (fun v9 h9 hr9 => ?_)
  obtain ⟨rfl, z9⟩ := hr9
  have z9 := z9.symm
  subst z9
  refine V_iload_n (i := 2) C dX5_ofPicture_6 rfl rfl ?_
  refine V_iconst (v := 0) C dX5_ofPicture_7 (by decide) ?_
  refine V_iconst (v := 3) C dX5_ofPicture_8 (by decide) ?_
  refine V_callS (n := 3) C (r_in) dX5_ofPicture_9 gX5_ofPicture_X5_in rfl (by decide +kernel) rfl rfl (by exact Nat.le_of_ble_eq_true rfl) ⟨Nat.le_of_ble_eq_true rfl, Nat.le_of_ble_eq_true rfl⟩ ⟨Nat.le_of_ble_eq_true rfl, Nat.le_of_ble_eq_true rfl⟩ (fun v9 h9 hr9 => ?_)
  obtain ⟨rfl, z9⟩ := hr9
  have z9 := z9.symm
  subst z9
  refine V_callV (n := 2) C (r_asked2 r rfl (fun _ => rfl)) dX5_ofPicture_12 gX5_ofPicture_X5_asked_ rfl (by first | assumption | exact hset_s _ _ _) rfl (by decide +kernel) rfl rfl (by exact Nat.le_of_ble_eq_true rfl) ⟨Nat.le_of_ble_eq_true rfl, Nat.le_of_ble_eq_true rfl⟩ ⟨Nat.le_of_ble_eq_true rfl, Nat.le_of_ble_eq_true rfl⟩ (fun v9 h9 hr9 => ?_)
  obtain ⟨rfl, r2, f2⟩ := hr9
  refine V_if_eq (tgt := 27) C dX5_ofPicture_15 (by decide) (fun c15 => ?_) (fun c15 => ?_)
  · have c15 := ite0.mp c15
    refine V_iconst (v := 0) C dX5_ofPicture_27 (by decide) ?_
    exact V_iret C dX5_ofPicture_28 hr (by first
      | exact ⟨⟨_, rfl, fun _ => rfl⟩, ⟨I, F, r2, hP⟩, f2⟩
      | (by_cases h1 : picN X x
         · have h2 : ¬ okR d 0 3 := fun z => c15 ⟨h1, z⟩
           rw [if_pos h1, if_neg h2] at r2
           rw [if_pos h1, if_neg h2] at esp
           rw [esp]
           exact Rst_x r2 hP f2 (by decide +kernel)
         · rw [if_neg h1] at r2
           rw [if_neg h1] at esp
           rw [esp]
           exact Rst_x r2 hP f2 (by decide +kernel))) (by exact Nat.le_of_ble_eq_true rfl) (by exact Nat.le_of_ble_eq_true rfl)
  · have c15 := Classical.not_not.mp (fun z => c15 (ite0.mpr z))
    obtain ⟨k, hk, rfl, ek⟩ := picN_of hd c15.1
    rw [if_pos c15.1, if_pos c15.2] at r2
    rw [if_pos c15.1, if_pos c15.2, ek] at esp
    rw [esp]
    have m0 := r2.m0
    refine V_aload_n (i := 0) C dX5_ofPicture_18 rfl rfl ?_
    refine V_iload_n (i := 1) C dX5_ofPicture_19 rfl rfl ?_
    refine V_iload_n (i := 2) C dX5_ofPicture_20 rfl rfl ?_
    refine V_callV (n := 2) C (r_count (X := X) (th := 0) (kd := d) r2 hd hP hk) dX5_ofPicture_21 gX5_ofPicture_X5_count rfl (by first | assumption | exact hset_s _ _ _) rfl (by decide +kernel) rfl rfl (by exact Nat.le_of_ble_eq_true rfl) ⟨Nat.le_of_ble_eq_true rfl, Nat.le_of_ble_eq_true rfl⟩ ⟨Nat.le_of_ble_eq_true rfl, Nat.le_of_ble_eq_true rfl⟩ (fun v9 h9 hr9 => ?_)
    obtain ⟨rfl, z9⟩ := hr9
    have z9 := z9.symm
    subst z9
    refine V_goto (tgt := 28) C dX5_ofPicture_24 (by decide) ?_
    exact V_iret C dX5_ofPicture_28 hr (by first
      | exact ⟨⟨_, rfl, fun _ => rfl⟩, ⟨I, F, r2, hP⟩, f2⟩
      | (by_cases h1 : picN X x
         · have h2 : ¬ okR d 0 3 := fun z => c15 ⟨h1, z⟩
           rw [if_pos h1, if_neg h2] at r2
           rw [if_pos h1, if_neg h2] at esp
           rw [esp]
           exact Rst_x r2 hP f2 (by decide +kernel)
         · rw [if_neg h1] at r2
           rw [if_neg h1] at esp
           rw [esp]
           exact Rst_x r2 hP f2 (by decide +kernel))) (by exact Nat.le_of_ble_eq_true rfl) (by exact Nat.le_of_ble_eq_true rfl)
set_option maxHeartbeats 4000000 in
set_option maxRecDepth 100000 in
theorem q_ofLot (r : MR cA A I F (mnn X th) h) (hI : CI M X) (hP : PR X I F) {x d : Int32} : Mt l D cA bs yX5_ofLot wsX5_ofLot (rmk 3 0 0) [.ref (A 0), .int x, .int d] h (Rst cA A kIO kIA (sp_ofLot X x d) h) := by
  have m0 := r.m0
  have hd := hI.1.1
  have hnl := hd.1
  by_cases hx : lotN X x ∧ okR d 0 4
  · obtain ⟨k, hk, rfl, ek⟩ := lotN_of hd hx.1
    obtain ⟨u1, u2, u3, u4, u5, u6⟩ := hP.1 k hk
    have hk12 : k < 12 := by omega
    have htn : FP.Core.val32 (ltn (xlo X k)) ≠ .nan := (hI.2.2.1 k hk).1.1.1.ne_nan
    have e : sp_ofLot X (nI k) d = (none, oflV (xlo X k) d, X) := by unfold sp_ofLot; rw [if_pos hx.1, if_pos hx.2, ek]
    rw [e]
    obtain ⟨q, hq, rfl, -⟩ := okR_of (b := 4) (by decide) hx.2
    have hq5 : q = 0 ∨ q = 1 ∨ q = 2 ∨ q = 3 ∨ q = 4 := by omega
    rcases hq5 with rfl | rfl | rfl | rfl | rfl
    · refine Mt_of (cc := cX5_ofLot) (maxL := 3) (ret := (some .int)) (own := RX5) [some (.ref (A 0)), some (.int (nI k)), some (.int (nI 0))] rfl (by decide +kernel) rfl rfl (by exact Nat.le_of_ble_eq_true rfl) rfl ?_
      intro p9 e9 s9 m9 args9 below9 meth9 c9 C hr hnm
      refine V_aload_n (i := 0) C dX5_ofLot_0 rfl rfl ?_
      refine V_aload_n (i := 0) C dX5_ofLot_1 rfl rfl ?_
      refine V_iload_n (i := 1) C dX5_ofLot_2 rfl rfl ?_
      refine V_callV (n := 1) C (r_isLotX r hd) dX5_ofLot_3 gX5_ofLot_X5_isLot rfl (by first | assumption | exact hset_s _ _ _) rfl (by decide +kernel) rfl rfl (by exact Nat.le_of_ble_eq_true rfl) ⟨Nat.le_of_ble_eq_true rfl, Nat.le_of_ble_eq_true rfl⟩ ⟨Nat.le_of_ble_eq_true rfl, Nat.le_of_ble_eq_true rfl⟩ (fun v9 h9 hr9 => ?_)
      rw [if_pos hx.1] at hr9
      obtain ⟨rfl, z9⟩ := hr9
      have z9 := z9.symm
      subst z9
      refine V_iload_n (i := 2) C dX5_ofLot_6 rfl rfl ?_
      refine V_iconst (v := 0) C dX5_ofLot_7 (by decide) ?_
      refine V_iconst (v := 4) C dX5_ofLot_8 (by decide) ?_
      refine V_callS (n := 3) C (r_in) dX5_ofLot_9 gX5_ofLot_X5_in rfl (by decide +kernel) rfl rfl (by exact Nat.le_of_ble_eq_true rfl) ⟨Nat.le_of_ble_eq_true rfl, Nat.le_of_ble_eq_true rfl⟩ ⟨Nat.le_of_ble_eq_true rfl, Nat.le_of_ble_eq_true rfl⟩ (fun v9 h9 hr9 => ?_)
      rw [if_pos hx.2] at hr9
      obtain ⟨rfl, z9⟩ := hr9
      have z9 := z9.symm
      subst z9
      refine V_callV (n := 2) C (r_asked2 (P := True) (Q := True) r rfl (fun _ => rfl)) dX5_ofLot_12 gX5_ofLot_X5_asked_ rfl (by first | assumption | exact hset_s _ _ _) rfl (by decide +kernel) rfl rfl (by exact Nat.le_of_ble_eq_true rfl) ⟨Nat.le_of_ble_eq_true rfl, Nat.le_of_ble_eq_true rfl⟩ ⟨Nat.le_of_ble_eq_true rfl, Nat.le_of_ble_eq_true rfl⟩ (fun v9 h9 hr9 => ?_)
      obtain ⟨rfl, r2, f2⟩ := hr9
      rw [if_pos trivial, if_pos trivial] at r2
      have m0 := r2.m0
      have m3 := r2.m3
      have m6 := r2.m6
      have m7 := r2.m7
      have m8 := r2.m8
      refine V_if_ne (tgt := 20) C dX5_ofLot_15 (by decide) (fun _ => ?_) (fun z9 => absurd z9 (by decide))
      refine V_iload_n (i := 2) C dX5_ofLot_20 rfl rfl ?_
      refine V_if_ne (tgt := 32) C dX5_ofLot_21 (by decide) (fun z9 => absurd rfl z9) (fun _ => ?_)
      refine V_aload_n (i := 0) C dX5_ofLot_24 rfl rfl ?_
      refine V_iload_n (i := 1) C dX5_ofLot_25 rfl rfl ?_
      refine V_callV (n := 1) C (r_left r2 hk12) dX5_ofLot_26 gX5_ofLot_X5_left rfl (by first | assumption | exact hset_s _ _ _) rfl (by decide +kernel) rfl rfl (by exact Nat.le_of_ble_eq_true rfl) ⟨Nat.le_of_ble_eq_true rfl, Nat.le_of_ble_eq_true rfl⟩ ⟨Nat.le_of_ble_eq_true rfl, Nat.le_of_ble_eq_true rfl⟩ (fun v9 h9 hr9 => ?_)
      obtain ⟨rfl, z9⟩ := hr9
      have z9 := z9.symm
      subst z9
      refine V_goto (tgt := 91) C dX5_ofLot_29 (by decide) ?_
      exact V_iret C dX5_ofLot_91 hr ⟨⟨_, rfl, fun _ => u6⟩, ⟨I, F, r2, hP⟩, f2⟩ (by exact Nat.le_of_ble_eq_true rfl) (by exact Nat.le_of_ble_eq_true rfl)
    · refine Mt_of (cc := cX5_ofLot) (maxL := 3) (ret := (some .int)) (own := RX5) [some (.ref (A 0)), some (.int (nI k)), some (.int (nI 1))] rfl (by decide +kernel) rfl rfl (by exact Nat.le_of_ble_eq_true rfl) rfl ?_
      intro p9 e9 s9 m9 args9 below9 meth9 c9 C hr hnm
      refine V_aload_n (i := 0) C dX5_ofLot_0 rfl rfl ?_
      refine V_aload_n (i := 0) C dX5_ofLot_1 rfl rfl ?_
      refine V_iload_n (i := 1) C dX5_ofLot_2 rfl rfl ?_
      refine V_callV (n := 1) C (r_isLotX r hd) dX5_ofLot_3 gX5_ofLot_X5_isLot rfl (by first | assumption | exact hset_s _ _ _) rfl (by decide +kernel) rfl rfl (by exact Nat.le_of_ble_eq_true rfl) ⟨Nat.le_of_ble_eq_true rfl, Nat.le_of_ble_eq_true rfl⟩ ⟨Nat.le_of_ble_eq_true rfl, Nat.le_of_ble_eq_true rfl⟩ (fun v9 h9 hr9 => ?_)
      rw [if_pos hx.1] at hr9
      obtain ⟨rfl, z9⟩ := hr9
      have z9 := z9.symm
      subst z9
      refine V_iload_n (i := 2) C dX5_ofLot_6 rfl rfl ?_
      refine V_iconst (v := 0) C dX5_ofLot_7 (by decide) ?_
      refine V_iconst (v := 4) C dX5_ofLot_8 (by decide) ?_
      refine V_callS (n := 3) C (r_in) dX5_ofLot_9 gX5_ofLot_X5_in rfl (by decide +kernel) rfl rfl (by exact Nat.le_of_ble_eq_true rfl) ⟨Nat.le_of_ble_eq_true rfl, Nat.le_of_ble_eq_true rfl⟩ ⟨Nat.le_of_ble_eq_true rfl, Nat.le_of_ble_eq_true rfl⟩ (fun v9 h9 hr9 => ?_)
      rw [if_pos hx.2] at hr9
      obtain ⟨rfl, z9⟩ := hr9
      have z9 := z9.symm
      subst z9
      refine V_callV (n := 2) C (r_asked2 (P := True) (Q := True) r rfl (fun _ => rfl)) dX5_ofLot_12 gX5_ofLot_X5_asked_ rfl (by first | assumption | exact hset_s _ _ _) rfl (by decide +kernel) rfl rfl (by exact Nat.le_of_ble_eq_true rfl) ⟨Nat.le_of_ble_eq_true rfl, Nat.le_of_ble_eq_true rfl⟩ ⟨Nat.le_of_ble_eq_true rfl, Nat.le_of_ble_eq_true rfl⟩ (fun v9 h9 hr9 => ?_)
      obtain ⟨rfl, r2, f2⟩ := hr9
      rw [if_pos trivial, if_pos trivial] at r2
      have m0 := r2.m0
      have m3 := r2.m3
      have m6 := r2.m6
      have m7 := r2.m7
      have m8 := r2.m8
      refine V_if_ne (tgt := 20) C dX5_ofLot_15 (by decide) (fun _ => ?_) (fun z9 => absurd z9 (by decide))
      refine V_iload_n (i := 2) C dX5_ofLot_20 rfl rfl ?_
      refine V_if_ne (tgt := 32) C dX5_ofLot_21 (by decide) (fun _ => ?_) (fun z9 => absurd z9 (by decide))
      refine V_iload_n (i := 2) C dX5_ofLot_32 rfl rfl ?_
      refine V_iconst (v := 1) C dX5_ofLot_33 (by decide) ?_
      refine V_icmp_ne (tgt := 46) C dX5_ofLot_34 (by decide) (fun z9 => absurd rfl z9) (fun _ => ?_)
      refine V_aload_n (i := 0) C dX5_ofLot_37 rfl rfl ?_
      refine V_get (ci := 5) (CN := RX5) (T := TX5) (N := 26) C dX5_ofLot_38 (by first | assumption | exact hset_s _ _ _) rfl 7 (by decide) flX5_ofLot_24 wiX5_ofLot_X5 (by rfl) ?_
      refine V_iload_n (i := 1) C dX5_ofLot_41 rfl rfl ?_
      refine V_ialdK C dX5_ofLot_42 (by first | assumption | exact hset_s _ _ _) rfl hk12 (by decide) u4 ?_
      refine V_goto (tgt := 91) C dX5_ofLot_43 (by decide) ?_
      exact V_iret C dX5_ofLot_91 hr ⟨⟨_, rfl, fun _ => rfl⟩, ⟨I, F, r2, hP⟩, f2⟩ (by exact Nat.le_of_ble_eq_true rfl) (by exact Nat.le_of_ble_eq_true rfl)
    · refine Mt_of (cc := cX5_ofLot) (maxL := 3) (ret := (some .int)) (own := RX5) [some (.ref (A 0)), some (.int (nI k)), some (.int (nI 2))] rfl (by decide +kernel) rfl rfl (by exact Nat.le_of_ble_eq_true rfl) rfl ?_
      intro p9 e9 s9 m9 args9 below9 meth9 c9 C hr hnm
      refine V_aload_n (i := 0) C dX5_ofLot_0 rfl rfl ?_
      refine V_aload_n (i := 0) C dX5_ofLot_1 rfl rfl ?_
      refine V_iload_n (i := 1) C dX5_ofLot_2 rfl rfl ?_
      refine V_callV (n := 1) C (r_isLotX r hd) dX5_ofLot_3 gX5_ofLot_X5_isLot rfl (by first | assumption | exact hset_s _ _ _) rfl (by decide +kernel) rfl rfl (by exact Nat.le_of_ble_eq_true rfl) ⟨Nat.le_of_ble_eq_true rfl, Nat.le_of_ble_eq_true rfl⟩ ⟨Nat.le_of_ble_eq_true rfl, Nat.le_of_ble_eq_true rfl⟩ (fun v9 h9 hr9 => ?_)
      rw [if_pos hx.1] at hr9
      obtain ⟨rfl, z9⟩ := hr9
      have z9 := z9.symm
      subst z9
      refine V_iload_n (i := 2) C dX5_ofLot_6 rfl rfl ?_
      refine V_iconst (v := 0) C dX5_ofLot_7 (by decide) ?_
      refine V_iconst (v := 4) C dX5_ofLot_8 (by decide) ?_
      refine V_callS (n := 3) C (r_in) dX5_ofLot_9 gX5_ofLot_X5_in rfl (by decide +kernel) rfl rfl (by exact Nat.le_of_ble_eq_true rfl) ⟨Nat.le_of_ble_eq_true rfl, Nat.le_of_ble_eq_true rfl⟩ ⟨Nat.le_of_ble_eq_true rfl, Nat.le_of_ble_eq_true rfl⟩ (fun v9 h9 hr9 => ?_)
      rw [if_pos hx.2] at hr9
      obtain ⟨rfl, z9⟩ := hr9
      have z9 := z9.symm
      subst z9
      refine V_callV (n := 2) C (r_asked2 (P := True) (Q := True) r rfl (fun _ => rfl)) dX5_ofLot_12 gX5_ofLot_X5_asked_ rfl (by first | assumption | exact hset_s _ _ _) rfl (by decide +kernel) rfl rfl (by exact Nat.le_of_ble_eq_true rfl) ⟨Nat.le_of_ble_eq_true rfl, Nat.le_of_ble_eq_true rfl⟩ ⟨Nat.le_of_ble_eq_true rfl, Nat.le_of_ble_eq_true rfl⟩ (fun v9 h9 hr9 => ?_)
      obtain ⟨rfl, r2, f2⟩ := hr9
      rw [if_pos trivial, if_pos trivial] at r2
      have m0 := r2.m0
      have m3 := r2.m3
      have m6 := r2.m6
      have m7 := r2.m7
      have m8 := r2.m8
      refine V_if_ne (tgt := 20) C dX5_ofLot_15 (by decide) (fun _ => ?_) (fun z9 => absurd z9 (by decide))
      refine V_iload_n (i := 2) C dX5_ofLot_20 rfl rfl ?_
      refine V_if_ne (tgt := 32) C dX5_ofLot_21 (by decide) (fun _ => ?_) (fun z9 => absurd z9 (by decide))
      refine V_iload_n (i := 2) C dX5_ofLot_32 rfl rfl ?_
      refine V_iconst (v := 1) C dX5_ofLot_33 (by decide) ?_
      refine V_icmp_ne (tgt := 46) C dX5_ofLot_34 (by decide) (fun _ => ?_) (fun z9 => absurd z9 (by decide))
      refine V_iload_n (i := 2) C dX5_ofLot_46 rfl rfl ?_
      refine V_iconst (v := 2) C dX5_ofLot_47 (by decide) ?_
      refine V_icmp_ne (tgt := 60) C dX5_ofLot_48 (by decide) (fun z9 => absurd rfl z9) (fun _ => ?_)
      refine V_aload_n (i := 0) C dX5_ofLot_51 rfl rfl ?_
      refine V_get (ci := 5) (CN := RX5) (T := TX5) (N := 26) C dX5_ofLot_52 (by first | assumption | exact hset_s _ _ _) rfl 8 (by decide) flX5_ofLot_27 wiX5_ofLot_X5 (by rfl) ?_
      refine V_iload_n (i := 1) C dX5_ofLot_55 rfl rfl ?_
      refine V_ialdK C dX5_ofLot_56 (by first | assumption | exact hset_s _ _ _) rfl hk12 (by decide) u5 ?_
      refine V_goto (tgt := 91) C dX5_ofLot_57 (by decide) ?_
      exact V_iret C dX5_ofLot_91 hr ⟨⟨_, rfl, fun _ => rfl⟩, ⟨I, F, r2, hP⟩, f2⟩ (by exact Nat.le_of_ble_eq_true rfl) (by exact Nat.le_of_ble_eq_true rfl)
    · refine Mt_of (cc := cX5_ofLot) (maxL := 3) (ret := (some .int)) (own := RX5) [some (.ref (A 0)), some (.int (nI k)), some (.int (nI 3))] rfl (by decide +kernel) rfl rfl (by exact Nat.le_of_ble_eq_true rfl) rfl ?_
      intro p9 e9 s9 m9 args9 below9 meth9 c9 C hr hnm
      refine V_aload_n (i := 0) C dX5_ofLot_0 rfl rfl ?_
      refine V_aload_n (i := 0) C dX5_ofLot_1 rfl rfl ?_
      refine V_iload_n (i := 1) C dX5_ofLot_2 rfl rfl ?_
      refine V_callV (n := 1) C (r_isLotX r hd) dX5_ofLot_3 gX5_ofLot_X5_isLot rfl (by first | assumption | exact hset_s _ _ _) rfl (by decide +kernel) rfl rfl (by exact Nat.le_of_ble_eq_true rfl) ⟨Nat.le_of_ble_eq_true rfl, Nat.le_of_ble_eq_true rfl⟩ ⟨Nat.le_of_ble_eq_true rfl, Nat.le_of_ble_eq_true rfl⟩ (fun v9 h9 hr9 => ?_)
      rw [if_pos hx.1] at hr9
      obtain ⟨rfl, z9⟩ := hr9
      have z9 := z9.symm
      subst z9
      refine V_iload_n (i := 2) C dX5_ofLot_6 rfl rfl ?_
      refine V_iconst (v := 0) C dX5_ofLot_7 (by decide) ?_
      refine V_iconst (v := 4) C dX5_ofLot_8 (by decide) ?_
      refine V_callS (n := 3) C (r_in) dX5_ofLot_9 gX5_ofLot_X5_in rfl (by decide +kernel) rfl rfl (by exact Nat.le_of_ble_eq_true rfl) ⟨Nat.le_of_ble_eq_true rfl, Nat.le_of_ble_eq_true rfl⟩ ⟨Nat.le_of_ble_eq_true rfl, Nat.le_of_ble_eq_true rfl⟩ (fun v9 h9 hr9 => ?_)
      rw [if_pos hx.2] at hr9
      obtain ⟨rfl, z9⟩ := hr9
      have z9 := z9.symm
      subst z9
      refine V_callV (n := 2) C (r_asked2 (P := True) (Q := True) r rfl (fun _ => rfl)) dX5_ofLot_12 gX5_ofLot_X5_asked_ rfl (by first | assumption | exact hset_s _ _ _) rfl (by decide +kernel) rfl rfl (by exact Nat.le_of_ble_eq_true rfl) ⟨Nat.le_of_ble_eq_true rfl, Nat.le_of_ble_eq_true rfl⟩ ⟨Nat.le_of_ble_eq_true rfl, Nat.le_of_ble_eq_true rfl⟩ (fun v9 h9 hr9 => ?_)
      obtain ⟨rfl, r2, f2⟩ := hr9
      rw [if_pos trivial, if_pos trivial] at r2
      have m0 := r2.m0
      have m3 := r2.m3
      have m6 := r2.m6
      have m7 := r2.m7
      have m8 := r2.m8
      refine V_if_ne (tgt := 20) C dX5_ofLot_15 (by decide) (fun _ => ?_) (fun z9 => absurd z9 (by decide))
      refine V_iload_n (i := 2) C dX5_ofLot_20 rfl rfl ?_
      refine V_if_ne (tgt := 32) C dX5_ofLot_21 (by decide) (fun _ => ?_) (fun z9 => absurd z9 (by decide))
      refine V_iload_n (i := 2) C dX5_ofLot_32 rfl rfl ?_
      refine V_iconst (v := 1) C dX5_ofLot_33 (by decide) ?_
      refine V_icmp_ne (tgt := 46) C dX5_ofLot_34 (by decide) (fun _ => ?_) (fun z9 => absurd z9 (by decide))
      refine V_iload_n (i := 2) C dX5_ofLot_46 rfl rfl ?_
      refine V_iconst (v := 2) C dX5_ofLot_47 (by decide) ?_
      refine V_icmp_ne (tgt := 60) C dX5_ofLot_48 (by decide) (fun _ => ?_) (fun z9 => absurd z9 (by decide))
      refine V_iload_n (i := 2) C dX5_ofLot_60 rfl rfl ?_
      refine V_iconst (v := 3) C dX5_ofLot_61 (by decide) ?_
      refine V_icmp_ne (tgt := 82) C dX5_ofLot_62 (by decide) (fun z9 => absurd rfl z9) (fun _ => ?_)
      refine V_aload_n (i := 0) C dX5_ofLot_65 rfl rfl ?_
      refine V_get (ci := 5) (CN := RX5) (T := TX5) (N := 26) C dX5_ofLot_66 (by first | assumption | exact hset_s _ _ _) rfl 6 (by decide) flX5_ofLot_20 wiX5_ofLot_X5 (by rfl) ?_
      refine V_iload_n (i := 1) C dX5_ofLot_69 rfl rfl ?_
      refine V_zaldK C dX5_ofLot_70 (by first | assumption | exact hset_s _ _ _) rfl hk12 (by decide) u3 ?_
      refine V_if_eq (tgt := 78) C dX5_ofLot_71 (by decide) (fun c71 => ?_) (fun c71 => ?_)
      · have c71 : lth (xlo X k) = 0 := c71
        refine V_iconst (v := 0) C dX5_ofLot_78 (by decide) ?_
        refine V_goto (tgt := 91) C dX5_ofLot_79 (by decide) ?_
        exact V_iret C dX5_ofLot_91 hr ⟨⟨_, rfl, fun _ => by show _ = (if lth (xlo X k) = 0 then 0 else 1); first | rw [if_pos c71] | rw [if_neg c71]⟩, ⟨I, F, r2, hP⟩, f2⟩ (by exact Nat.le_of_ble_eq_true rfl) (by exact Nat.le_of_ble_eq_true rfl)
      · have c71 : ¬ lth (xlo X k) = 0 := c71
        refine V_iconst (v := 1) C dX5_ofLot_74 (by decide) ?_
        refine V_goto (tgt := 91) C dX5_ofLot_75 (by decide) ?_
        exact V_iret C dX5_ofLot_91 hr ⟨⟨_, rfl, fun _ => by show _ = (if lth (xlo X k) = 0 then 0 else 1); first | rw [if_pos c71] | rw [if_neg c71]⟩, ⟨I, F, r2, hP⟩, f2⟩ (by exact Nat.le_of_ble_eq_true rfl) (by exact Nat.le_of_ble_eq_true rfl)
    · refine Mt_of (cc := cX5_ofLot) (maxL := 3) (ret := (some .int)) (own := RX5) [some (.ref (A 0)), some (.int (nI k)), some (.int (nI 4))] rfl (by decide +kernel) rfl rfl (by exact Nat.le_of_ble_eq_true rfl) rfl ?_
      intro p9 e9 s9 m9 args9 below9 meth9 c9 C hr hnm
      refine V_aload_n (i := 0) C dX5_ofLot_0 rfl rfl ?_
      refine V_aload_n (i := 0) C dX5_ofLot_1 rfl rfl ?_
      refine V_iload_n (i := 1) C dX5_ofLot_2 rfl rfl ?_
      refine V_callV (n := 1) C (r_isLotX r hd) dX5_ofLot_3 gX5_ofLot_X5_isLot rfl (by first | assumption | exact hset_s _ _ _) rfl (by decide +kernel) rfl rfl (by exact Nat.le_of_ble_eq_true rfl) ⟨Nat.le_of_ble_eq_true rfl, Nat.le_of_ble_eq_true rfl⟩ ⟨Nat.le_of_ble_eq_true rfl, Nat.le_of_ble_eq_true rfl⟩ (fun v9 h9 hr9 => ?_)
      rw [if_pos hx.1] at hr9
      obtain ⟨rfl, z9⟩ := hr9
      have z9 := z9.symm
      subst z9
      refine V_iload_n (i := 2) C dX5_ofLot_6 rfl rfl ?_
      refine V_iconst (v := 0) C dX5_ofLot_7 (by decide) ?_
      refine V_iconst (v := 4) C dX5_ofLot_8 (by decide) ?_
      refine V_callS (n := 3) C (r_in) dX5_ofLot_9 gX5_ofLot_X5_in rfl (by decide +kernel) rfl rfl (by exact Nat.le_of_ble_eq_true rfl) ⟨Nat.le_of_ble_eq_true rfl, Nat.le_of_ble_eq_true rfl⟩ ⟨Nat.le_of_ble_eq_true rfl, Nat.le_of_ble_eq_true rfl⟩ (fun v9 h9 hr9 => ?_)
      rw [if_pos hx.2] at hr9
      obtain ⟨rfl, z9⟩ := hr9
      have z9 := z9.symm
      subst z9
      refine V_callV (n := 2) C (r_asked2 (P := True) (Q := True) r rfl (fun _ => rfl)) dX5_ofLot_12 gX5_ofLot_X5_asked_ rfl (by first | assumption | exact hset_s _ _ _) rfl (by decide +kernel) rfl rfl (by exact Nat.le_of_ble_eq_true rfl) ⟨Nat.le_of_ble_eq_true rfl, Nat.le_of_ble_eq_true rfl⟩ ⟨Nat.le_of_ble_eq_true rfl, Nat.le_of_ble_eq_true rfl⟩ (fun v9 h9 hr9 => ?_)
      obtain ⟨rfl, r2, f2⟩ := hr9
      rw [if_pos trivial, if_pos trivial] at r2
      have m0 := r2.m0
      have m3 := r2.m3
      have m6 := r2.m6
      have m7 := r2.m7
      have m8 := r2.m8
      refine V_if_ne (tgt := 20) C dX5_ofLot_15 (by decide) (fun _ => ?_) (fun z9 => absurd z9 (by decide))
      refine V_iload_n (i := 2) C dX5_ofLot_20 rfl rfl ?_
      refine V_if_ne (tgt := 32) C dX5_ofLot_21 (by decide) (fun _ => ?_) (fun z9 => absurd z9 (by decide))
      refine V_iload_n (i := 2) C dX5_ofLot_32 rfl rfl ?_
      refine V_iconst (v := 1) C dX5_ofLot_33 (by decide) ?_
      refine V_icmp_ne (tgt := 46) C dX5_ofLot_34 (by decide) (fun _ => ?_) (fun z9 => absurd z9 (by decide))
      refine V_iload_n (i := 2) C dX5_ofLot_46 rfl rfl ?_
      refine V_iconst (v := 2) C dX5_ofLot_47 (by decide) ?_
      refine V_icmp_ne (tgt := 60) C dX5_ofLot_48 (by decide) (fun _ => ?_) (fun z9 => absurd z9 (by decide))
      refine V_iload_n (i := 2) C dX5_ofLot_60 rfl rfl ?_
      refine V_iconst (v := 3) C dX5_ofLot_61 (by decide) ?_
      refine V_icmp_ne (tgt := 82) C dX5_ofLot_62 (by decide) (fun _ => ?_) (fun z9 => absurd z9 (by decide))
      refine V_aload_n (i := 0) C dX5_ofLot_82 rfl rfl ?_
      refine V_get (ci := 5) (CN := RX5) (T := TX5) (N := 26) C dX5_ofLot_83 (by first | assumption | exact hset_s _ _ _) rfl 3 (by decide) flX5_ofLot_7 wiX5_ofLot_X5 (by rfl) ?_
      refine V_iload_n (i := 1) C dX5_ofLot_86 rfl rfl ?_
      refine V_faldK C dX5_ofLot_87 (by first | assumption | exact hset_s _ _ _) rfl hk12 (by decide) u1 ?_
      refine V_callS (n := 1) C (j_bits htn) dX5_ofLot_88 gX5_ofLot_Jxf58ca_floatToIntBits_5c35a rfl (by decide +kernel) rfl rfl (by exact Nat.le_of_ble_eq_true rfl) ⟨Nat.le_of_ble_eq_true rfl, Nat.le_of_ble_eq_true rfl⟩ ⟨Nat.le_of_ble_eq_true rfl, Nat.le_of_ble_eq_true rfl⟩ (fun v9 h9 hr9 => ?_)
      obtain ⟨rfl, z9⟩ := hr9
      have z9 := z9.symm
      subst z9
      exact V_iret C dX5_ofLot_91 hr ⟨⟨_, rfl, fun _ => rfl⟩, ⟨I, F, r2, hP⟩, f2⟩ (by exact Nat.le_of_ble_eq_true rfl) (by exact Nat.le_of_ble_eq_true rfl)
  · have esp : sp_ofLot X x d = if lotN X x then (if okR d 0 4 then (none, oflV (xlo X (tN x)) d, X) else (some kIA, 0, X)) else (some kIO, 0, X) := rfl
    refine Mt_of (cc := cX5_ofLot) (maxL := 3) (ret := (some .int)) (own := RX5) [some (.ref (A 0)), some (.int x), some (.int d)] rfl (by decide +kernel) rfl rfl (by exact Nat.le_of_ble_eq_true rfl) rfl ?_
    intro p9 e9 s9 m9 args9 below9 meth9 c9 C hr hnm
    refine V_aload_n (i := 0) C dX5_ofLot_0 rfl rfl ?_
    refine V_aload_n (i := 0) C dX5_ofLot_1 rfl rfl ?_
    refine V_iload_n (i := 1) C dX5_ofLot_2 rfl rfl ?_
    refine V_callV (n := 1) C (r_isLotX r hd) dX5_ofLot_3 gX5_ofLot_X5_isLot rfl (by first | assumption | exact hset_s _ _ _) rfl (by decide +kernel) rfl rfl (by exact Nat.le_of_ble_eq_true rfl) ⟨Nat.le_of_ble_eq_true rfl, Nat.le_of_ble_eq_true rfl⟩ ⟨Nat.le_of_ble_eq_true rfl, Nat.le_of_ble_eq_true rfl⟩ (fun v9 h9 hr9 => ?_)
    obtain ⟨rfl, z9⟩ := hr9
    have z9 := z9.symm
    subst z9
    refine V_iload_n (i := 2) C dX5_ofLot_6 rfl rfl ?_
    refine V_iconst (v := 0) C dX5_ofLot_7 (by decide) ?_
    refine V_iconst (v := 4) C dX5_ofLot_8 (by decide) ?_
    refine V_callS (n := 3) C (r_in) dX5_ofLot_9 gX5_ofLot_X5_in rfl (by decide +kernel) rfl rfl (by exact Nat.le_of_ble_eq_true rfl) ⟨Nat.le_of_ble_eq_true rfl, Nat.le_of_ble_eq_true rfl⟩ ⟨Nat.le_of_ble_eq_true rfl, Nat.le_of_ble_eq_true rfl⟩ (fun v9 h9 hr9 => ?_)
    obtain ⟨rfl, z9⟩ := hr9
    have z9 := z9.symm
    subst z9
    refine V_callV (n := 2) C (r_asked2 r rfl (fun _ => rfl)) dX5_ofLot_12 gX5_ofLot_X5_asked_ rfl (by first | assumption | exact hset_s _ _ _) rfl (by decide +kernel) rfl rfl (by exact Nat.le_of_ble_eq_true rfl) ⟨Nat.le_of_ble_eq_true rfl, Nat.le_of_ble_eq_true rfl⟩ ⟨Nat.le_of_ble_eq_true rfl, Nat.le_of_ble_eq_true rfl⟩ (fun v9 h9 hr9 => ?_)
    obtain ⟨rfl, r2, f2⟩ := hr9
    refine V_if_ne (tgt := 20) C dX5_ofLot_15 (by decide) (fun z9 => absurd (if_neg hx) z9) (fun _ => ?_)
    refine V_iconst (v := 0) C dX5_ofLot_18 (by decide) ?_
    exact V_iret C dX5_ofLot_19 hr (by
      by_cases h1 : lotN X x
      · have h2 : ¬ okR d 0 4 := fun z => hx ⟨h1, z⟩
        rw [if_pos h1, if_neg h2] at r2
        rw [if_pos h1, if_neg h2] at esp
        rw [esp]
        exact Rst_x r2 hP f2 (by decide +kernel)
      · rw [if_neg h1] at r2
        rw [if_neg h1] at esp
        rw [esp]
        exact Rst_x r2 hP f2 (by decide +kernel)) (by exact Nat.le_of_ble_eq_true rfl) (by exact Nat.le_of_ble_eq_true rfl)
set_option maxHeartbeats 4000000 in
set_option maxRecDepth 100000 in
theorem q_ofCrew (r : MR cA A I F (mnn X th) h) (hd : xdim X) (hP : PR X I F) (ht : ∀ c, c < 3 → ∀ b, b ∈ rtr (xcr X c) → b < xnl X) {x d : Int32} : Mt l D cA bs yX5_ofCrew wsX5_ofCrew (rmk 3 0 0) [.ref (A 0), .int x, .int d] h (Rst cA A kIO kIA (sp_ofCrew X x d) h) := by
  have m0 := r.m0
  have hnl := hd.1
  by_cases hx : crewN x ∧ okR d 0 3
  · obtain ⟨k, hk, rfl, ek⟩ := crewN_of hx.1
    have hrk := hP.2.2.2.2.2.2 k hk
    obtain ⟨q1, q2, q3, q4, q5, q6, q7⟩ := id hrk
    have e : sp_ofCrew X (nI k) d = (none, ofrV (xcr X k) d, X) := by unfold sp_ofCrew; rw [if_pos hx.1, if_pos hx.2, ek]
    rw [e]
    obtain ⟨q, hq, rfl, -⟩ := okR_of (b := 3) (by decide) hx.2
    have hq5 : q = 0 ∨ q = 1 ∨ q = 2 ∨ q = 3 := by omega
    rcases hq5 with rfl | rfl | rfl | rfl
    · refine Mt_of (cc := cX5_ofCrew) (maxL := 3) (ret := (some .int)) (own := RX5) [some (.ref (A 0)), some (.int (nI k)), some (.int (nI 0))] rfl (by decide +kernel) rfl rfl (by exact Nat.le_of_ble_eq_true rfl) rfl ?_
      intro p9 e9 s9 m9 args9 below9 meth9 c9 C hr hnm
      refine V_aload_n (i := 0) C dX5_ofCrew_0 rfl rfl ?_
      refine V_iload_n (i := 1) C dX5_ofCrew_1 rfl rfl ?_
      refine V_callS (n := 1) C (r_isCrewX) dX5_ofCrew_2 gX5_ofCrew_X5_isCrew rfl (by decide +kernel) rfl rfl (by exact Nat.le_of_ble_eq_true rfl) ⟨Nat.le_of_ble_eq_true rfl, Nat.le_of_ble_eq_true rfl⟩ ⟨Nat.le_of_ble_eq_true rfl, Nat.le_of_ble_eq_true rfl⟩ (fun v9 h9 hr9 => ?_)
      rw [if_pos hx.1] at hr9
      obtain ⟨rfl, z9⟩ := hr9
      have z9 := z9.symm
      subst z9
      refine V_iload_n (i := 2) C dX5_ofCrew_5 rfl rfl ?_
      refine V_iconst (v := 0) C dX5_ofCrew_6 (by decide) ?_
      refine V_iconst (v := 3) C dX5_ofCrew_7 (by decide) ?_
      refine V_callS (n := 3) C (r_in) dX5_ofCrew_8 gX5_ofCrew_X5_in rfl (by decide +kernel) rfl rfl (by exact Nat.le_of_ble_eq_true rfl) ⟨Nat.le_of_ble_eq_true rfl, Nat.le_of_ble_eq_true rfl⟩ ⟨Nat.le_of_ble_eq_true rfl, Nat.le_of_ble_eq_true rfl⟩ (fun v9 h9 hr9 => ?_)
      rw [if_pos hx.2] at hr9
      obtain ⟨rfl, z9⟩ := hr9
      have z9 := z9.symm
      subst z9
      refine V_callV (n := 2) C (r_asked2 (P := True) (Q := True) r rfl (fun _ => rfl)) dX5_ofCrew_11 gX5_ofCrew_X5_asked_ rfl (by first | assumption | exact hset_s _ _ _) rfl (by decide +kernel) rfl rfl (by exact Nat.le_of_ble_eq_true rfl) ⟨Nat.le_of_ble_eq_true rfl, Nat.le_of_ble_eq_true rfl⟩ ⟨Nat.le_of_ble_eq_true rfl, Nat.le_of_ble_eq_true rfl⟩ (fun v9 h9 hr9 => ?_)
      obtain ⟨rfl, r2, f2⟩ := hr9
      rw [if_pos trivial, if_pos trivial] at r2
      have m0 := r2.m0
      have m20 := r2.m20
      have m23 := r2.m23
      have m25 := r2.m25
      refine V_if_ne (tgt := 19) C dX5_ofCrew_14 (by decide) (fun _ => ?_) (fun z9 => absurd z9 (by decide))
      refine V_iload_n (i := 2) C dX5_ofCrew_19 rfl rfl ?_
      refine V_if_ne (tgt := 32) C dX5_ofCrew_20 (by decide) (fun z9 => absurd rfl z9) (fun _ => ?_)
      refine V_aload_n (i := 0) C dX5_ofCrew_23 rfl rfl ?_
      refine V_get (ci := 5) (CN := RX5) (T := TX5) (N := 26) C dX5_ofCrew_24 (by first | assumption | exact hset_s _ _ _) rfl 20 (by decide) flX5_ofCrew_60 wiX5_ofCrew_X5 (by rfl) ?_
      refine V_iload_n (i := 1) C dX5_ofCrew_27 rfl rfl ?_
      refine V_ialdK C dX5_ofCrew_28 (by first | assumption | exact hset_s _ _ _) rfl hk (by decide) q1 ?_
      refine V_goto (tgt := 65) C dX5_ofCrew_29 (by decide) ?_
      exact V_iret C dX5_ofCrew_65 hr ⟨⟨_, rfl, fun _ => rfl⟩, ⟨I, F, r2, hP⟩, f2⟩ (by exact Nat.le_of_ble_eq_true rfl) (by exact Nat.le_of_ble_eq_true rfl)
    · refine Mt_of (cc := cX5_ofCrew) (maxL := 3) (ret := (some .int)) (own := RX5) [some (.ref (A 0)), some (.int (nI k)), some (.int (nI 1))] rfl (by decide +kernel) rfl rfl (by exact Nat.le_of_ble_eq_true rfl) rfl ?_
      intro p9 e9 s9 m9 args9 below9 meth9 c9 C hr hnm
      refine V_aload_n (i := 0) C dX5_ofCrew_0 rfl rfl ?_
      refine V_iload_n (i := 1) C dX5_ofCrew_1 rfl rfl ?_
      refine V_callS (n := 1) C (r_isCrewX) dX5_ofCrew_2 gX5_ofCrew_X5_isCrew rfl (by decide +kernel) rfl rfl (by exact Nat.le_of_ble_eq_true rfl) ⟨Nat.le_of_ble_eq_true rfl, Nat.le_of_ble_eq_true rfl⟩ ⟨Nat.le_of_ble_eq_true rfl, Nat.le_of_ble_eq_true rfl⟩ (fun v9 h9 hr9 => ?_)
      rw [if_pos hx.1] at hr9
      obtain ⟨rfl, z9⟩ := hr9
      have z9 := z9.symm
      subst z9
      refine V_iload_n (i := 2) C dX5_ofCrew_5 rfl rfl ?_
      refine V_iconst (v := 0) C dX5_ofCrew_6 (by decide) ?_
      refine V_iconst (v := 3) C dX5_ofCrew_7 (by decide) ?_
      refine V_callS (n := 3) C (r_in) dX5_ofCrew_8 gX5_ofCrew_X5_in rfl (by decide +kernel) rfl rfl (by exact Nat.le_of_ble_eq_true rfl) ⟨Nat.le_of_ble_eq_true rfl, Nat.le_of_ble_eq_true rfl⟩ ⟨Nat.le_of_ble_eq_true rfl, Nat.le_of_ble_eq_true rfl⟩ (fun v9 h9 hr9 => ?_)
      rw [if_pos hx.2] at hr9
      obtain ⟨rfl, z9⟩ := hr9
      have z9 := z9.symm
      subst z9
      refine V_callV (n := 2) C (r_asked2 (P := True) (Q := True) r rfl (fun _ => rfl)) dX5_ofCrew_11 gX5_ofCrew_X5_asked_ rfl (by first | assumption | exact hset_s _ _ _) rfl (by decide +kernel) rfl rfl (by exact Nat.le_of_ble_eq_true rfl) ⟨Nat.le_of_ble_eq_true rfl, Nat.le_of_ble_eq_true rfl⟩ ⟨Nat.le_of_ble_eq_true rfl, Nat.le_of_ble_eq_true rfl⟩ (fun v9 h9 hr9 => ?_)
      obtain ⟨rfl, r2, f2⟩ := hr9
      rw [if_pos trivial, if_pos trivial] at r2
      have m0 := r2.m0
      have m20 := r2.m20
      have m23 := r2.m23
      have m25 := r2.m25
      refine V_if_ne (tgt := 19) C dX5_ofCrew_14 (by decide) (fun _ => ?_) (fun z9 => absurd z9 (by decide))
      refine V_iload_n (i := 2) C dX5_ofCrew_19 rfl rfl ?_
      refine V_if_ne (tgt := 32) C dX5_ofCrew_20 (by decide) (fun _ => ?_) (fun z9 => absurd z9 (by decide))
      refine V_iload_n (i := 2) C dX5_ofCrew_32 rfl rfl ?_
      refine V_iconst (v := 1) C dX5_ofCrew_33 (by decide) ?_
      refine V_icmp_ne (tgt := 46) C dX5_ofCrew_34 (by decide) (fun z9 => absurd rfl z9) (fun _ => ?_)
      refine V_aload_n (i := 0) C dX5_ofCrew_37 rfl rfl ?_
      refine V_get (ci := 5) (CN := RX5) (T := TX5) (N := 26) C dX5_ofCrew_38 (by first | assumption | exact hset_s _ _ _) rfl 23 (by decide) flX5_ofCrew_69 wiX5_ofCrew_X5 (by rfl) ?_
      refine V_iload_n (i := 1) C dX5_ofCrew_41 rfl rfl ?_
      refine V_ialdK C dX5_ofCrew_42 (by first | assumption | exact hset_s _ _ _) rfl hk (by decide) q4 ?_
      refine V_goto (tgt := 65) C dX5_ofCrew_43 (by decide) ?_
      exact V_iret C dX5_ofCrew_65 hr ⟨⟨_, rfl, fun _ => rfl⟩, ⟨I, F, r2, hP⟩, f2⟩ (by exact Nat.le_of_ble_eq_true rfl) (by exact Nat.le_of_ble_eq_true rfl)
    · refine Mt_of (cc := cX5_ofCrew) (maxL := 3) (ret := (some .int)) (own := RX5) [some (.ref (A 0)), some (.int (nI k)), some (.int (nI 2))] rfl (by decide +kernel) rfl rfl (by exact Nat.le_of_ble_eq_true rfl) rfl ?_
      intro p9 e9 s9 m9 args9 below9 meth9 c9 C hr hnm
      refine V_aload_n (i := 0) C dX5_ofCrew_0 rfl rfl ?_
      refine V_iload_n (i := 1) C dX5_ofCrew_1 rfl rfl ?_
      refine V_callS (n := 1) C (r_isCrewX) dX5_ofCrew_2 gX5_ofCrew_X5_isCrew rfl (by decide +kernel) rfl rfl (by exact Nat.le_of_ble_eq_true rfl) ⟨Nat.le_of_ble_eq_true rfl, Nat.le_of_ble_eq_true rfl⟩ ⟨Nat.le_of_ble_eq_true rfl, Nat.le_of_ble_eq_true rfl⟩ (fun v9 h9 hr9 => ?_)
      rw [if_pos hx.1] at hr9
      obtain ⟨rfl, z9⟩ := hr9
      have z9 := z9.symm
      subst z9
      refine V_iload_n (i := 2) C dX5_ofCrew_5 rfl rfl ?_
      refine V_iconst (v := 0) C dX5_ofCrew_6 (by decide) ?_
      refine V_iconst (v := 3) C dX5_ofCrew_7 (by decide) ?_
      refine V_callS (n := 3) C (r_in) dX5_ofCrew_8 gX5_ofCrew_X5_in rfl (by decide +kernel) rfl rfl (by exact Nat.le_of_ble_eq_true rfl) ⟨Nat.le_of_ble_eq_true rfl, Nat.le_of_ble_eq_true rfl⟩ ⟨Nat.le_of_ble_eq_true rfl, Nat.le_of_ble_eq_true rfl⟩ (fun v9 h9 hr9 => ?_)
      rw [if_pos hx.2] at hr9
      obtain ⟨rfl, z9⟩ := hr9
      have z9 := z9.symm
      subst z9
      refine V_callV (n := 2) C (r_asked2 (P := True) (Q := True) r rfl (fun _ => rfl)) dX5_ofCrew_11 gX5_ofCrew_X5_asked_ rfl (by first | assumption | exact hset_s _ _ _) rfl (by decide +kernel) rfl rfl (by exact Nat.le_of_ble_eq_true rfl) ⟨Nat.le_of_ble_eq_true rfl, Nat.le_of_ble_eq_true rfl⟩ ⟨Nat.le_of_ble_eq_true rfl, Nat.le_of_ble_eq_true rfl⟩ (fun v9 h9 hr9 => ?_)
      obtain ⟨rfl, r2, f2⟩ := hr9
      rw [if_pos trivial, if_pos trivial] at r2
      have m0 := r2.m0
      have m20 := r2.m20
      have m23 := r2.m23
      have m25 := r2.m25
      refine V_if_ne (tgt := 19) C dX5_ofCrew_14 (by decide) (fun _ => ?_) (fun z9 => absurd z9 (by decide))
      refine V_iload_n (i := 2) C dX5_ofCrew_19 rfl rfl ?_
      refine V_if_ne (tgt := 32) C dX5_ofCrew_20 (by decide) (fun _ => ?_) (fun z9 => absurd z9 (by decide))
      refine V_iload_n (i := 2) C dX5_ofCrew_32 rfl rfl ?_
      refine V_iconst (v := 1) C dX5_ofCrew_33 (by decide) ?_
      refine V_icmp_ne (tgt := 46) C dX5_ofCrew_34 (by decide) (fun _ => ?_) (fun z9 => absurd z9 (by decide))
      refine V_iload_n (i := 2) C dX5_ofCrew_46 rfl rfl ?_
      refine V_iconst (v := 2) C dX5_ofCrew_47 (by decide) ?_
      refine V_icmp_ne (tgt := 59) C dX5_ofCrew_48 (by decide) (fun z9 => absurd rfl z9) (fun _ => ?_)
      refine V_aload_n (i := 0) C dX5_ofCrew_51 rfl rfl ?_
      refine V_iload_n (i := 1) C dX5_ofCrew_52 rfl rfl ?_
      refine V_callV (n := 1) C (r_onTray r2 hk hrk (fun j hj => Nat.lt_of_lt_of_le (ht k hk j hj) hnl)) dX5_ofCrew_53 gX5_ofCrew_X5_onTray rfl (by first | assumption | exact hset_s _ _ _) rfl (by decide +kernel) rfl rfl (by exact Nat.le_of_ble_eq_true rfl) ⟨Nat.le_of_ble_eq_true rfl, Nat.le_of_ble_eq_true rfl⟩ ⟨Nat.le_of_ble_eq_true rfl, Nat.le_of_ble_eq_true rfl⟩ (fun v9 h9 hr9 => ?_)
      obtain ⟨rfl, z9⟩ := hr9
      have z9 := z9.symm
      subst z9
      refine V_goto (tgt := 65) C dX5_ofCrew_56 (by decide) ?_
      exact V_iret C dX5_ofCrew_65 hr ⟨⟨_, rfl, fun _ => rfl⟩, ⟨I, F, r2, hP⟩, f2⟩ (by exact Nat.le_of_ble_eq_true rfl) (by exact Nat.le_of_ble_eq_true rfl)
    · refine Mt_of (cc := cX5_ofCrew) (maxL := 3) (ret := (some .int)) (own := RX5) [some (.ref (A 0)), some (.int (nI k)), some (.int (nI 3))] rfl (by decide +kernel) rfl rfl (by exact Nat.le_of_ble_eq_true rfl) rfl ?_
      intro p9 e9 s9 m9 args9 below9 meth9 c9 C hr hnm
      refine V_aload_n (i := 0) C dX5_ofCrew_0 rfl rfl ?_
      refine V_iload_n (i := 1) C dX5_ofCrew_1 rfl rfl ?_
      refine V_callS (n := 1) C (r_isCrewX) dX5_ofCrew_2 gX5_ofCrew_X5_isCrew rfl (by decide +kernel) rfl rfl (by exact Nat.le_of_ble_eq_true rfl) ⟨Nat.le_of_ble_eq_true rfl, Nat.le_of_ble_eq_true rfl⟩ ⟨Nat.le_of_ble_eq_true rfl, Nat.le_of_ble_eq_true rfl⟩ (fun v9 h9 hr9 => ?_)
      rw [if_pos hx.1] at hr9
      obtain ⟨rfl, z9⟩ := hr9
      have z9 := z9.symm
      subst z9
      refine V_iload_n (i := 2) C dX5_ofCrew_5 rfl rfl ?_
      refine V_iconst (v := 0) C dX5_ofCrew_6 (by decide) ?_
      refine V_iconst (v := 3) C dX5_ofCrew_7 (by decide) ?_
      refine V_callS (n := 3) C (r_in) dX5_ofCrew_8 gX5_ofCrew_X5_in rfl (by decide +kernel) rfl rfl (by exact Nat.le_of_ble_eq_true rfl) ⟨Nat.le_of_ble_eq_true rfl, Nat.le_of_ble_eq_true rfl⟩ ⟨Nat.le_of_ble_eq_true rfl, Nat.le_of_ble_eq_true rfl⟩ (fun v9 h9 hr9 => ?_)
      rw [if_pos hx.2] at hr9
      obtain ⟨rfl, z9⟩ := hr9
      have z9 := z9.symm
      subst z9
      refine V_callV (n := 2) C (r_asked2 (P := True) (Q := True) r rfl (fun _ => rfl)) dX5_ofCrew_11 gX5_ofCrew_X5_asked_ rfl (by first | assumption | exact hset_s _ _ _) rfl (by decide +kernel) rfl rfl (by exact Nat.le_of_ble_eq_true rfl) ⟨Nat.le_of_ble_eq_true rfl, Nat.le_of_ble_eq_true rfl⟩ ⟨Nat.le_of_ble_eq_true rfl, Nat.le_of_ble_eq_true rfl⟩ (fun v9 h9 hr9 => ?_)
      obtain ⟨rfl, r2, f2⟩ := hr9
      rw [if_pos trivial, if_pos trivial] at r2
      have m0 := r2.m0
      have m20 := r2.m20
      have m23 := r2.m23
      have m25 := r2.m25
      refine V_if_ne (tgt := 19) C dX5_ofCrew_14 (by decide) (fun _ => ?_) (fun z9 => absurd z9 (by decide))
      refine V_iload_n (i := 2) C dX5_ofCrew_19 rfl rfl ?_
      refine V_if_ne (tgt := 32) C dX5_ofCrew_20 (by decide) (fun _ => ?_) (fun z9 => absurd z9 (by decide))
      refine V_iload_n (i := 2) C dX5_ofCrew_32 rfl rfl ?_
      refine V_iconst (v := 1) C dX5_ofCrew_33 (by decide) ?_
      refine V_icmp_ne (tgt := 46) C dX5_ofCrew_34 (by decide) (fun _ => ?_) (fun z9 => absurd z9 (by decide))
      refine V_iload_n (i := 2) C dX5_ofCrew_46 rfl rfl ?_
      refine V_iconst (v := 2) C dX5_ofCrew_47 (by decide) ?_
      refine V_icmp_ne (tgt := 59) C dX5_ofCrew_48 (by decide) (fun _ => ?_) (fun z9 => absurd z9 (by decide))
      refine V_aload_n (i := 0) C dX5_ofCrew_59 rfl rfl ?_
      refine V_get (ci := 5) (CN := RX5) (T := TX5) (N := 26) C dX5_ofCrew_60 (by first | assumption | exact hset_s _ _ _) rfl 25 (by decide) flX5_ofCrew_75 wiX5_ofCrew_X5 (by rfl) ?_
      refine V_iload_n (i := 1) C dX5_ofCrew_63 rfl rfl ?_
      refine V_ialdK C dX5_ofCrew_64 (by first | assumption | exact hset_s _ _ _) rfl hk (by decide) q5 ?_
      exact V_iret C dX5_ofCrew_65 hr ⟨⟨_, rfl, fun _ => rfl⟩, ⟨I, F, r2, hP⟩, f2⟩ (by exact Nat.le_of_ble_eq_true rfl) (by exact Nat.le_of_ble_eq_true rfl)
  · have esp : sp_ofCrew X x d = if crewN x then (if okR d 0 3 then (none, ofrV (xcr X (tN x)) d, X) else (some kIA, 0, X)) else (some kIO, 0, X) := rfl
    refine Mt_of (cc := cX5_ofCrew) (maxL := 3) (ret := (some .int)) (own := RX5) [some (.ref (A 0)), some (.int x), some (.int d)] rfl (by decide +kernel) rfl rfl (by exact Nat.le_of_ble_eq_true rfl) rfl ?_
    intro p9 e9 s9 m9 args9 below9 meth9 c9 C hr hnm
    refine V_aload_n (i := 0) C dX5_ofCrew_0 rfl rfl ?_
    refine V_iload_n (i := 1) C dX5_ofCrew_1 rfl rfl ?_
    refine V_callS (n := 1) C (r_isCrewX) dX5_ofCrew_2 gX5_ofCrew_X5_isCrew rfl (by decide +kernel) rfl rfl (by exact Nat.le_of_ble_eq_true rfl) ⟨Nat.le_of_ble_eq_true rfl, Nat.le_of_ble_eq_true rfl⟩ ⟨Nat.le_of_ble_eq_true rfl, Nat.le_of_ble_eq_true rfl⟩ (fun v9 h9 hr9 => ?_)
    obtain ⟨rfl, z9⟩ := hr9
    have z9 := z9.symm
    subst z9
    refine V_iload_n (i := 2) C dX5_ofCrew_5 rfl rfl ?_
    refine V_iconst (v := 0) C dX5_ofCrew_6 (by decide) ?_
    refine V_iconst (v := 3) C dX5_ofCrew_7 (by decide) ?_
    refine V_callS (n := 3) C (r_in) dX5_ofCrew_8 gX5_ofCrew_X5_in rfl (by decide +kernel) rfl rfl (by exact Nat.le_of_ble_eq_true rfl) ⟨Nat.le_of_ble_eq_true rfl, Nat.le_of_ble_eq_true rfl⟩ ⟨Nat.le_of_ble_eq_true rfl, Nat.le_of_ble_eq_true rfl⟩ (fun v9 h9 hr9 => ?_)
    obtain ⟨rfl, z9⟩ := hr9
    have z9 := z9.symm
    subst z9
    refine V_callV (n := 2) C (r_asked2 r rfl (fun _ => rfl)) dX5_ofCrew_11 gX5_ofCrew_X5_asked_ rfl (by first | assumption | exact hset_s _ _ _) rfl (by decide +kernel) rfl rfl (by exact Nat.le_of_ble_eq_true rfl) ⟨Nat.le_of_ble_eq_true rfl, Nat.le_of_ble_eq_true rfl⟩ ⟨Nat.le_of_ble_eq_true rfl, Nat.le_of_ble_eq_true rfl⟩ (fun v9 h9 hr9 => ?_)
    obtain ⟨rfl, r2, f2⟩ := hr9
    refine V_if_ne (tgt := 19) C dX5_ofCrew_14 (by decide) (fun z9 => absurd (if_neg hx) z9) (fun _ => ?_)
    refine V_iconst (v := 0) C dX5_ofCrew_17 (by decide) ?_
    exact V_iret C dX5_ofCrew_18 hr (by
      by_cases h1 : crewN x
      · have h2 : ¬ okR d 0 3 := fun z => hx ⟨h1, z⟩
        rw [if_pos h1, if_neg h2] at r2
        rw [if_pos h1, if_neg h2] at esp
        rw [esp]
        exact Rst_x r2 hP f2 (by decide +kernel)
      · rw [if_neg h1] at r2
        rw [if_neg h1] at esp
        rw [esp]
        exact Rst_x r2 hP f2 (by decide +kernel)) (by exact Nat.le_of_ble_eq_true rfl) (by exact Nat.le_of_ble_eq_true rfl)
set_option maxHeartbeats 4000000 in
set_option maxRecDepth 100000 in
theorem q_ofCell (r : MR cA A I F (mnn X th) h) (hI : CI M X) (hP : PR X I F) {a b c d : Int32} : Mt l D cA bs yX5_ofCell wsX5_ofCell (rmk 4 0 0) [.ref (A 0), .int a, .int b, .int c, .int d] h (Rst cA A kIO kIA (sp_ofCell X a b c d) h) := by
  have m0 := r.m0
  have hd := hI.1.1
  have hnp := hd.2.1
  by_cases hx : celN X a b c ∧ okR d 0 4
  · obtain ⟨p, i, j, hp, hi, hj, rfl, rfl, rfl, ep, ec⟩ := celN_of hd hx.1
    have hk := at_lt hi hj
    obtain ⟨⟨w1, w2⟩, g1, g2⟩ := hd.2.2 p hp
    have hcl := cx_lt (p := p) w1 w2 g2 (by omega) hk
    obtain ⟨q1, q2, q3, q4, q5, q6⟩ := hP.2.2.2.1 p hp _ hk
    have hcam : FP.Core.val32 (cam (xg X p (j * xwd X p + i))) ≠ .nan := (hI.2.1 p hp _ hk).2.1.1.ne_nan
    have e : sp_ofCell X (nI p) (nI i) (nI j) d = (none, ofcV (xg X p (j * xwd X p + i)) d, X) := by unfold sp_ofCell; rw [if_pos hx.1, if_pos hx.2, ep, ec]
    rw [e]
    obtain ⟨q, hq, rfl, -⟩ := okR_of (b := 4) (by decide) hx.2
    have hq5 : q = 0 ∨ q = 1 ∨ q = 2 ∨ q = 3 ∨ q = 4 := by omega
    rcases hq5 with rfl | rfl | rfl | rfl | rfl
    · refine Mt_of (cc := cX5_ofCell) (maxL := 7) (ret := (some .int)) (own := RX5) [some (.ref (A 0)), some (.int (nI p)), some (.int (nI i)), some (.int (nI j)), some (.int (nI 0)), none, none] rfl (by decide +kernel) rfl rfl (by exact Nat.le_of_ble_eq_true rfl) rfl ?_
      intro p9 e9 s9 m9 args9 below9 meth9 c9 C hr hnm
      refine V_aload_n (i := 0) C dX5_ofCell_0 rfl rfl ?_
      refine V_iload_n (i := 1) C dX5_ofCell_1 rfl rfl ?_
      refine V_iload_n (i := 2) C dX5_ofCell_2 rfl rfl ?_
      refine V_iload_n (i := 3) C dX5_ofCell_3 rfl rfl ?_
      refine V_callV (n := 3) C (r_isCell r hd hP) dX5_ofCell_4 gX5_ofCell_X5_isCell rfl (by first | assumption | exact hset_s _ _ _) rfl (by decide +kernel) rfl rfl (by exact Nat.le_of_ble_eq_true rfl) ⟨Nat.le_of_ble_eq_true rfl, Nat.le_of_ble_eq_true rfl⟩ ⟨Nat.le_of_ble_eq_true rfl, Nat.le_of_ble_eq_true rfl⟩ (fun v9 h9 hr9 => ?_)
      rw [if_pos hx.1] at hr9
      obtain ⟨rfl, z9⟩ := hr9
      have z9 := z9.symm
      subst z9
      refine V_istore5 C dX5_ofCell_7 (by decide) ?_
      refine V_aload_n (i := 0) C dX5_ofCell_9 rfl rfl ?_
      refine V_iload C dX5_ofCell_10 rfl ?_
      refine V_iload C dX5_ofCell_12 rfl ?_
      refine V_iconst (v := 0) C dX5_ofCell_14 (by decide) ?_
      refine V_iconst (v := 4) C dX5_ofCell_15 (by decide) ?_
      refine V_callS (n := 3) C (r_in) dX5_ofCell_16 gX5_ofCell_X5_in rfl (by decide +kernel) rfl rfl (by exact Nat.le_of_ble_eq_true rfl) ⟨Nat.le_of_ble_eq_true rfl, Nat.le_of_ble_eq_true rfl⟩ ⟨Nat.le_of_ble_eq_true rfl, Nat.le_of_ble_eq_true rfl⟩ (fun v9 h9 hr9 => ?_)
      rw [if_pos hx.2] at hr9
      obtain ⟨rfl, z9⟩ := hr9
      have z9 := z9.symm
      subst z9
      refine V_callV (n := 2) C (r_asked2 (P := True) (Q := True) r rfl (fun _ => rfl)) dX5_ofCell_19 gX5_ofCell_X5_asked_ rfl (by first | assumption | exact hset_s _ _ _) rfl (by decide +kernel) rfl rfl (by exact Nat.le_of_ble_eq_true rfl) ⟨Nat.le_of_ble_eq_true rfl, Nat.le_of_ble_eq_true rfl⟩ ⟨Nat.le_of_ble_eq_true rfl, Nat.le_of_ble_eq_true rfl⟩ (fun v9 h9 hr9 => ?_)
      obtain ⟨rfl, r2, f2⟩ := hr9
      rw [if_pos trivial, if_pos trivial] at r2
      have m0 := r2.m0
      have m12 := r2.m12
      have m13 := r2.m13
      have m14 := r2.m14
      have m15 := r2.m15
      have m16 := r2.m16
      refine V_if_ne (tgt := 27) C dX5_ofCell_22 (by decide) (fun _ => ?_) (fun z9 => absurd z9 (by decide))
      refine V_iload_n (i := 1) C dX5_ofCell_27 rfl rfl ?_
      refine V_iload_n (i := 2) C dX5_ofCell_28 rfl rfl ?_
      refine V_iload_n (i := 3) C dX5_ofCell_29 rfl rfl ?_
      refine V_callS (n := 3) C (r_cellOf) dX5_ofCell_30 gX5_ofCell_X5_cellOf rfl (by decide +kernel) rfl rfl (by exact Nat.le_of_ble_eq_true rfl) ⟨Nat.le_of_ble_eq_true rfl, Nat.le_of_ble_eq_true rfl⟩ ⟨Nat.le_of_ble_eq_true rfl, Nat.le_of_ble_eq_true rfl⟩ (fun v9 h9 hr9 => ?_)
      obtain ⟨rfl, z9⟩ := hr9
      have z9 := z9.symm
      subst z9
      rw [← cx_at p hi]
      refine V_istore6 C dX5_ofCell_33 (by decide) ?_
      refine V_iload C dX5_ofCell_35 rfl ?_
      refine V_if_ne (tgt := 50) C dX5_ofCell_37 (by decide) (fun z9 => absurd rfl z9) (fun _ => ?_)
      refine V_aload_n (i := 0) C dX5_ofCell_40 rfl rfl ?_
      refine V_get (ci := 5) (CN := RX5) (T := TX5) (N := 26) C dX5_ofCell_41 (by first | assumption | exact hset_s _ _ _) rfl 13 (by decide) flX5_ofCell_39 wiX5_ofCell_X5 (by rfl) ?_
      refine V_iload C dX5_ofCell_44 rfl ?_
      refine V_ialdK C dX5_ofCell_46 (by first | assumption | exact hset_s _ _ _) rfl hcl (by decide) q2 ?_
      refine V_goto (tgt := 108) C dX5_ofCell_47 (by decide) ?_
      exact V_iret C dX5_ofCell_108 hr ⟨⟨_, rfl, fun _ => rfl⟩, ⟨I, F, r2, hP⟩, f2⟩ (by exact Nat.le_of_ble_eq_true rfl) (by exact Nat.le_of_ble_eq_true rfl)
    · refine Mt_of (cc := cX5_ofCell) (maxL := 7) (ret := (some .int)) (own := RX5) [some (.ref (A 0)), some (.int (nI p)), some (.int (nI i)), some (.int (nI j)), some (.int (nI 1)), none, none] rfl (by decide +kernel) rfl rfl (by exact Nat.le_of_ble_eq_true rfl) rfl ?_
      intro p9 e9 s9 m9 args9 below9 meth9 c9 C hr hnm
      refine V_aload_n (i := 0) C dX5_ofCell_0 rfl rfl ?_
      refine V_iload_n (i := 1) C dX5_ofCell_1 rfl rfl ?_
      refine V_iload_n (i := 2) C dX5_ofCell_2 rfl rfl ?_
      refine V_iload_n (i := 3) C dX5_ofCell_3 rfl rfl ?_
      refine V_callV (n := 3) C (r_isCell r hd hP) dX5_ofCell_4 gX5_ofCell_X5_isCell rfl (by first | assumption | exact hset_s _ _ _) rfl (by decide +kernel) rfl rfl (by exact Nat.le_of_ble_eq_true rfl) ⟨Nat.le_of_ble_eq_true rfl, Nat.le_of_ble_eq_true rfl⟩ ⟨Nat.le_of_ble_eq_true rfl, Nat.le_of_ble_eq_true rfl⟩ (fun v9 h9 hr9 => ?_)
      rw [if_pos hx.1] at hr9
      obtain ⟨rfl, z9⟩ := hr9
      have z9 := z9.symm
      subst z9
      refine V_istore5 C dX5_ofCell_7 (by decide) ?_
      refine V_aload_n (i := 0) C dX5_ofCell_9 rfl rfl ?_
      refine V_iload C dX5_ofCell_10 rfl ?_
      refine V_iload C dX5_ofCell_12 rfl ?_
      refine V_iconst (v := 0) C dX5_ofCell_14 (by decide) ?_
      refine V_iconst (v := 4) C dX5_ofCell_15 (by decide) ?_
      refine V_callS (n := 3) C (r_in) dX5_ofCell_16 gX5_ofCell_X5_in rfl (by decide +kernel) rfl rfl (by exact Nat.le_of_ble_eq_true rfl) ⟨Nat.le_of_ble_eq_true rfl, Nat.le_of_ble_eq_true rfl⟩ ⟨Nat.le_of_ble_eq_true rfl, Nat.le_of_ble_eq_true rfl⟩ (fun v9 h9 hr9 => ?_)
      rw [if_pos hx.2] at hr9
      obtain ⟨rfl, z9⟩ := hr9
      have z9 := z9.symm
      subst z9
      refine V_callV (n := 2) C (r_asked2 (P := True) (Q := True) r rfl (fun _ => rfl)) dX5_ofCell_19 gX5_ofCell_X5_asked_ rfl (by first | assumption | exact hset_s _ _ _) rfl (by decide +kernel) rfl rfl (by exact Nat.le_of_ble_eq_true rfl) ⟨Nat.le_of_ble_eq_true rfl, Nat.le_of_ble_eq_true rfl⟩ ⟨Nat.le_of_ble_eq_true rfl, Nat.le_of_ble_eq_true rfl⟩ (fun v9 h9 hr9 => ?_)
      obtain ⟨rfl, r2, f2⟩ := hr9
      rw [if_pos trivial, if_pos trivial] at r2
      have m0 := r2.m0
      have m12 := r2.m12
      have m13 := r2.m13
      have m14 := r2.m14
      have m15 := r2.m15
      have m16 := r2.m16
      refine V_if_ne (tgt := 27) C dX5_ofCell_22 (by decide) (fun _ => ?_) (fun z9 => absurd z9 (by decide))
      refine V_iload_n (i := 1) C dX5_ofCell_27 rfl rfl ?_
      refine V_iload_n (i := 2) C dX5_ofCell_28 rfl rfl ?_
      refine V_iload_n (i := 3) C dX5_ofCell_29 rfl rfl ?_
      refine V_callS (n := 3) C (r_cellOf) dX5_ofCell_30 gX5_ofCell_X5_cellOf rfl (by decide +kernel) rfl rfl (by exact Nat.le_of_ble_eq_true rfl) ⟨Nat.le_of_ble_eq_true rfl, Nat.le_of_ble_eq_true rfl⟩ ⟨Nat.le_of_ble_eq_true rfl, Nat.le_of_ble_eq_true rfl⟩ (fun v9 h9 hr9 => ?_)
      obtain ⟨rfl, z9⟩ := hr9
      have z9 := z9.symm
      subst z9
      rw [← cx_at p hi]
      refine V_istore6 C dX5_ofCell_33 (by decide) ?_
      refine V_iload C dX5_ofCell_35 rfl ?_
      refine V_if_ne (tgt := 50) C dX5_ofCell_37 (by decide) (fun _ => ?_) (fun z9 => absurd z9 (by decide))
      refine V_iload C dX5_ofCell_50 rfl ?_
      refine V_iconst (v := 1) C dX5_ofCell_52 (by decide) ?_
      refine V_icmp_ne (tgt := 66) C dX5_ofCell_53 (by decide) (fun z9 => absurd rfl z9) (fun _ => ?_)
      refine V_aload_n (i := 0) C dX5_ofCell_56 rfl rfl ?_
      refine V_get (ci := 5) (CN := RX5) (T := TX5) (N := 26) C dX5_ofCell_57 (by first | assumption | exact hset_s _ _ _) rfl 14 (by decide) flX5_ofCell_42 wiX5_ofCell_X5 (by rfl) ?_
      refine V_iload C dX5_ofCell_60 rfl ?_
      refine V_ialdK C dX5_ofCell_62 (by first | assumption | exact hset_s _ _ _) rfl hcl (by decide) q3 ?_
      refine V_goto (tgt := 108) C dX5_ofCell_63 (by decide) ?_
      exact V_iret C dX5_ofCell_108 hr ⟨⟨_, rfl, fun _ => rfl⟩, ⟨I, F, r2, hP⟩, f2⟩ (by exact Nat.le_of_ble_eq_true rfl) (by exact Nat.le_of_ble_eq_true rfl)
    · refine Mt_of (cc := cX5_ofCell) (maxL := 7) (ret := (some .int)) (own := RX5) [some (.ref (A 0)), some (.int (nI p)), some (.int (nI i)), some (.int (nI j)), some (.int (nI 2)), none, none] rfl (by decide +kernel) rfl rfl (by exact Nat.le_of_ble_eq_true rfl) rfl ?_
      intro p9 e9 s9 m9 args9 below9 meth9 c9 C hr hnm
      refine V_aload_n (i := 0) C dX5_ofCell_0 rfl rfl ?_
      refine V_iload_n (i := 1) C dX5_ofCell_1 rfl rfl ?_
      refine V_iload_n (i := 2) C dX5_ofCell_2 rfl rfl ?_
      refine V_iload_n (i := 3) C dX5_ofCell_3 rfl rfl ?_
      refine V_callV (n := 3) C (r_isCell r hd hP) dX5_ofCell_4 gX5_ofCell_X5_isCell rfl (by first | assumption | exact hset_s _ _ _) rfl (by decide +kernel) rfl rfl (by exact Nat.le_of_ble_eq_true rfl) ⟨Nat.le_of_ble_eq_true rfl, Nat.le_of_ble_eq_true rfl⟩ ⟨Nat.le_of_ble_eq_true rfl, Nat.le_of_ble_eq_true rfl⟩ (fun v9 h9 hr9 => ?_)
      rw [if_pos hx.1] at hr9
      obtain ⟨rfl, z9⟩ := hr9
      have z9 := z9.symm
      subst z9
      refine V_istore5 C dX5_ofCell_7 (by decide) ?_
      refine V_aload_n (i := 0) C dX5_ofCell_9 rfl rfl ?_
      refine V_iload C dX5_ofCell_10 rfl ?_
      refine V_iload C dX5_ofCell_12 rfl ?_
      refine V_iconst (v := 0) C dX5_ofCell_14 (by decide) ?_
      refine V_iconst (v := 4) C dX5_ofCell_15 (by decide) ?_
      refine V_callS (n := 3) C (r_in) dX5_ofCell_16 gX5_ofCell_X5_in rfl (by decide +kernel) rfl rfl (by exact Nat.le_of_ble_eq_true rfl) ⟨Nat.le_of_ble_eq_true rfl, Nat.le_of_ble_eq_true rfl⟩ ⟨Nat.le_of_ble_eq_true rfl, Nat.le_of_ble_eq_true rfl⟩ (fun v9 h9 hr9 => ?_)
      rw [if_pos hx.2] at hr9
      obtain ⟨rfl, z9⟩ := hr9
      have z9 := z9.symm
      subst z9
      refine V_callV (n := 2) C (r_asked2 (P := True) (Q := True) r rfl (fun _ => rfl)) dX5_ofCell_19 gX5_ofCell_X5_asked_ rfl (by first | assumption | exact hset_s _ _ _) rfl (by decide +kernel) rfl rfl (by exact Nat.le_of_ble_eq_true rfl) ⟨Nat.le_of_ble_eq_true rfl, Nat.le_of_ble_eq_true rfl⟩ ⟨Nat.le_of_ble_eq_true rfl, Nat.le_of_ble_eq_true rfl⟩ (fun v9 h9 hr9 => ?_)
      obtain ⟨rfl, r2, f2⟩ := hr9
      rw [if_pos trivial, if_pos trivial] at r2
      have m0 := r2.m0
      have m12 := r2.m12
      have m13 := r2.m13
      have m14 := r2.m14
      have m15 := r2.m15
      have m16 := r2.m16
      refine V_if_ne (tgt := 27) C dX5_ofCell_22 (by decide) (fun _ => ?_) (fun z9 => absurd z9 (by decide))
      refine V_iload_n (i := 1) C dX5_ofCell_27 rfl rfl ?_
      refine V_iload_n (i := 2) C dX5_ofCell_28 rfl rfl ?_
      refine V_iload_n (i := 3) C dX5_ofCell_29 rfl rfl ?_
      refine V_callS (n := 3) C (r_cellOf) dX5_ofCell_30 gX5_ofCell_X5_cellOf rfl (by decide +kernel) rfl rfl (by exact Nat.le_of_ble_eq_true rfl) ⟨Nat.le_of_ble_eq_true rfl, Nat.le_of_ble_eq_true rfl⟩ ⟨Nat.le_of_ble_eq_true rfl, Nat.le_of_ble_eq_true rfl⟩ (fun v9 h9 hr9 => ?_)
      obtain ⟨rfl, z9⟩ := hr9
      have z9 := z9.symm
      subst z9
      rw [← cx_at p hi]
      refine V_istore6 C dX5_ofCell_33 (by decide) ?_
      refine V_iload C dX5_ofCell_35 rfl ?_
      refine V_if_ne (tgt := 50) C dX5_ofCell_37 (by decide) (fun _ => ?_) (fun z9 => absurd z9 (by decide))
      refine V_iload C dX5_ofCell_50 rfl ?_
      refine V_iconst (v := 1) C dX5_ofCell_52 (by decide) ?_
      refine V_icmp_ne (tgt := 66) C dX5_ofCell_53 (by decide) (fun _ => ?_) (fun z9 => absurd z9 (by decide))
      refine V_iload C dX5_ofCell_66 rfl ?_
      refine V_iconst (v := 2) C dX5_ofCell_68 (by decide) ?_
      refine V_icmp_ne (tgt := 82) C dX5_ofCell_69 (by decide) (fun z9 => absurd rfl z9) (fun _ => ?_)
      refine V_aload_n (i := 0) C dX5_ofCell_72 rfl rfl ?_
      refine V_get (ci := 5) (CN := RX5) (T := TX5) (N := 26) C dX5_ofCell_73 (by first | assumption | exact hset_s _ _ _) rfl 12 (by decide) flX5_ofCell_36 wiX5_ofCell_X5 (by rfl) ?_
      refine V_iload C dX5_ofCell_76 rfl ?_
      refine V_ialdK C dX5_ofCell_78 (by first | assumption | exact hset_s _ _ _) rfl hcl (by decide) q1 ?_
      refine V_goto (tgt := 108) C dX5_ofCell_79 (by decide) ?_
      exact V_iret C dX5_ofCell_108 hr ⟨⟨_, rfl, fun _ => rfl⟩, ⟨I, F, r2, hP⟩, f2⟩ (by exact Nat.le_of_ble_eq_true rfl) (by exact Nat.le_of_ble_eq_true rfl)
    · refine Mt_of (cc := cX5_ofCell) (maxL := 7) (ret := (some .int)) (own := RX5) [some (.ref (A 0)), some (.int (nI p)), some (.int (nI i)), some (.int (nI j)), some (.int (nI 3)), none, none] rfl (by decide +kernel) rfl rfl (by exact Nat.le_of_ble_eq_true rfl) rfl ?_
      intro p9 e9 s9 m9 args9 below9 meth9 c9 C hr hnm
      refine V_aload_n (i := 0) C dX5_ofCell_0 rfl rfl ?_
      refine V_iload_n (i := 1) C dX5_ofCell_1 rfl rfl ?_
      refine V_iload_n (i := 2) C dX5_ofCell_2 rfl rfl ?_
      refine V_iload_n (i := 3) C dX5_ofCell_3 rfl rfl ?_
      refine V_callV (n := 3) C (r_isCell r hd hP) dX5_ofCell_4 gX5_ofCell_X5_isCell rfl (by first | assumption | exact hset_s _ _ _) rfl (by decide +kernel) rfl rfl (by exact Nat.le_of_ble_eq_true rfl) ⟨Nat.le_of_ble_eq_true rfl, Nat.le_of_ble_eq_true rfl⟩ ⟨Nat.le_of_ble_eq_true rfl, Nat.le_of_ble_eq_true rfl⟩ (fun v9 h9 hr9 => ?_)
      rw [if_pos hx.1] at hr9
      obtain ⟨rfl, z9⟩ := hr9
      have z9 := z9.symm
      subst z9
      refine V_istore5 C dX5_ofCell_7 (by decide) ?_
      refine V_aload_n (i := 0) C dX5_ofCell_9 rfl rfl ?_
      refine V_iload C dX5_ofCell_10 rfl ?_
      refine V_iload C dX5_ofCell_12 rfl ?_
      refine V_iconst (v := 0) C dX5_ofCell_14 (by decide) ?_
      refine V_iconst (v := 4) C dX5_ofCell_15 (by decide) ?_
      refine V_callS (n := 3) C (r_in) dX5_ofCell_16 gX5_ofCell_X5_in rfl (by decide +kernel) rfl rfl (by exact Nat.le_of_ble_eq_true rfl) ⟨Nat.le_of_ble_eq_true rfl, Nat.le_of_ble_eq_true rfl⟩ ⟨Nat.le_of_ble_eq_true rfl, Nat.le_of_ble_eq_true rfl⟩ (fun v9 h9 hr9 => ?_)
      rw [if_pos hx.2] at hr9
      obtain ⟨rfl, z9⟩ := hr9
      have z9 := z9.symm
      subst z9
      refine V_callV (n := 2) C (r_asked2 (P := True) (Q := True) r rfl (fun _ => rfl)) dX5_ofCell_19 gX5_ofCell_X5_asked_ rfl (by first | assumption | exact hset_s _ _ _) rfl (by decide +kernel) rfl rfl (by exact Nat.le_of_ble_eq_true rfl) ⟨Nat.le_of_ble_eq_true rfl, Nat.le_of_ble_eq_true rfl⟩ ⟨Nat.le_of_ble_eq_true rfl, Nat.le_of_ble_eq_true rfl⟩ (fun v9 h9 hr9 => ?_)
      obtain ⟨rfl, r2, f2⟩ := hr9
      rw [if_pos trivial, if_pos trivial] at r2
      have m0 := r2.m0
      have m12 := r2.m12
      have m13 := r2.m13
      have m14 := r2.m14
      have m15 := r2.m15
      have m16 := r2.m16
      refine V_if_ne (tgt := 27) C dX5_ofCell_22 (by decide) (fun _ => ?_) (fun z9 => absurd z9 (by decide))
      refine V_iload_n (i := 1) C dX5_ofCell_27 rfl rfl ?_
      refine V_iload_n (i := 2) C dX5_ofCell_28 rfl rfl ?_
      refine V_iload_n (i := 3) C dX5_ofCell_29 rfl rfl ?_
      refine V_callS (n := 3) C (r_cellOf) dX5_ofCell_30 gX5_ofCell_X5_cellOf rfl (by decide +kernel) rfl rfl (by exact Nat.le_of_ble_eq_true rfl) ⟨Nat.le_of_ble_eq_true rfl, Nat.le_of_ble_eq_true rfl⟩ ⟨Nat.le_of_ble_eq_true rfl, Nat.le_of_ble_eq_true rfl⟩ (fun v9 h9 hr9 => ?_)
      obtain ⟨rfl, z9⟩ := hr9
      have z9 := z9.symm
      subst z9
      rw [← cx_at p hi]
      refine V_istore6 C dX5_ofCell_33 (by decide) ?_
      refine V_iload C dX5_ofCell_35 rfl ?_
      refine V_if_ne (tgt := 50) C dX5_ofCell_37 (by decide) (fun _ => ?_) (fun z9 => absurd z9 (by decide))
      refine V_iload C dX5_ofCell_50 rfl ?_
      refine V_iconst (v := 1) C dX5_ofCell_52 (by decide) ?_
      refine V_icmp_ne (tgt := 66) C dX5_ofCell_53 (by decide) (fun _ => ?_) (fun z9 => absurd z9 (by decide))
      refine V_iload C dX5_ofCell_66 rfl ?_
      refine V_iconst (v := 2) C dX5_ofCell_68 (by decide) ?_
      refine V_icmp_ne (tgt := 82) C dX5_ofCell_69 (by decide) (fun _ => ?_) (fun z9 => absurd z9 (by decide))
      refine V_iload C dX5_ofCell_82 rfl ?_
      refine V_iconst (v := 3) C dX5_ofCell_84 (by decide) ?_
      refine V_icmp_ne (tgt := 101) C dX5_ofCell_85 (by decide) (fun z9 => absurd rfl z9) (fun _ => ?_)
      refine V_aload_n (i := 0) C dX5_ofCell_88 rfl rfl ?_
      refine V_get (ci := 5) (CN := RX5) (T := TX5) (N := 26) C dX5_ofCell_89 (by first | assumption | exact hset_s _ _ _) rfl 15 (by decide) flX5_ofCell_45 wiX5_ofCell_X5 (by rfl) ?_
      refine V_iload C dX5_ofCell_92 rfl ?_
      refine V_faldK C dX5_ofCell_94 (by first | assumption | exact hset_s _ _ _) rfl hcl (by decide) q4 ?_
      refine V_callS (n := 1) C (j_bits hcam) dX5_ofCell_95 gX5_ofCell_Jxf58ca_floatToIntBits_5c35a rfl (by decide +kernel) rfl rfl (by exact Nat.le_of_ble_eq_true rfl) ⟨Nat.le_of_ble_eq_true rfl, Nat.le_of_ble_eq_true rfl⟩ ⟨Nat.le_of_ble_eq_true rfl, Nat.le_of_ble_eq_true rfl⟩ (fun v9 h9 hr9 => ?_)
      obtain ⟨rfl, z9⟩ := hr9
      have z9 := z9.symm
      subst z9
      refine V_goto (tgt := 108) C dX5_ofCell_98 (by decide) ?_
      exact V_iret C dX5_ofCell_108 hr ⟨⟨_, rfl, fun _ => rfl⟩, ⟨I, F, r2, hP⟩, f2⟩ (by exact Nat.le_of_ble_eq_true rfl) (by exact Nat.le_of_ble_eq_true rfl)
    · refine Mt_of (cc := cX5_ofCell) (maxL := 7) (ret := (some .int)) (own := RX5) [some (.ref (A 0)), some (.int (nI p)), some (.int (nI i)), some (.int (nI j)), some (.int (nI 4)), none, none] rfl (by decide +kernel) rfl rfl (by exact Nat.le_of_ble_eq_true rfl) rfl ?_
      intro p9 e9 s9 m9 args9 below9 meth9 c9 C hr hnm
      refine V_aload_n (i := 0) C dX5_ofCell_0 rfl rfl ?_
      refine V_iload_n (i := 1) C dX5_ofCell_1 rfl rfl ?_
      refine V_iload_n (i := 2) C dX5_ofCell_2 rfl rfl ?_
      refine V_iload_n (i := 3) C dX5_ofCell_3 rfl rfl ?_
      refine V_callV (n := 3) C (r_isCell r hd hP) dX5_ofCell_4 gX5_ofCell_X5_isCell rfl (by first | assumption | exact hset_s _ _ _) rfl (by decide +kernel) rfl rfl (by exact Nat.le_of_ble_eq_true rfl) ⟨Nat.le_of_ble_eq_true rfl, Nat.le_of_ble_eq_true rfl⟩ ⟨Nat.le_of_ble_eq_true rfl, Nat.le_of_ble_eq_true rfl⟩ (fun v9 h9 hr9 => ?_)
      rw [if_pos hx.1] at hr9
      obtain ⟨rfl, z9⟩ := hr9
      have z9 := z9.symm
      subst z9
      refine V_istore5 C dX5_ofCell_7 (by decide) ?_
      refine V_aload_n (i := 0) C dX5_ofCell_9 rfl rfl ?_
      refine V_iload C dX5_ofCell_10 rfl ?_
      refine V_iload C dX5_ofCell_12 rfl ?_
      refine V_iconst (v := 0) C dX5_ofCell_14 (by decide) ?_
      refine V_iconst (v := 4) C dX5_ofCell_15 (by decide) ?_
      refine V_callS (n := 3) C (r_in) dX5_ofCell_16 gX5_ofCell_X5_in rfl (by decide +kernel) rfl rfl (by exact Nat.le_of_ble_eq_true rfl) ⟨Nat.le_of_ble_eq_true rfl, Nat.le_of_ble_eq_true rfl⟩ ⟨Nat.le_of_ble_eq_true rfl, Nat.le_of_ble_eq_true rfl⟩ (fun v9 h9 hr9 => ?_)
      rw [if_pos hx.2] at hr9
      obtain ⟨rfl, z9⟩ := hr9
      have z9 := z9.symm
      subst z9
      refine V_callV (n := 2) C (r_asked2 (P := True) (Q := True) r rfl (fun _ => rfl)) dX5_ofCell_19 gX5_ofCell_X5_asked_ rfl (by first | assumption | exact hset_s _ _ _) rfl (by decide +kernel) rfl rfl (by exact Nat.le_of_ble_eq_true rfl) ⟨Nat.le_of_ble_eq_true rfl, Nat.le_of_ble_eq_true rfl⟩ ⟨Nat.le_of_ble_eq_true rfl, Nat.le_of_ble_eq_true rfl⟩ (fun v9 h9 hr9 => ?_)
      obtain ⟨rfl, r2, f2⟩ := hr9
      rw [if_pos trivial, if_pos trivial] at r2
      have m0 := r2.m0
      have m12 := r2.m12
      have m13 := r2.m13
      have m14 := r2.m14
      have m15 := r2.m15
      have m16 := r2.m16
      refine V_if_ne (tgt := 27) C dX5_ofCell_22 (by decide) (fun _ => ?_) (fun z9 => absurd z9 (by decide))
      refine V_iload_n (i := 1) C dX5_ofCell_27 rfl rfl ?_
      refine V_iload_n (i := 2) C dX5_ofCell_28 rfl rfl ?_
      refine V_iload_n (i := 3) C dX5_ofCell_29 rfl rfl ?_
      refine V_callS (n := 3) C (r_cellOf) dX5_ofCell_30 gX5_ofCell_X5_cellOf rfl (by decide +kernel) rfl rfl (by exact Nat.le_of_ble_eq_true rfl) ⟨Nat.le_of_ble_eq_true rfl, Nat.le_of_ble_eq_true rfl⟩ ⟨Nat.le_of_ble_eq_true rfl, Nat.le_of_ble_eq_true rfl⟩ (fun v9 h9 hr9 => ?_)
      obtain ⟨rfl, z9⟩ := hr9
      have z9 := z9.symm
      subst z9
      rw [← cx_at p hi]
      refine V_istore6 C dX5_ofCell_33 (by decide) ?_
      refine V_iload C dX5_ofCell_35 rfl ?_
      refine V_if_ne (tgt := 50) C dX5_ofCell_37 (by decide) (fun _ => ?_) (fun z9 => absurd z9 (by decide))
      refine V_iload C dX5_ofCell_50 rfl ?_
      refine V_iconst (v := 1) C dX5_ofCell_52 (by decide) ?_
      refine V_icmp_ne (tgt := 66) C dX5_ofCell_53 (by decide) (fun _ => ?_) (fun z9 => absurd z9 (by decide))
      refine V_iload C dX5_ofCell_66 rfl ?_
      refine V_iconst (v := 2) C dX5_ofCell_68 (by decide) ?_
      refine V_icmp_ne (tgt := 82) C dX5_ofCell_69 (by decide) (fun _ => ?_) (fun z9 => absurd z9 (by decide))
      refine V_iload C dX5_ofCell_82 rfl ?_
      refine V_iconst (v := 3) C dX5_ofCell_84 (by decide) ?_
      refine V_icmp_ne (tgt := 101) C dX5_ofCell_85 (by decide) (fun _ => ?_) (fun z9 => absurd z9 (by decide))
      refine V_aload_n (i := 0) C dX5_ofCell_101 rfl rfl ?_
      refine V_get (ci := 5) (CN := RX5) (T := TX5) (N := 26) C dX5_ofCell_102 (by first | assumption | exact hset_s _ _ _) rfl 16 (by decide) flX5_ofCell_48 wiX5_ofCell_X5 (by rfl) ?_
      refine V_iload C dX5_ofCell_105 rfl ?_
      refine V_ialdK C dX5_ofCell_107 (by first | assumption | exact hset_s _ _ _) rfl hcl (by decide) q5 ?_
      exact V_iret C dX5_ofCell_108 hr ⟨⟨_, rfl, fun _ => rfl⟩, ⟨I, F, r2, hP⟩, f2⟩ (by exact Nat.le_of_ble_eq_true rfl) (by exact Nat.le_of_ble_eq_true rfl)
  · have esp : sp_ofCell X a b c d = if celN X a b c then (if okR d 0 4 then (none, ofcV (xg X (tN a) (celK X a b c)) d, X) else (some kIA, 0, X)) else (some kIO, 0, X) := rfl
    refine Mt_of (cc := cX5_ofCell) (maxL := 7) (ret := (some .int)) (own := RX5) [some (.ref (A 0)), some (.int a), some (.int b), some (.int c), some (.int d), none, none] rfl (by decide +kernel) rfl rfl (by exact Nat.le_of_ble_eq_true rfl) rfl ?_
    intro p9 e9 s9 m9 args9 below9 meth9 c9 C hr hnm
    refine V_aload_n (i := 0) C dX5_ofCell_0 rfl rfl ?_
    refine V_iload_n (i := 1) C dX5_ofCell_1 rfl rfl ?_
    refine V_iload_n (i := 2) C dX5_ofCell_2 rfl rfl ?_
    refine V_iload_n (i := 3) C dX5_ofCell_3 rfl rfl ?_
    refine V_callV (n := 3) C (r_isCell r hd hP) dX5_ofCell_4 gX5_ofCell_X5_isCell rfl (by first | assumption | exact hset_s _ _ _) rfl (by decide +kernel) rfl rfl (by exact Nat.le_of_ble_eq_true rfl) ⟨Nat.le_of_ble_eq_true rfl, Nat.le_of_ble_eq_true rfl⟩ ⟨Nat.le_of_ble_eq_true rfl, Nat.le_of_ble_eq_true rfl⟩ (fun v9 h9 hr9 => ?_)
    obtain ⟨rfl, z9⟩ := hr9
    have z9 := z9.symm
    subst z9
    refine V_istore5 C dX5_ofCell_7 (by decide) ?_
    refine V_aload_n (i := 0) C dX5_ofCell_9 rfl rfl ?_
    refine V_iload C dX5_ofCell_10 rfl ?_
    refine V_iload C dX5_ofCell_12 rfl ?_
    refine V_iconst (v := 0) C dX5_ofCell_14 (by decide) ?_
    refine V_iconst (v := 4) C dX5_ofCell_15 (by decide) ?_
    refine V_callS (n := 3) C (r_in) dX5_ofCell_16 gX5_ofCell_X5_in rfl (by decide +kernel) rfl rfl (by exact Nat.le_of_ble_eq_true rfl) ⟨Nat.le_of_ble_eq_true rfl, Nat.le_of_ble_eq_true rfl⟩ ⟨Nat.le_of_ble_eq_true rfl, Nat.le_of_ble_eq_true rfl⟩ (fun v9 h9 hr9 => ?_)
    obtain ⟨rfl, z9⟩ := hr9
    have z9 := z9.symm
    subst z9
    refine V_callV (n := 2) C (r_asked2 r rfl (fun _ => rfl)) dX5_ofCell_19 gX5_ofCell_X5_asked_ rfl (by first | assumption | exact hset_s _ _ _) rfl (by decide +kernel) rfl rfl (by exact Nat.le_of_ble_eq_true rfl) ⟨Nat.le_of_ble_eq_true rfl, Nat.le_of_ble_eq_true rfl⟩ ⟨Nat.le_of_ble_eq_true rfl, Nat.le_of_ble_eq_true rfl⟩ (fun v9 h9 hr9 => ?_)
    obtain ⟨rfl, r2, f2⟩ := hr9
    refine V_if_ne (tgt := 27) C dX5_ofCell_22 (by decide) (fun z9 => absurd (if_neg hx) z9) (fun _ => ?_)
    refine V_iconst (v := 0) C dX5_ofCell_25 (by decide) ?_
    exact V_iret C dX5_ofCell_26 hr (by
      by_cases h1 : celN X a b c
      · have h2 : ¬ okR d 0 4 := fun z => hx ⟨h1, z⟩
        rw [if_pos h1, if_neg h2] at r2
        rw [if_pos h1, if_neg h2] at esp
        rw [esp]
        exact Rst_x r2 hP f2 (by decide +kernel)
      · rw [if_neg h1] at r2
        rw [if_neg h1] at esp
        rw [esp]
        exact Rst_x r2 hP f2 (by decide +kernel)) (by exact Nat.le_of_ble_eq_true rfl) (by exact Nat.le_of_ble_eq_true rfl)
end RPUB4
