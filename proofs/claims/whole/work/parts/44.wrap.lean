/-! the law's helpers -/
theorem SZr.cast {s : State} {args : Array Value} (z : SZr s) : (Cond.castable kIA kIA).before args s = true ∧ (Cond.castable kIS kIS).before args s = true ∧ (Cond.castable kIO kIO).before args s = true := by
  obtain ⟨q1, q2, q3, -, -, -⟩ := zWs_all z.2.1
  exact ⟨va_tabs rfl rfl q1, va_tabs rfl rfl q2, va_tabs rfl rfl q3⟩
section WRAP
variable {l : Launch} {D : va_G} {cA : Nat → ClassId} {bs : Nat} {Z : Nat → Nat → Nat} {X : XS} {ta : Nat → Nat → Option Nat} {h : hE} {M o : Nat} {f : Nat → Int64}
theorem ex_lot {a b c d : Int32} {E : String} (h : (sp_lot X a b c d).1 = some E) : (E = kIA ∨ E = kIS) ∧ (sp_lot X a b c d).2.2 = X := by
  unfold sp_lot at h ⊢
  split at h <;> rename_i q1
  all_goals try rw [if_pos q1]
  all_goals try rw [if_neg q1]
  all_goals try (split at h <;> rename_i q2)
  all_goals try rw [if_pos q2]
  all_goals try rw [if_neg q2]
  all_goals try (split at h <;> rename_i q3)
  all_goals try rw [if_pos q3]
  all_goals try rw [if_neg q3]
  all_goals cases h
  all_goals first | exact ⟨Or.inl rfl, rfl⟩ | exact ⟨Or.inr rfl, rfl⟩
theorem ex_comes {x : Int32} {E : String} (h : (sp_comes X x).1 = some E) : (E = kIO ∨ E = kIS) ∧ (sp_comes X x).2.2 = X := by
  unfold sp_comes at h ⊢
  split at h <;> rename_i q1
  all_goals try rw [if_pos q1]
  all_goals try rw [if_neg q1]
  all_goals try (split at h <;> rename_i q2)
  all_goals try rw [if_pos q2]
  all_goals try rw [if_neg q2]
  all_goals try (split at h <;> rename_i q3)
  all_goals try rw [if_pos q3]
  all_goals try rw [if_neg q3]
  all_goals cases h
  all_goals first | exact ⟨Or.inl rfl, rfl⟩ | exact ⟨Or.inr rfl, rfl⟩
theorem ex_picture {a b c : Int32} {E : String} (h : (sp_picture X a b c).1 = some E) : (E = kIA ∨ E = kIS) ∧ (sp_picture X a b c).2.2 = X := by
  unfold sp_picture at h ⊢
  split at h <;> rename_i q1
  all_goals try rw [if_pos q1]
  all_goals try rw [if_neg q1]
  all_goals try (split at h <;> rename_i q2)
  all_goals try rw [if_pos q2]
  all_goals try rw [if_neg q2]
  all_goals try (split at h <;> rename_i q3)
  all_goals try rw [if_pos q3]
  all_goals try rw [if_neg q3]
  all_goals cases h
  all_goals first | exact ⟨Or.inl rfl, rfl⟩ | exact ⟨Or.inr rfl, rfl⟩
theorem ex_cell {a b c d : Int32} {E : String} (h : (sp_cell X a b c d).1 = some E) : (E = kIO ∨ E = kIA ∨ E = kIS) ∧ (sp_cell X a b c d).2.2 = X := by
  unfold sp_cell at h ⊢
  split at h <;> rename_i q1
  all_goals try rw [if_pos q1]
  all_goals try rw [if_neg q1]
  all_goals try (split at h <;> rename_i q2)
  all_goals try rw [if_pos q2]
  all_goals try rw [if_neg q2]
  all_goals try (split at h <;> rename_i q3)
  all_goals try rw [if_pos q3]
  all_goals try rw [if_neg q3]
  all_goals cases h
  all_goals first | exact ⟨Or.inl rfl, rfl⟩ | exact ⟨Or.inr (Or.inl rfl), rfl⟩ | exact ⟨Or.inr (Or.inr rfl), rfl⟩
theorem ex_old {a b c d : Int32} {E : String} (h : (sp_old X a b c d).1 = some E) : (E = kIO ∨ E = kIA ∨ E = kIS) ∧ (sp_old X a b c d).2.2 = X := by
  unfold sp_old at h ⊢
  split at h <;> rename_i q1
  all_goals try rw [if_pos q1]
  all_goals try rw [if_neg q1]
  all_goals try (split at h <;> rename_i q2)
  all_goals try rw [if_pos q2]
  all_goals try rw [if_neg q2]
  all_goals try (split at h <;> rename_i q3)
  all_goals try rw [if_pos q3]
  all_goals try rw [if_neg q3]
  all_goals cases h
  all_goals first | exact ⟨Or.inl rfl, rfl⟩ | exact ⟨Or.inr (Or.inl rfl), rfl⟩ | exact ⟨Or.inr (Or.inr rfl), rfl⟩
theorem ex_fill {x : Int32} {E : String} (h : (sp_fill X x).1 = some E) : (E = kIO) ∧ (sp_fill X x).2.2 = X := by
  unfold sp_fill at h ⊢
  split at h <;> rename_i q1
  all_goals try rw [if_pos q1]
  all_goals try rw [if_neg q1]
  all_goals try (split at h <;> rename_i q2)
  all_goals try rw [if_pos q2]
  all_goals try rw [if_neg q2]
  all_goals try (split at h <;> rename_i q3)
  all_goals try rw [if_pos q3]
  all_goals try rw [if_neg q3]
  all_goals cases h
  all_goals exact ⟨rfl, rfl⟩
theorem ex_design {x : Int32} {E : String} (h : (sp_design X x).1 = some E) : (E = kIO) ∧ (sp_design X x).2.2 = X := by
  unfold sp_design at h ⊢
  split at h <;> rename_i q1
  all_goals try rw [if_pos q1]
  all_goals try rw [if_neg q1]
  all_goals try (split at h <;> rename_i q2)
  all_goals try rw [if_pos q2]
  all_goals try rw [if_neg q2]
  all_goals try (split at h <;> rename_i q3)
  all_goals try rw [if_pos q3]
  all_goals try rw [if_neg q3]
  all_goals cases h
  all_goals exact ⟨rfl, rfl⟩
theorem ex_share {x a b : Int32} {E : String} (h : (sp_share X x a b).1 = some E) : (E = kIO ∨ E = kIA) ∧ (sp_share X x a b).2.2 = X := by
  unfold sp_share at h ⊢
  split at h <;> rename_i q1
  all_goals try rw [if_pos q1]
  all_goals try rw [if_neg q1]
  all_goals try (split at h <;> rename_i q2)
  all_goals try rw [if_pos q2]
  all_goals try rw [if_neg q2]
  all_goals try (split at h <;> rename_i q3)
  all_goals try rw [if_pos q3]
  all_goals try rw [if_neg q3]
  all_goals cases h
  all_goals first | exact ⟨Or.inl rfl, rfl⟩ | exact ⟨Or.inr rfl, rfl⟩
theorem ex_send {c x : Int32} {E : String} (h : (sp_send X c x).1 = some E) : (E = kIO) ∧ (sp_send X c x).2.2 = X := by
  unfold sp_send at h ⊢
  split at h <;> rename_i q1
  all_goals try rw [if_pos q1]
  all_goals try rw [if_neg q1]
  all_goals try (split at h <;> rename_i q2)
  all_goals try rw [if_pos q2]
  all_goals try rw [if_neg q2]
  all_goals try (split at h <;> rename_i q3)
  all_goals try rw [if_pos q3]
  all_goals try rw [if_neg q3]
  all_goals cases h
  all_goals exact ⟨rfl, rfl⟩
theorem ex_crew {c a b : Int32} {E : String} (h : (sp_crew X c a b).1 = some E) : (E = kIO ∨ E = kIA) ∧ (sp_crew X c a b).2.2 = X := by
  unfold sp_crew at h ⊢
  split at h <;> rename_i q1
  all_goals try rw [if_pos q1]
  all_goals try rw [if_neg q1]
  all_goals try (split at h <;> rename_i q2)
  all_goals try rw [if_pos q2]
  all_goals try rw [if_neg q2]
  all_goals try (split at h <;> rename_i q3)
  all_goals try rw [if_pos q3]
  all_goals try rw [if_neg q3]
  all_goals cases h
  all_goals first | exact ⟨Or.inl rfl, rfl⟩ | exact ⟨Or.inr rfl, rfl⟩
theorem ex_tray {c a : Int32} {E : String} (h : (sp_tray X c a).1 = some E) : (E = kIO ∨ E = kIA) ∧ (sp_tray X c a).2.2 = X := by
  unfold sp_tray at h ⊢
  split at h <;> rename_i q1
  all_goals try rw [if_pos q1]
  all_goals try rw [if_neg q1]
  all_goals try (split at h <;> rename_i q2)
  all_goals try rw [if_pos q2]
  all_goals try rw [if_neg q2]
  all_goals try (split at h <;> rename_i q3)
  all_goals try rw [if_pos q3]
  all_goals try rw [if_neg q3]
  all_goals cases h
  all_goals first | exact ⟨Or.inl rfl, rfl⟩ | exact ⟨Or.inr rfl, rfl⟩
theorem ex_load {c a : Int32} {E : String} (h : (sp_load X c a).1 = some E) : (E = kIO) ∧ (sp_load X c a).2.2 = X := by
  unfold sp_load at h ⊢
  split at h <;> rename_i q1
  all_goals try rw [if_pos q1]
  all_goals try rw [if_neg q1]
  all_goals try (split at h <;> rename_i q2)
  all_goals try rw [if_pos q2]
  all_goals try rw [if_neg q2]
  all_goals try (split at h <;> rename_i q3)
  all_goals try rw [if_pos q3]
  all_goals try rw [if_neg q3]
  all_goals cases h
  all_goals exact ⟨rfl, rfl⟩
theorem ex_pass {a : Int32} {E : String} (h : (sp_pass X a).1 = some E) : (E = kIA) ∧ (sp_pass X a).2.2 = X := by
  unfold sp_pass at h ⊢
  split at h <;> rename_i q1
  all_goals try rw [if_pos q1]
  all_goals try rw [if_neg q1]
  all_goals try (split at h <;> rename_i q2)
  all_goals try rw [if_pos q2]
  all_goals try rw [if_neg q2]
  all_goals try (split at h <;> rename_i q3)
  all_goals try rw [if_pos q3]
  all_goals try rw [if_neg q3]
  all_goals cases h
  all_goals exact ⟨rfl, rfl⟩
theorem ex_ofCell {a b c d : Int32} {E : String} (h : (sp_ofCell X a b c d).1 = some E) : (E = kIO ∨ E = kIA) ∧ (sp_ofCell X a b c d).2.2 = X := by
  unfold sp_ofCell at h ⊢
  split at h <;> rename_i q1
  all_goals try rw [if_pos q1]
  all_goals try rw [if_neg q1]
  all_goals try (split at h <;> rename_i q2)
  all_goals try rw [if_pos q2]
  all_goals try rw [if_neg q2]
  all_goals try (split at h <;> rename_i q3)
  all_goals try rw [if_pos q3]
  all_goals try rw [if_neg q3]
  all_goals cases h
  all_goals first | exact ⟨Or.inl rfl, rfl⟩ | exact ⟨Or.inr rfl, rfl⟩
theorem ex_aimAnew {a b c : Int32} {E : String} (h : (sp_aim X a b c).1 = some E) : (E = kIO) ∧ (sp_aim X a b c).2.2 = X := by
  unfold sp_aim at h ⊢
  split at h <;> rename_i q1
  all_goals try rw [if_pos q1]
  all_goals try rw [if_neg q1]
  all_goals try (split at h <;> rename_i q2)
  all_goals try rw [if_pos q2]
  all_goals try rw [if_neg q2]
  all_goals try (split at h <;> rename_i q3)
  all_goals try rw [if_pos q3]
  all_goals try rw [if_neg q3]
  all_goals cases h
  all_goals exact ⟨rfl, rfl⟩
theorem ex_edge {x : Int32} {E : String} (h : (sp_edge X x).1 = some E) : (E = kIO) ∧ (sp_edge X x).2.2 = X := by
  unfold sp_edge at h ⊢
  split at h <;> rename_i q1
  all_goals try rw [if_pos q1]
  all_goals try rw [if_neg q1]
  all_goals try (split at h <;> rename_i q2)
  all_goals try rw [if_pos q2]
  all_goals try rw [if_neg q2]
  all_goals try (split at h <;> rename_i q3)
  all_goals try rw [if_pos q3]
  all_goals try rw [if_neg q3]
  all_goals cases h
  all_goals exact ⟨rfl, rfl⟩
theorem ex_ofLot {a d : Int32} {E : String} (h : (sp_ofLot X a d).1 = some E) : (E = kIO ∨ E = kIA) ∧ (sp_ofLot X a d).2.2 = X := by
  unfold sp_ofLot at h ⊢
  split at h <;> rename_i q1
  all_goals try rw [if_pos q1]
  all_goals try rw [if_neg q1]
  all_goals try (split at h <;> rename_i q2)
  all_goals try rw [if_pos q2]
  all_goals try rw [if_neg q2]
  all_goals try (split at h <;> rename_i q3)
  all_goals try rw [if_pos q3]
  all_goals try rw [if_neg q3]
  all_goals cases h
  all_goals first | exact ⟨Or.inl rfl, rfl⟩ | exact ⟨Or.inr rfl, rfl⟩
theorem ex_ofPicture {x d : Int32} {E : String} (h : (sp_ofPic X x d).1 = some E) : (E = kIO ∨ E = kIA) ∧ (sp_ofPic X x d).2.2 = X := by
  unfold sp_ofPic at h ⊢
  split at h <;> rename_i q1
  all_goals try rw [if_pos q1]
  all_goals try rw [if_neg q1]
  all_goals try (split at h <;> rename_i q2)
  all_goals try rw [if_pos q2]
  all_goals try rw [if_neg q2]
  all_goals try (split at h <;> rename_i q3)
  all_goals try rw [if_pos q3]
  all_goals try rw [if_neg q3]
  all_goals cases h
  all_goals first | exact ⟨Or.inl rfl, rfl⟩ | exact ⟨Or.inr rfl, rfl⟩
theorem ex_ofCrew {a d : Int32} {E : String} (h : (sp_ofCrew X a d).1 = some E) : (E = kIO ∨ E = kIA) ∧ (sp_ofCrew X a d).2.2 = X := by
  unfold sp_ofCrew at h ⊢
  split at h <;> rename_i q1
  all_goals try rw [if_pos q1]
  all_goals try rw [if_neg q1]
  all_goals try (split at h <;> rename_i q2)
  all_goals try rw [if_pos q2]
  all_goals try rw [if_neg q2]
  all_goals try (split at h <;> rename_i q3)
  all_goals try rw [if_pos q3]
  all_goals try rw [if_neg q3]
  all_goals cases h
  all_goals first | exact ⟨Or.inl rfl, rfl⟩ | exact ⟨Or.inr rfl, rfl⟩
theorem ld01 {c a : Int32} : (sp_load X c a).2.1 = 0 ∨ (sp_load X c a).2.1 = 1 := by
  unfold sp_load
  split
  · split
    · exact Or.inr rfl
    · split
      · exact Or.inr rfl
      · exact Or.inl rfl
  · exact Or.inl rfl
set_option maxHeartbeats 4000000 in
set_option maxRecDepth 100000 in
theorem w_lot (hlt : l.stackTraces = false) (r : XR cA Z X ta h) (t : tyv Z X ta) (hI : LI X) (ho : h o = some (lar (cA 3) f)) {a b c d : Int32} (hd : d = 0 ∨ d = 1) : Mc l D cA bs SZl yL_lot wsL_lot (rmk 10 4 30) [.ref (Z 0 0), .int a, .int b, .int c, .int d, .ref o] h (Wst cA Z o kIA kIS h (sp_lot X a b c d)) := by
  have hrow := r.row
  refine Mc_of (cc := cL_lot) (maxL := 7) (ret := (some .int)) (own := RL) [some (.ref (Z 0 0)), some (.int a), some (.int b), some (.int c), some (.int d), some (.ref o), none] rfl (by decide +kernel) rfl rfl (by exact Nat.le_of_ble_eq_true rfl) rfl ?_
  intro p9 e9 s9 m9 args9 below9 meth9 c9 C hr htb hz hsz
  obtain ⟨n1, n2, n3⟩ := hsz.2
  obtain ⟨k1, k2, k3⟩ := hsz.1.cast (args := args9)
  refine V_aload C dL_lot_0 rfl ?_
  refine V_iconst (v := 0) C dL_lot_2 (by decide) ?_
  refine V_aload_n (i := 0) C dL_lot_3 rfl rfl ?_
  refine V_iload_n (i := 1) C dL_lot_4 rfl rfl ?_
  refine V_iload_n (i := 2) C dL_lot_5 rfl rfl ?_
  refine V_iload_n (i := 3) C dL_lot_6 rfl rfl ?_
  refine V_iload C dL_lot_7 rfl ?_
  refine V_tcallV (n := 4) C (m_lot hlt r t hI hd) dL_lot_9 gL_lot_X4_lot rfl hrow rfl (by decide +kernel) rfl rfl (by exact Nat.le_of_ble_eq_true rfl) ⟨Nat.le_of_ble_eq_true rfl, Nat.le_of_ble_eq_true rfl⟩ ⟨Nat.le_of_ble_eq_true rfl, Nat.le_of_ble_eq_true rfl⟩ hz SZr.moves hsz.1 (fun E h2 hx => ?_) (fun v9 h9 hr9 => ?_)
  · obtain ⟨hE, z9⟩ := hx
    subst z9
    obtain ⟨hE2, hX⟩ := ex_lot hE
    rcases hE2 with rfl | rfl
    · refine ⟨17, ⟨[], ⟨0, 14, 17, 13⟩, [⟨0, 14, 21, 15⟩], kIA, htb.trans rfl, (fun z hz => absurd hz List.not_mem_nil), by decide, by decide, by decide +kernel, k1, rfl⟩, fun q => ?_⟩
      refine V_astore6 C dL_lot_17 (by decide) ?_
      refine V_iconst (v := 1) C dL_lot_19 (by decide) ?_
      exact V_iret C dL_lot_20 hr ⟨by rw [hE]; exact congrArg (fun c => some (Value.int c)) (by decide +kernel : (1 : Int32) = cod kIA kIS (some kIA)), ⟨Z, ta, by rw [hX]; exact r, by rw [hX]; exact t, rfl⟩, ⟨f, ho, fun z => by rw [hE] at z; cases z⟩, fun q e z _ _ => z⟩ (by exact Nat.le_of_ble_eq_true rfl) (by exact Nat.le_of_ble_eq_true rfl)
    · refine ⟨21, ⟨[⟨0, 14, 17, 13⟩], ⟨0, 14, 21, 15⟩, [], kIS, htb.trans rfl, (fun z hz => by rw [List.mem_singleton] at hz; subst hz; exact ⟨by decide, kIA, by decide +kernel, n1⟩), by decide, by decide, by decide +kernel, k2, rfl⟩, fun q => ?_⟩
      refine V_astore6 C dL_lot_21 (by decide) ?_
      refine V_iconst (v := 2) C dL_lot_23 (by decide) ?_
      exact V_iret C dL_lot_24 hr ⟨by rw [hE]; exact congrArg (fun c => some (Value.int c)) (by decide +kernel : (2 : Int32) = cod kIA kIS (some kIS)), ⟨Z, ta, by rw [hX]; exact r, by rw [hX]; exact t, rfl⟩, ⟨f, ho, fun z => by rw [hE] at z; cases z⟩, fun q e z _ _ => z⟩ (by exact Nat.le_of_ble_eq_true rfl) (by exact Nat.le_of_ble_eq_true rfl)
  · obtain ⟨hE, rfl, Z2, ta2, r2, t2, z2, f2⟩ := hr9
    have ho9 := f2 _ _ ho trivial
    refine V_i2l C dL_lot_12 rfl ?_
    refine V_last C dL_lot_13 (by first | assumption | exact hset_s _ _ _) (vp_in_iff.mpr ⟨by decide, by decide⟩) ?_
    refine V_goto (tgt := 25) C dL_lot_14 (by decide) ?_
    refine V_iconst (v := 0) C dL_lot_25 (by decide) ?_
    exact V_iret C dL_lot_26 hr ⟨by rw [hE]; rfl, ⟨Z2, ta2, r2.lar ho9 _, t2, z2⟩, ⟨_, hset_s _ _ _, fun _ => if_pos (by decide)⟩, fun q e hq hg hn => by rw [hset_n hn]; exact f2 q e hq hg⟩ (by exact Nat.le_of_ble_eq_true rfl) (by exact Nat.le_of_ble_eq_true rfl)
set_option maxHeartbeats 4000000 in
set_option maxRecDepth 100000 in
theorem w_comes (hlt : l.stackTraces = false) (r : XR cA Z X ta h) (t : tyv Z X ta) (hI : LI X) (ho : h o = some (lar (cA 3) f)) {x : Int32} : Mc l D cA bs SZl yL_comes wsL_comes (rmk 10 4 30) [.ref (Z 0 0), .int x, .ref o] h (Wst cA Z o kIO kIS h (sp_comes X x)) := by
  have hrow := r.row
  refine Mc_of (cc := cL_comes) (maxL := 4) (ret := (some .int)) (own := RL) [some (.ref (Z 0 0)), some (.int x), some (.ref o), none] rfl (by decide +kernel) rfl rfl (by exact Nat.le_of_ble_eq_true rfl) rfl ?_
  intro p9 e9 s9 m9 args9 below9 meth9 c9 C hr htb hz hsz
  obtain ⟨n1, n2, n3⟩ := hsz.2
  obtain ⟨k1, k2, k3⟩ := hsz.1.cast (args := args9)
  refine V_aload_n (i := 2) C dL_comes_0 rfl rfl ?_
  refine V_iconst (v := 0) C dL_comes_1 (by decide) ?_
  refine V_aload_n (i := 0) C dL_comes_2 rfl rfl ?_
  refine V_iload_n (i := 1) C dL_comes_3 rfl rfl ?_
  refine V_tcallV (n := 1) C (m_comes hlt r t hI) dL_comes_4 gL_comes_X4_comes rfl hrow rfl (by decide +kernel) rfl rfl (by exact Nat.le_of_ble_eq_true rfl) ⟨Nat.le_of_ble_eq_true rfl, Nat.le_of_ble_eq_true rfl⟩ ⟨Nat.le_of_ble_eq_true rfl, Nat.le_of_ble_eq_true rfl⟩ hz SZr.moves hsz.1 (fun E h2 hx => ?_) (fun v9 h9 hr9 => ?_)
  · obtain ⟨hE, z9⟩ := hx
    subst z9
    obtain ⟨hE2, hX⟩ := ex_comes hE
    rcases hE2 with rfl | rfl
    · refine ⟨12, ⟨[], ⟨0, 9, 12, 21⟩, [⟨0, 9, 15, 15⟩], kIO, htb.trans rfl, (fun z hz => absurd hz List.not_mem_nil), by decide, by decide, by decide +kernel, k3, rfl⟩, fun q => ?_⟩
      refine V_astore3 C dL_comes_12 (by decide) ?_
      refine V_iconst (v := 1) C dL_comes_13 (by decide) ?_
      exact V_iret C dL_comes_14 hr ⟨by rw [hE]; exact congrArg (fun c => some (Value.int c)) (by decide +kernel : (1 : Int32) = cod kIO kIS (some kIO)), ⟨Z, ta, by rw [hX]; exact r, by rw [hX]; exact t, rfl⟩, ⟨f, ho, fun z => by rw [hE] at z; cases z⟩, fun q e z _ _ => z⟩ (by exact Nat.le_of_ble_eq_true rfl) (by exact Nat.le_of_ble_eq_true rfl)
    · refine ⟨15, ⟨[⟨0, 9, 12, 21⟩], ⟨0, 9, 15, 15⟩, [], kIS, htb.trans rfl, (fun z hz => by rw [List.mem_singleton] at hz; subst hz; exact ⟨by decide, kIO, by decide +kernel, n2⟩), by decide, by decide, by decide +kernel, k2, rfl⟩, fun q => ?_⟩
      refine V_astore3 C dL_comes_15 (by decide) ?_
      refine V_iconst (v := 2) C dL_comes_16 (by decide) ?_
      exact V_iret C dL_comes_17 hr ⟨by rw [hE]; exact congrArg (fun c => some (Value.int c)) (by decide +kernel : (2 : Int32) = cod kIO kIS (some kIS)), ⟨Z, ta, by rw [hX]; exact r, by rw [hX]; exact t, rfl⟩, ⟨f, ho, fun z => by rw [hE] at z; cases z⟩, fun q e z _ _ => z⟩ (by exact Nat.le_of_ble_eq_true rfl) (by exact Nat.le_of_ble_eq_true rfl)
  · obtain ⟨hE, rfl, Z2, ta2, r2, t2, z2, f2⟩ := hr9
    have ho9 := f2 _ _ ho trivial
    refine V_i2l C dL_comes_7 rfl ?_
    refine V_last C dL_comes_8 (by first | assumption | exact hset_s _ _ _) (vp_in_iff.mpr ⟨by decide, by decide⟩) ?_
    refine V_goto (tgt := 18) C dL_comes_9 (by decide) ?_
    refine V_iconst (v := 0) C dL_comes_18 (by decide) ?_
    exact V_iret C dL_comes_19 hr ⟨by rw [hE]; rfl, ⟨Z2, ta2, r2.lar ho9 _, t2, z2⟩, ⟨_, hset_s _ _ _, fun _ => if_pos (by decide)⟩, fun q e hq hg hn => by rw [hset_n hn]; exact f2 q e hq hg⟩ (by exact Nat.le_of_ble_eq_true rfl) (by exact Nat.le_of_ble_eq_true rfl)
set_option maxHeartbeats 4000000 in
set_option maxRecDepth 100000 in
theorem w_picture (hlt : l.stackTraces = false) (r : XR cA Z X ta h) (t : tyv Z X ta) (hI : LI X) (ho : h o = some (lar (cA 3) f)) {a b c : Int32} : Mc l D cA bs SZl yL_picture wsL_picture (rmk 10 75 800) [.ref (Z 0 0), .int a, .int b, .int c, .ref o] h (Wst cA Z o kIA kIS h (sp_picture X a b c)) := by
  have hrow := r.row
  refine Mc_of (cc := cL_picture) (maxL := 6) (ret := (some .int)) (own := RL) [some (.ref (Z 0 0)), some (.int a), some (.int b), some (.int c), some (.ref o), none] rfl (by decide +kernel) rfl rfl (by exact Nat.le_of_ble_eq_true rfl) rfl ?_
  intro p9 e9 s9 m9 args9 below9 meth9 c9 C hr htb hz hsz
  obtain ⟨n1, n2, n3⟩ := hsz.2
  obtain ⟨k1, k2, k3⟩ := hsz.1.cast (args := args9)
  refine V_aload C dL_picture_0 rfl ?_
  refine V_iconst (v := 0) C dL_picture_2 (by decide) ?_
  refine V_aload_n (i := 0) C dL_picture_3 rfl rfl ?_
  refine V_iload_n (i := 1) C dL_picture_4 rfl rfl ?_
  refine V_iload_n (i := 2) C dL_picture_5 rfl rfl ?_
  refine V_iload_n (i := 3) C dL_picture_6 rfl rfl ?_
  refine V_tcallV (n := 3) C (m_picture hlt r t hI) dL_picture_7 gL_picture_X4_picture rfl hrow rfl (by decide +kernel) rfl rfl (by exact Nat.le_of_ble_eq_true rfl) ⟨Nat.le_of_ble_eq_true rfl, Nat.le_of_ble_eq_true rfl⟩ ⟨Nat.le_of_ble_eq_true rfl, Nat.le_of_ble_eq_true rfl⟩ hz SZr.moves hsz.1 (fun E h2 hx => ?_) (fun v9 h9 hr9 => ?_)
  · obtain ⟨hE, z9⟩ := hx
    subst z9
    obtain ⟨hE2, hX⟩ := ex_picture hE
    rcases hE2 with rfl | rfl
    · refine ⟨15, ⟨[], ⟨0, 12, 15, 13⟩, [⟨0, 12, 19, 15⟩], kIA, htb.trans rfl, (fun z hz => absurd hz List.not_mem_nil), by decide, by decide, by decide +kernel, k1, rfl⟩, fun q => ?_⟩
      refine V_astore5 C dL_picture_15 (by decide) ?_
      refine V_iconst (v := 1) C dL_picture_17 (by decide) ?_
      exact V_iret C dL_picture_18 hr ⟨by rw [hE]; exact congrArg (fun c => some (Value.int c)) (by decide +kernel : (1 : Int32) = cod kIA kIS (some kIA)), ⟨Z, ta, by rw [hX]; exact r, by rw [hX]; exact t, rfl⟩, ⟨f, ho, fun z => by rw [hE] at z; cases z⟩, fun q e z _ _ => z⟩ (by exact Nat.le_of_ble_eq_true rfl) (by exact Nat.le_of_ble_eq_true rfl)
    · refine ⟨19, ⟨[⟨0, 12, 15, 13⟩], ⟨0, 12, 19, 15⟩, [], kIS, htb.trans rfl, (fun z hz => by rw [List.mem_singleton] at hz; subst hz; exact ⟨by decide, kIA, by decide +kernel, n1⟩), by decide, by decide, by decide +kernel, k2, rfl⟩, fun q => ?_⟩
      refine V_astore5 C dL_picture_19 (by decide) ?_
      refine V_iconst (v := 2) C dL_picture_21 (by decide) ?_
      exact V_iret C dL_picture_22 hr ⟨by rw [hE]; exact congrArg (fun c => some (Value.int c)) (by decide +kernel : (2 : Int32) = cod kIA kIS (some kIS)), ⟨Z, ta, by rw [hX]; exact r, by rw [hX]; exact t, rfl⟩, ⟨f, ho, fun z => by rw [hE] at z; cases z⟩, fun q e z _ _ => z⟩ (by exact Nat.le_of_ble_eq_true rfl) (by exact Nat.le_of_ble_eq_true rfl)
  · obtain ⟨hE, rfl, Z2, ta2, r2, t2, z2, f2⟩ := hr9
    have ho9 := f2 _ _ ho trivial
    refine V_i2l C dL_picture_10 rfl ?_
    refine V_last C dL_picture_11 (by first | assumption | exact hset_s _ _ _) (vp_in_iff.mpr ⟨by decide, by decide⟩) ?_
    refine V_goto (tgt := 23) C dL_picture_12 (by decide) ?_
    refine V_iconst (v := 0) C dL_picture_23 (by decide) ?_
    exact V_iret C dL_picture_24 hr ⟨by rw [hE]; rfl, ⟨Z2, ta2, r2.lar ho9 _, t2, z2⟩, ⟨_, hset_s _ _ _, fun _ => if_pos (by decide)⟩, fun q e hq hg hn => by rw [hset_n hn]; exact f2 q e hq hg⟩ (by exact Nat.le_of_ble_eq_true rfl) (by exact Nat.le_of_ble_eq_true rfl)
set_option maxHeartbeats 4000000 in
set_option maxRecDepth 100000 in
theorem w_cell (hlt : l.stackTraces = false) (r : XR cA Z X ta h) (t : tyv Z X ta) (hI : LI X) (ho : h o = some (lar (cA 3) f)) {a b c d : Int32} : Mc l D cA bs SZl yL_cell wsL_cell (rmk 10 4 30) [.ref (Z 0 0), .int a, .int b, .int c, .int d, .ref o] h (Wst cA Z o kIO kIA h (sp_cell X a b c d)) := by
  have hrow := r.row
  refine Mc_of (cc := cL_cell) (maxL := 7) (ret := (some .int)) (own := RL) [some (.ref (Z 0 0)), some (.int a), some (.int b), some (.int c), some (.int d), some (.ref o), none] rfl (by decide +kernel) rfl rfl (by exact Nat.le_of_ble_eq_true rfl) rfl ?_
  intro p9 e9 s9 m9 args9 below9 meth9 c9 C hr htb hz hsz
  obtain ⟨n1, n2, n3⟩ := hsz.2
  obtain ⟨k1, k2, k3⟩ := hsz.1.cast (args := args9)
  refine V_aload C dL_cell_0 rfl ?_
  refine V_iconst (v := 0) C dL_cell_2 (by decide) ?_
  refine V_aload_n (i := 0) C dL_cell_3 rfl rfl ?_
  refine V_iload_n (i := 1) C dL_cell_4 rfl rfl ?_
  refine V_iload_n (i := 2) C dL_cell_5 rfl rfl ?_
  refine V_iload_n (i := 3) C dL_cell_6 rfl rfl ?_
  refine V_iload C dL_cell_7 rfl ?_
  refine V_tcallV (n := 4) C (m_cell hlt r t hI) dL_cell_9 gL_cell_X4_cell rfl hrow rfl (by decide +kernel) rfl rfl (by exact Nat.le_of_ble_eq_true rfl) ⟨Nat.le_of_ble_eq_true rfl, Nat.le_of_ble_eq_true rfl⟩ ⟨Nat.le_of_ble_eq_true rfl, Nat.le_of_ble_eq_true rfl⟩ hz SZr.moves hsz.1 (fun E h2 hx => ?_) (fun v9 h9 hr9 => ?_)
  · obtain ⟨hE, z9⟩ := hx
    subst z9
    obtain ⟨hE2, hX⟩ := ex_cell hE
    rcases hE2 with rfl | rfl | rfl
    · refine ⟨17, ⟨[], ⟨0, 14, 17, 21⟩, [⟨0, 14, 21, 13⟩, ⟨0, 14, 25, 15⟩], kIO, htb.trans rfl, (fun z hz => absurd hz List.not_mem_nil), by decide, by decide, by decide +kernel, k3, rfl⟩, fun q => ?_⟩
      refine V_astore6 C dL_cell_17 (by decide) ?_
      refine V_iconst (v := 1) C dL_cell_19 (by decide) ?_
      exact V_iret C dL_cell_20 hr ⟨by rw [hE]; exact congrArg (fun c => some (Value.int c)) (by decide +kernel : (1 : Int32) = cod kIO kIA (some kIO)), ⟨Z, ta, by rw [hX]; exact r, by rw [hX]; exact t, rfl⟩, ⟨f, ho, fun z => by rw [hE] at z; cases z⟩, fun q e z _ _ => z⟩ (by exact Nat.le_of_ble_eq_true rfl) (by exact Nat.le_of_ble_eq_true rfl)
    · refine ⟨21, ⟨[⟨0, 14, 17, 21⟩], ⟨0, 14, 21, 13⟩, [⟨0, 14, 25, 15⟩], kIA, htb.trans rfl, (fun z hz => by rw [List.mem_singleton] at hz; subst hz; exact ⟨by decide, kIO, by decide +kernel, n3⟩), by decide, by decide, by decide +kernel, k1, rfl⟩, fun q => ?_⟩
      refine V_astore6 C dL_cell_21 (by decide) ?_
      refine V_iconst (v := 2) C dL_cell_23 (by decide) ?_
      exact V_iret C dL_cell_24 hr ⟨by rw [hE]; exact congrArg (fun c => some (Value.int c)) (by decide +kernel : (2 : Int32) = cod kIO kIA (some kIA)), ⟨Z, ta, by rw [hX]; exact r, by rw [hX]; exact t, rfl⟩, ⟨f, ho, fun z => by rw [hE] at z; cases z⟩, fun q e z _ _ => z⟩ (by exact Nat.le_of_ble_eq_true rfl) (by exact Nat.le_of_ble_eq_true rfl)
    · refine ⟨25, ⟨[⟨0, 14, 17, 21⟩, ⟨0, 14, 21, 13⟩], ⟨0, 14, 25, 15⟩, [], kIS, htb.trans rfl, (List.forall_mem_cons.mpr ⟨⟨by decide, kIO, by decide +kernel, n2⟩, List.forall_mem_cons.mpr ⟨⟨by decide, kIA, by decide +kernel, n1⟩, fun z hz => absurd hz List.not_mem_nil⟩⟩), by decide, by decide, by decide +kernel, k2, rfl⟩, fun q => ?_⟩
      refine V_astore6 C dL_cell_25 (by decide) ?_
      refine V_iconst (v := 3) C dL_cell_27 (by decide) ?_
      exact V_iret C dL_cell_28 hr ⟨by rw [hE]; exact congrArg (fun c => some (Value.int c)) (by decide +kernel : (3 : Int32) = cod kIO kIA (some kIS)), ⟨Z, ta, by rw [hX]; exact r, by rw [hX]; exact t, rfl⟩, ⟨f, ho, fun z => by rw [hE] at z; cases z⟩, fun q e z _ _ => z⟩ (by exact Nat.le_of_ble_eq_true rfl) (by exact Nat.le_of_ble_eq_true rfl)
  · obtain ⟨hE, rfl, Z2, ta2, r2, t2, z2, f2⟩ := hr9
    have ho9 := f2 _ _ ho trivial
    refine V_i2l C dL_cell_12 rfl ?_
    refine V_last C dL_cell_13 (by first | assumption | exact hset_s _ _ _) (vp_in_iff.mpr ⟨by decide, by decide⟩) ?_
    refine V_goto (tgt := 29) C dL_cell_14 (by decide) ?_
    refine V_iconst (v := 0) C dL_cell_29 (by decide) ?_
    exact V_iret C dL_cell_30 hr ⟨by rw [hE]; rfl, ⟨Z2, ta2, r2.lar ho9 _, t2, z2⟩, ⟨_, hset_s _ _ _, fun _ => if_pos (by decide)⟩, fun q e hq hg hn => by rw [hset_n hn]; exact f2 q e hq hg⟩ (by exact Nat.le_of_ble_eq_true rfl) (by exact Nat.le_of_ble_eq_true rfl)
set_option maxHeartbeats 4000000 in
set_option maxRecDepth 100000 in
theorem w_old (hlt : l.stackTraces = false) (r : XR cA Z X ta h) (t : tyv Z X ta) (hI : LI X) (ho : h o = some (lar (cA 3) f)) {a b c d : Int32} : Mc l D cA bs SZl yL_old wsL_old (rmk 10 4 30) [.ref (Z 0 0), .int a, .int b, .int c, .int d, .ref o] h (Wst cA Z o kIO kIA h (sp_old X a b c d)) := by
  have hrow := r.row
  refine Mc_of (cc := cL_old) (maxL := 7) (ret := (some .int)) (own := RL) [some (.ref (Z 0 0)), some (.int a), some (.int b), some (.int c), some (.int d), some (.ref o), none] rfl (by decide +kernel) rfl rfl (by exact Nat.le_of_ble_eq_true rfl) rfl ?_
  intro p9 e9 s9 m9 args9 below9 meth9 c9 C hr htb hz hsz
  obtain ⟨n1, n2, n3⟩ := hsz.2
  obtain ⟨k1, k2, k3⟩ := hsz.1.cast (args := args9)
  refine V_aload C dL_old_0 rfl ?_
  refine V_iconst (v := 0) C dL_old_2 (by decide) ?_
  refine V_aload_n (i := 0) C dL_old_3 rfl rfl ?_
  refine V_iload_n (i := 1) C dL_old_4 rfl rfl ?_
  refine V_iload_n (i := 2) C dL_old_5 rfl rfl ?_
  refine V_iload_n (i := 3) C dL_old_6 rfl rfl ?_
  refine V_iload C dL_old_7 rfl ?_
  refine V_tcallV (n := 4) C (m_old hlt r t hI) dL_old_9 gL_old_X4_old rfl hrow rfl (by decide +kernel) rfl rfl (by exact Nat.le_of_ble_eq_true rfl) ⟨Nat.le_of_ble_eq_true rfl, Nat.le_of_ble_eq_true rfl⟩ ⟨Nat.le_of_ble_eq_true rfl, Nat.le_of_ble_eq_true rfl⟩ hz SZr.moves hsz.1 (fun E h2 hx => ?_) (fun v9 h9 hr9 => ?_)
  · obtain ⟨hE, z9⟩ := hx
    subst z9
    obtain ⟨hE2, hX⟩ := ex_old hE
    rcases hE2 with rfl | rfl | rfl
    · refine ⟨17, ⟨[], ⟨0, 14, 17, 21⟩, [⟨0, 14, 21, 13⟩, ⟨0, 14, 25, 15⟩], kIO, htb.trans rfl, (fun z hz => absurd hz List.not_mem_nil), by decide, by decide, by decide +kernel, k3, rfl⟩, fun q => ?_⟩
      refine V_astore6 C dL_old_17 (by decide) ?_
      refine V_iconst (v := 1) C dL_old_19 (by decide) ?_
      exact V_iret C dL_old_20 hr ⟨by rw [hE]; exact congrArg (fun c => some (Value.int c)) (by decide +kernel : (1 : Int32) = cod kIO kIA (some kIO)), ⟨Z, ta, by rw [hX]; exact r, by rw [hX]; exact t, rfl⟩, ⟨f, ho, fun z => by rw [hE] at z; cases z⟩, fun q e z _ _ => z⟩ (by exact Nat.le_of_ble_eq_true rfl) (by exact Nat.le_of_ble_eq_true rfl)
    · refine ⟨21, ⟨[⟨0, 14, 17, 21⟩], ⟨0, 14, 21, 13⟩, [⟨0, 14, 25, 15⟩], kIA, htb.trans rfl, (fun z hz => by rw [List.mem_singleton] at hz; subst hz; exact ⟨by decide, kIO, by decide +kernel, n3⟩), by decide, by decide, by decide +kernel, k1, rfl⟩, fun q => ?_⟩
      refine V_astore6 C dL_old_21 (by decide) ?_
      refine V_iconst (v := 2) C dL_old_23 (by decide) ?_
      exact V_iret C dL_old_24 hr ⟨by rw [hE]; exact congrArg (fun c => some (Value.int c)) (by decide +kernel : (2 : Int32) = cod kIO kIA (some kIA)), ⟨Z, ta, by rw [hX]; exact r, by rw [hX]; exact t, rfl⟩, ⟨f, ho, fun z => by rw [hE] at z; cases z⟩, fun q e z _ _ => z⟩ (by exact Nat.le_of_ble_eq_true rfl) (by exact Nat.le_of_ble_eq_true rfl)
    · refine ⟨25, ⟨[⟨0, 14, 17, 21⟩, ⟨0, 14, 21, 13⟩], ⟨0, 14, 25, 15⟩, [], kIS, htb.trans rfl, (List.forall_mem_cons.mpr ⟨⟨by decide, kIO, by decide +kernel, n2⟩, List.forall_mem_cons.mpr ⟨⟨by decide, kIA, by decide +kernel, n1⟩, fun z hz => absurd hz List.not_mem_nil⟩⟩), by decide, by decide, by decide +kernel, k2, rfl⟩, fun q => ?_⟩
      refine V_astore6 C dL_old_25 (by decide) ?_
      refine V_iconst (v := 3) C dL_old_27 (by decide) ?_
      exact V_iret C dL_old_28 hr ⟨by rw [hE]; exact congrArg (fun c => some (Value.int c)) (by decide +kernel : (3 : Int32) = cod kIO kIA (some kIS)), ⟨Z, ta, by rw [hX]; exact r, by rw [hX]; exact t, rfl⟩, ⟨f, ho, fun z => by rw [hE] at z; cases z⟩, fun q e z _ _ => z⟩ (by exact Nat.le_of_ble_eq_true rfl) (by exact Nat.le_of_ble_eq_true rfl)
  · obtain ⟨hE, rfl, Z2, ta2, r2, t2, z2, f2⟩ := hr9
    have ho9 := f2 _ _ ho trivial
    refine V_i2l C dL_old_12 rfl ?_
    refine V_last C dL_old_13 (by first | assumption | exact hset_s _ _ _) (vp_in_iff.mpr ⟨by decide, by decide⟩) ?_
    refine V_goto (tgt := 29) C dL_old_14 (by decide) ?_
    refine V_iconst (v := 0) C dL_old_29 (by decide) ?_
    exact V_iret C dL_old_30 hr ⟨by rw [hE]; rfl, ⟨Z2, ta2, r2.lar ho9 _, t2, z2⟩, ⟨_, hset_s _ _ _, fun _ => if_pos (by decide)⟩, fun q e hq hg hn => by rw [hset_n hn]; exact f2 q e hq hg⟩ (by exact Nat.le_of_ble_eq_true rfl) (by exact Nat.le_of_ble_eq_true rfl)
set_option maxHeartbeats 4000000 in
set_option maxRecDepth 100000 in
theorem w_fill (hlt : l.stackTraces = false) (r : XR cA Z X ta h) (t : tyv Z X ta) (hI : LI X) (ho : h o = some (lar (cA 3) f)) {x : Int32} : Mc l D cA bs SZl yL_fill wsL_fill (rmk 10 4 30) [.ref (Z 0 0), .int x, .ref o] h (Wst cA Z o kIO kIA h (sp_fill X x)) := by
  have hrow := r.row
  refine Mc_of (cc := cL_fill) (maxL := 4) (ret := (some .int)) (own := RL) [some (.ref (Z 0 0)), some (.int x), some (.ref o), none] rfl (by decide +kernel) rfl rfl (by exact Nat.le_of_ble_eq_true rfl) rfl ?_
  intro p9 e9 s9 m9 args9 below9 meth9 c9 C hr htb hz hsz
  obtain ⟨n1, n2, n3⟩ := hsz.2
  obtain ⟨k1, k2, k3⟩ := hsz.1.cast (args := args9)
  refine V_aload_n (i := 2) C dL_fill_0 rfl rfl ?_
  refine V_iconst (v := 0) C dL_fill_1 (by decide) ?_
  refine V_aload_n (i := 0) C dL_fill_2 rfl rfl ?_
  refine V_iload_n (i := 1) C dL_fill_3 rfl rfl ?_
  refine V_tcallV (n := 1) C (m_fill hlt r t hI) dL_fill_4 gL_fill_X4_fill rfl hrow rfl (by decide +kernel) rfl rfl (by exact Nat.le_of_ble_eq_true rfl) ⟨Nat.le_of_ble_eq_true rfl, Nat.le_of_ble_eq_true rfl⟩ ⟨Nat.le_of_ble_eq_true rfl, Nat.le_of_ble_eq_true rfl⟩ hz SZr.moves hsz.1 (fun E h2 hx => ?_) (fun v9 h9 hr9 => ?_)
  · obtain ⟨hE, z9⟩ := hx
    subst z9
    obtain ⟨hE2, hX⟩ := ex_fill hE
    subst hE2
    refine ⟨12, ⟨[], ⟨0, 9, 12, 21⟩, [], kIO, htb.trans rfl, (fun z hz => absurd hz List.not_mem_nil), by decide, by decide, by decide +kernel, k3, rfl⟩, fun q => ?_⟩
    refine V_astore3 C dL_fill_12 (by decide) ?_
    refine V_iconst (v := 1) C dL_fill_13 (by decide) ?_
    exact V_iret C dL_fill_14 hr ⟨by rw [hE]; exact congrArg (fun c => some (Value.int c)) (by decide +kernel : (1 : Int32) = cod kIO kIA (some kIO)), ⟨Z, ta, by rw [hX]; exact r, by rw [hX]; exact t, rfl⟩, ⟨f, ho, fun z => by rw [hE] at z; cases z⟩, fun q e z _ _ => z⟩ (by exact Nat.le_of_ble_eq_true rfl) (by exact Nat.le_of_ble_eq_true rfl)
  · obtain ⟨hE, rfl, Z2, ta2, r2, t2, z2, f2⟩ := hr9
    have ho9 := f2 _ _ ho trivial
    refine V_i2l C dL_fill_7 rfl ?_
    refine V_last C dL_fill_8 (by first | assumption | exact hset_s _ _ _) (vp_in_iff.mpr ⟨by decide, by decide⟩) ?_
    refine V_goto (tgt := 15) C dL_fill_9 (by decide) ?_
    refine V_iconst (v := 0) C dL_fill_15 (by decide) ?_
    exact V_iret C dL_fill_16 hr ⟨by rw [hE]; rfl, ⟨Z2, ta2, r2.lar ho9 _, t2, z2⟩, ⟨_, hset_s _ _ _, fun _ => if_pos (by decide)⟩, fun q e hq hg hn => by rw [hset_n hn]; exact f2 q e hq hg⟩ (by exact Nat.le_of_ble_eq_true rfl) (by exact Nat.le_of_ble_eq_true rfl)
set_option maxHeartbeats 4000000 in
set_option maxRecDepth 100000 in
theorem w_design (hlt : l.stackTraces = false) (r : XR cA Z X ta h) (t : tyv Z X ta) (hI : LI X) (ho : h o = some (lar (cA 3) f)) {x : Int32} : Mc l D cA bs SZl yL_design wsL_design (rmk 10 4 30) [.ref (Z 0 0), .int x, .ref o] h (Wst cA Z o kIO kIA h (sp_design X x)) := by
  have hrow := r.row
  refine Mc_of (cc := cL_design) (maxL := 4) (ret := (some .int)) (own := RL) [some (.ref (Z 0 0)), some (.int x), some (.ref o), none] rfl (by decide +kernel) rfl rfl (by exact Nat.le_of_ble_eq_true rfl) rfl ?_
  intro p9 e9 s9 m9 args9 below9 meth9 c9 C hr htb hz hsz
  obtain ⟨n1, n2, n3⟩ := hsz.2
  obtain ⟨k1, k2, k3⟩ := hsz.1.cast (args := args9)
  refine V_aload_n (i := 2) C dL_design_0 rfl rfl ?_
  refine V_iconst (v := 0) C dL_design_1 (by decide) ?_
  refine V_aload_n (i := 0) C dL_design_2 rfl rfl ?_
  refine V_iload_n (i := 1) C dL_design_3 rfl rfl ?_
  refine V_tcallV (n := 1) C (m_design hlt r t hI) dL_design_4 gL_design_X4_design rfl hrow rfl (by decide +kernel) rfl rfl (by exact Nat.le_of_ble_eq_true rfl) ⟨Nat.le_of_ble_eq_true rfl, Nat.le_of_ble_eq_true rfl⟩ ⟨Nat.le_of_ble_eq_true rfl, Nat.le_of_ble_eq_true rfl⟩ hz SZr.moves hsz.1 (fun E h2 hx => ?_) (fun v9 h9 hr9 => ?_)
  · obtain ⟨hE, z9⟩ := hx
    subst z9
    obtain ⟨hE2, hX⟩ := ex_design hE
    subst hE2
    refine ⟨12, ⟨[], ⟨0, 9, 12, 21⟩, [], kIO, htb.trans rfl, (fun z hz => absurd hz List.not_mem_nil), by decide, by decide, by decide +kernel, k3, rfl⟩, fun q => ?_⟩
    refine V_astore3 C dL_design_12 (by decide) ?_
    refine V_iconst (v := 1) C dL_design_13 (by decide) ?_
    exact V_iret C dL_design_14 hr ⟨by rw [hE]; exact congrArg (fun c => some (Value.int c)) (by decide +kernel : (1 : Int32) = cod kIO kIA (some kIO)), ⟨Z, ta, by rw [hX]; exact r, by rw [hX]; exact t, rfl⟩, ⟨f, ho, fun z => by rw [hE] at z; cases z⟩, fun q e z _ _ => z⟩ (by exact Nat.le_of_ble_eq_true rfl) (by exact Nat.le_of_ble_eq_true rfl)
  · obtain ⟨hE, rfl, Z2, ta2, r2, t2, z2, f2⟩ := hr9
    have ho9 := f2 _ _ ho trivial
    refine V_i2l C dL_design_7 rfl ?_
    refine V_last C dL_design_8 (by first | assumption | exact hset_s _ _ _) (vp_in_iff.mpr ⟨by decide, by decide⟩) ?_
    refine V_goto (tgt := 15) C dL_design_9 (by decide) ?_
    refine V_iconst (v := 0) C dL_design_15 (by decide) ?_
    exact V_iret C dL_design_16 hr ⟨by rw [hE]; rfl, ⟨Z2, ta2, r2.lar ho9 _, t2, z2⟩, ⟨_, hset_s _ _ _, fun _ => if_pos (by decide)⟩, fun q e hq hg hn => by rw [hset_n hn]; exact f2 q e hq hg⟩ (by exact Nat.le_of_ble_eq_true rfl) (by exact Nat.le_of_ble_eq_true rfl)
set_option maxHeartbeats 4000000 in
set_option maxRecDepth 100000 in
theorem w_share (hlt : l.stackTraces = false) (r : XR cA Z X ta h) (t : tyv Z X ta) (hI : LI X) (ho : h o = some (lar (cA 3) f)) {x a b : Int32} : Mc l D cA bs SZl yL_share wsL_share (rmk 10 4 30) [.ref (Z 0 0), .int x, .int a, .int b, .ref o] h (Wst cA Z o kIO kIA h (sp_share X x a b)) := by
  have hrow := r.row
  refine Mc_of (cc := cL_share) (maxL := 6) (ret := (some .int)) (own := RL) [some (.ref (Z 0 0)), some (.int x), some (.int a), some (.int b), some (.ref o), none] rfl (by decide +kernel) rfl rfl (by exact Nat.le_of_ble_eq_true rfl) rfl ?_
  intro p9 e9 s9 m9 args9 below9 meth9 c9 C hr htb hz hsz
  obtain ⟨n1, n2, n3⟩ := hsz.2
  obtain ⟨k1, k2, k3⟩ := hsz.1.cast (args := args9)
  refine V_aload C dL_share_0 rfl ?_
  refine V_iconst (v := 0) C dL_share_2 (by decide) ?_
  refine V_aload_n (i := 0) C dL_share_3 rfl rfl ?_
  refine V_iload_n (i := 1) C dL_share_4 rfl rfl ?_
  refine V_iload_n (i := 2) C dL_share_5 rfl rfl ?_
  refine V_iload_n (i := 3) C dL_share_6 rfl rfl ?_
  refine V_tcallV (n := 3) C (m_share hlt r t hI) dL_share_7 gL_share_X4_share rfl hrow rfl (by decide +kernel) rfl rfl (by exact Nat.le_of_ble_eq_true rfl) ⟨Nat.le_of_ble_eq_true rfl, Nat.le_of_ble_eq_true rfl⟩ ⟨Nat.le_of_ble_eq_true rfl, Nat.le_of_ble_eq_true rfl⟩ hz SZr.moves hsz.1 (fun E h2 hx => ?_) (fun v9 h9 hr9 => ?_)
  · obtain ⟨hE, z9⟩ := hx
    subst z9
    obtain ⟨hE2, hX⟩ := ex_share hE
    rcases hE2 with rfl | rfl
    · refine ⟨15, ⟨[], ⟨0, 12, 15, 21⟩, [⟨0, 12, 19, 13⟩], kIO, htb.trans rfl, (fun z hz => absurd hz List.not_mem_nil), by decide, by decide, by decide +kernel, k3, rfl⟩, fun q => ?_⟩
      refine V_astore5 C dL_share_15 (by decide) ?_
      refine V_iconst (v := 1) C dL_share_17 (by decide) ?_
      exact V_iret C dL_share_18 hr ⟨by rw [hE]; exact congrArg (fun c => some (Value.int c)) (by decide +kernel : (1 : Int32) = cod kIO kIA (some kIO)), ⟨Z, ta, by rw [hX]; exact r, by rw [hX]; exact t, rfl⟩, ⟨f, ho, fun z => by rw [hE] at z; cases z⟩, fun q e z _ _ => z⟩ (by exact Nat.le_of_ble_eq_true rfl) (by exact Nat.le_of_ble_eq_true rfl)
    · refine ⟨19, ⟨[⟨0, 12, 15, 21⟩], ⟨0, 12, 19, 13⟩, [], kIA, htb.trans rfl, (fun z hz => by rw [List.mem_singleton] at hz; subst hz; exact ⟨by decide, kIO, by decide +kernel, n3⟩), by decide, by decide, by decide +kernel, k1, rfl⟩, fun q => ?_⟩
      refine V_astore5 C dL_share_19 (by decide) ?_
      refine V_iconst (v := 2) C dL_share_21 (by decide) ?_
      exact V_iret C dL_share_22 hr ⟨by rw [hE]; exact congrArg (fun c => some (Value.int c)) (by decide +kernel : (2 : Int32) = cod kIO kIA (some kIA)), ⟨Z, ta, by rw [hX]; exact r, by rw [hX]; exact t, rfl⟩, ⟨f, ho, fun z => by rw [hE] at z; cases z⟩, fun q e z _ _ => z⟩ (by exact Nat.le_of_ble_eq_true rfl) (by exact Nat.le_of_ble_eq_true rfl)
  · obtain ⟨hE, rfl, Z2, ta2, r2, t2, z2, f2⟩ := hr9
    have ho9 := f2 _ _ ho trivial
    refine V_i2l C dL_share_10 rfl ?_
    refine V_last C dL_share_11 (by first | assumption | exact hset_s _ _ _) (vp_in_iff.mpr ⟨by decide, by decide⟩) ?_
    refine V_goto (tgt := 23) C dL_share_12 (by decide) ?_
    refine V_iconst (v := 0) C dL_share_23 (by decide) ?_
    exact V_iret C dL_share_24 hr ⟨by rw [hE]; rfl, ⟨Z2, ta2, r2.lar ho9 _, t2, z2⟩, ⟨_, hset_s _ _ _, fun _ => if_pos (by decide)⟩, fun q e hq hg hn => by rw [hset_n hn]; exact f2 q e hq hg⟩ (by exact Nat.le_of_ble_eq_true rfl) (by exact Nat.le_of_ble_eq_true rfl)
set_option maxHeartbeats 4000000 in
set_option maxRecDepth 100000 in
theorem w_send (hlt : l.stackTraces = false) (r : XR cA Z X ta h) (t : tyv Z X ta) (hI : LI X) (ho : h o = some (lar (cA 3) f)) {c x : Int32} : Mc l D cA bs SZl yL_send wsL_send (rmk 10 4 30) [.ref (Z 0 0), .int c, .int x, .ref o] h (Wst cA Z o kIO kIA h (sp_send X c x)) := by
  have hrow := r.row
  refine Mc_of (cc := cL_send) (maxL := 5) (ret := (some .int)) (own := RL) [some (.ref (Z 0 0)), some (.int c), some (.int x), some (.ref o), none] rfl (by decide +kernel) rfl rfl (by exact Nat.le_of_ble_eq_true rfl) rfl ?_
  intro p9 e9 s9 m9 args9 below9 meth9 c9 C hr htb hz hsz
  obtain ⟨n1, n2, n3⟩ := hsz.2
  obtain ⟨k1, k2, k3⟩ := hsz.1.cast (args := args9)
  refine V_aload_n (i := 3) C dL_send_0 rfl rfl ?_
  refine V_iconst (v := 0) C dL_send_1 (by decide) ?_
  refine V_aload_n (i := 0) C dL_send_2 rfl rfl ?_
  refine V_iload_n (i := 1) C dL_send_3 rfl rfl ?_
  refine V_iload_n (i := 2) C dL_send_4 rfl rfl ?_
  refine V_tcallV (n := 2) C (m_send hlt r t hI) dL_send_5 gL_send_X4_send rfl hrow rfl (by decide +kernel) rfl rfl (by exact Nat.le_of_ble_eq_true rfl) ⟨Nat.le_of_ble_eq_true rfl, Nat.le_of_ble_eq_true rfl⟩ ⟨Nat.le_of_ble_eq_true rfl, Nat.le_of_ble_eq_true rfl⟩ hz SZr.moves hsz.1 (fun E h2 hx => ?_) (fun v9 h9 hr9 => ?_)
  · obtain ⟨hE, z9⟩ := hx
    subst z9
    obtain ⟨hE2, hX⟩ := ex_send hE
    subst hE2
    refine ⟨13, ⟨[], ⟨0, 10, 13, 21⟩, [], kIO, htb.trans rfl, (fun z hz => absurd hz List.not_mem_nil), by decide, by decide, by decide +kernel, k3, rfl⟩, fun q => ?_⟩
    refine V_astore4 C dL_send_13 (by decide) ?_
    refine V_iconst (v := 1) C dL_send_15 (by decide) ?_
    exact V_iret C dL_send_16 hr ⟨by rw [hE]; exact congrArg (fun c => some (Value.int c)) (by decide +kernel : (1 : Int32) = cod kIO kIA (some kIO)), ⟨Z, ta, by rw [hX]; exact r, by rw [hX]; exact t, rfl⟩, ⟨f, ho, fun z => by rw [hE] at z; cases z⟩, fun q e z _ _ => z⟩ (by exact Nat.le_of_ble_eq_true rfl) (by exact Nat.le_of_ble_eq_true rfl)
  · obtain ⟨hE, rfl, Z2, ta2, r2, t2, z2, f2⟩ := hr9
    have ho9 := f2 _ _ ho trivial
    refine V_i2l C dL_send_8 rfl ?_
    refine V_last C dL_send_9 (by first | assumption | exact hset_s _ _ _) (vp_in_iff.mpr ⟨by decide, by decide⟩) ?_
    refine V_goto (tgt := 17) C dL_send_10 (by decide) ?_
    refine V_iconst (v := 0) C dL_send_17 (by decide) ?_
    exact V_iret C dL_send_18 hr ⟨by rw [hE]; rfl, ⟨Z2, ta2, r2.lar ho9 _, t2, z2⟩, ⟨_, hset_s _ _ _, fun _ => if_pos (by decide)⟩, fun q e hq hg hn => by rw [hset_n hn]; exact f2 q e hq hg⟩ (by exact Nat.le_of_ble_eq_true rfl) (by exact Nat.le_of_ble_eq_true rfl)
set_option maxHeartbeats 4000000 in
set_option maxRecDepth 100000 in
theorem w_crew (hlt : l.stackTraces = false) (r : XR cA Z X ta h) (t : tyv Z X ta) (hI : LI X) (ho : h o = some (lar (cA 3) f)) {c a b : Int32} : Mc l D cA bs SZl yL_crew wsL_crew (rmk 10 4 30) [.ref (Z 0 0), .int c, .int a, .int b, .ref o] h (Wst cA Z o kIO kIA h (sp_crew X c a b)) := by
  have hrow := r.row
  refine Mc_of (cc := cL_crew) (maxL := 6) (ret := (some .int)) (own := RL) [some (.ref (Z 0 0)), some (.int c), some (.int a), some (.int b), some (.ref o), none] rfl (by decide +kernel) rfl rfl (by exact Nat.le_of_ble_eq_true rfl) rfl ?_
  intro p9 e9 s9 m9 args9 below9 meth9 c9 C hr htb hz hsz
  obtain ⟨n1, n2, n3⟩ := hsz.2
  obtain ⟨k1, k2, k3⟩ := hsz.1.cast (args := args9)
  refine V_aload C dL_crew_0 rfl ?_
  refine V_iconst (v := 0) C dL_crew_2 (by decide) ?_
  refine V_aload_n (i := 0) C dL_crew_3 rfl rfl ?_
  refine V_iload_n (i := 1) C dL_crew_4 rfl rfl ?_
  refine V_iload_n (i := 2) C dL_crew_5 rfl rfl ?_
  refine V_iload_n (i := 3) C dL_crew_6 rfl rfl ?_
  refine V_tcallV (n := 3) C (m_crew hlt r t hI) dL_crew_7 gL_crew_X4_crew rfl hrow rfl (by decide +kernel) rfl rfl (by exact Nat.le_of_ble_eq_true rfl) ⟨Nat.le_of_ble_eq_true rfl, Nat.le_of_ble_eq_true rfl⟩ ⟨Nat.le_of_ble_eq_true rfl, Nat.le_of_ble_eq_true rfl⟩ hz SZr.moves hsz.1 (fun E h2 hx => ?_) (fun v9 h9 hr9 => ?_)
  · obtain ⟨hE, z9⟩ := hx
    subst z9
    obtain ⟨hE2, hX⟩ := ex_crew hE
    rcases hE2 with rfl | rfl
    · refine ⟨15, ⟨[], ⟨0, 12, 15, 21⟩, [⟨0, 12, 19, 13⟩], kIO, htb.trans rfl, (fun z hz => absurd hz List.not_mem_nil), by decide, by decide, by decide +kernel, k3, rfl⟩, fun q => ?_⟩
      refine V_astore5 C dL_crew_15 (by decide) ?_
      refine V_iconst (v := 1) C dL_crew_17 (by decide) ?_
      exact V_iret C dL_crew_18 hr ⟨by rw [hE]; exact congrArg (fun c => some (Value.int c)) (by decide +kernel : (1 : Int32) = cod kIO kIA (some kIO)), ⟨Z, ta, by rw [hX]; exact r, by rw [hX]; exact t, rfl⟩, ⟨f, ho, fun z => by rw [hE] at z; cases z⟩, fun q e z _ _ => z⟩ (by exact Nat.le_of_ble_eq_true rfl) (by exact Nat.le_of_ble_eq_true rfl)
    · refine ⟨19, ⟨[⟨0, 12, 15, 21⟩], ⟨0, 12, 19, 13⟩, [], kIA, htb.trans rfl, (fun z hz => by rw [List.mem_singleton] at hz; subst hz; exact ⟨by decide, kIO, by decide +kernel, n3⟩), by decide, by decide, by decide +kernel, k1, rfl⟩, fun q => ?_⟩
      refine V_astore5 C dL_crew_19 (by decide) ?_
      refine V_iconst (v := 2) C dL_crew_21 (by decide) ?_
      exact V_iret C dL_crew_22 hr ⟨by rw [hE]; exact congrArg (fun c => some (Value.int c)) (by decide +kernel : (2 : Int32) = cod kIO kIA (some kIA)), ⟨Z, ta, by rw [hX]; exact r, by rw [hX]; exact t, rfl⟩, ⟨f, ho, fun z => by rw [hE] at z; cases z⟩, fun q e z _ _ => z⟩ (by exact Nat.le_of_ble_eq_true rfl) (by exact Nat.le_of_ble_eq_true rfl)
  · obtain ⟨hE, rfl, Z2, ta2, r2, t2, z2, f2⟩ := hr9
    have ho9 := f2 _ _ ho trivial
    refine V_i2l C dL_crew_10 rfl ?_
    refine V_last C dL_crew_11 (by first | assumption | exact hset_s _ _ _) (vp_in_iff.mpr ⟨by decide, by decide⟩) ?_
    refine V_goto (tgt := 23) C dL_crew_12 (by decide) ?_
    refine V_iconst (v := 0) C dL_crew_23 (by decide) ?_
    exact V_iret C dL_crew_24 hr ⟨by rw [hE]; rfl, ⟨Z2, ta2, r2.lar ho9 _, t2, z2⟩, ⟨_, hset_s _ _ _, fun _ => if_pos (by decide)⟩, fun q e hq hg hn => by rw [hset_n hn]; exact f2 q e hq hg⟩ (by exact Nat.le_of_ble_eq_true rfl) (by exact Nat.le_of_ble_eq_true rfl)
set_option maxHeartbeats 4000000 in
set_option maxRecDepth 100000 in
theorem w_tray (hlt : l.stackTraces = false) (r : XR cA Z X ta h) (t : tyv Z X ta) (hI : LI X) (ho : h o = some (lar (cA 3) f)) {c a : Int32} : Mc l D cA bs SZl yL_tray wsL_tray (rmk 10 4 30) [.ref (Z 0 0), .int c, .int a, .ref o] h (Wst cA Z o kIO kIA h (sp_tray X c a)) := by
  have hrow := r.row
  refine Mc_of (cc := cL_tray) (maxL := 5) (ret := (some .int)) (own := RL) [some (.ref (Z 0 0)), some (.int c), some (.int a), some (.ref o), none] rfl (by decide +kernel) rfl rfl (by exact Nat.le_of_ble_eq_true rfl) rfl ?_
  intro p9 e9 s9 m9 args9 below9 meth9 c9 C hr htb hz hsz
  obtain ⟨n1, n2, n3⟩ := hsz.2
  obtain ⟨k1, k2, k3⟩ := hsz.1.cast (args := args9)
  refine V_aload_n (i := 3) C dL_tray_0 rfl rfl ?_
  refine V_iconst (v := 0) C dL_tray_1 (by decide) ?_
  refine V_aload_n (i := 0) C dL_tray_2 rfl rfl ?_
  refine V_iload_n (i := 1) C dL_tray_3 rfl rfl ?_
  refine V_iload_n (i := 2) C dL_tray_4 rfl rfl ?_
  refine V_tcallV (n := 2) C (m_tray hlt r t hI) dL_tray_5 gL_tray_X4_tray rfl hrow rfl (by decide +kernel) rfl rfl (by exact Nat.le_of_ble_eq_true rfl) ⟨Nat.le_of_ble_eq_true rfl, Nat.le_of_ble_eq_true rfl⟩ ⟨Nat.le_of_ble_eq_true rfl, Nat.le_of_ble_eq_true rfl⟩ hz SZr.moves hsz.1 (fun E h2 hx => ?_) (fun v9 h9 hr9 => ?_)
  · obtain ⟨hE, z9⟩ := hx
    subst z9
    obtain ⟨hE2, hX⟩ := ex_tray hE
    rcases hE2 with rfl | rfl
    · refine ⟨13, ⟨[], ⟨0, 10, 13, 21⟩, [⟨0, 10, 17, 13⟩], kIO, htb.trans rfl, (fun z hz => absurd hz List.not_mem_nil), by decide, by decide, by decide +kernel, k3, rfl⟩, fun q => ?_⟩
      refine V_astore4 C dL_tray_13 (by decide) ?_
      refine V_iconst (v := 1) C dL_tray_15 (by decide) ?_
      exact V_iret C dL_tray_16 hr ⟨by rw [hE]; exact congrArg (fun c => some (Value.int c)) (by decide +kernel : (1 : Int32) = cod kIO kIA (some kIO)), ⟨Z, ta, by rw [hX]; exact r, by rw [hX]; exact t, rfl⟩, ⟨f, ho, fun z => by rw [hE] at z; cases z⟩, fun q e z _ _ => z⟩ (by exact Nat.le_of_ble_eq_true rfl) (by exact Nat.le_of_ble_eq_true rfl)
    · refine ⟨17, ⟨[⟨0, 10, 13, 21⟩], ⟨0, 10, 17, 13⟩, [], kIA, htb.trans rfl, (fun z hz => by rw [List.mem_singleton] at hz; subst hz; exact ⟨by decide, kIO, by decide +kernel, n3⟩), by decide, by decide, by decide +kernel, k1, rfl⟩, fun q => ?_⟩
      refine V_astore4 C dL_tray_17 (by decide) ?_
      refine V_iconst (v := 2) C dL_tray_19 (by decide) ?_
      exact V_iret C dL_tray_20 hr ⟨by rw [hE]; exact congrArg (fun c => some (Value.int c)) (by decide +kernel : (2 : Int32) = cod kIO kIA (some kIA)), ⟨Z, ta, by rw [hX]; exact r, by rw [hX]; exact t, rfl⟩, ⟨f, ho, fun z => by rw [hE] at z; cases z⟩, fun q e z _ _ => z⟩ (by exact Nat.le_of_ble_eq_true rfl) (by exact Nat.le_of_ble_eq_true rfl)
  · obtain ⟨hE, rfl, Z2, ta2, r2, t2, z2, f2⟩ := hr9
    have ho9 := f2 _ _ ho trivial
    refine V_i2l C dL_tray_8 rfl ?_
    refine V_last C dL_tray_9 (by first | assumption | exact hset_s _ _ _) (vp_in_iff.mpr ⟨by decide, by decide⟩) ?_
    refine V_goto (tgt := 21) C dL_tray_10 (by decide) ?_
    refine V_iconst (v := 0) C dL_tray_21 (by decide) ?_
    exact V_iret C dL_tray_22 hr ⟨by rw [hE]; rfl, ⟨Z2, ta2, r2.lar ho9 _, t2, z2⟩, ⟨_, hset_s _ _ _, fun _ => if_pos (by decide)⟩, fun q e hq hg hn => by rw [hset_n hn]; exact f2 q e hq hg⟩ (by exact Nat.le_of_ble_eq_true rfl) (by exact Nat.le_of_ble_eq_true rfl)
set_option maxHeartbeats 4000000 in
set_option maxRecDepth 100000 in
theorem w_load (hlt : l.stackTraces = false) (r : XR cA Z X ta h) (t : tyv Z X ta) (hI : LI X) (ho : h o = some (lar (cA 3) f)) {c a : Int32} : Mc l D cA bs SZl yL_load wsL_load (rmk 10 4 30) [.ref (Z 0 0), .int c, .int a, .ref o] h (Wst cA Z o kIO kIA h (sp_load X c a)) := by
  have hrow := r.row
  refine Mc_of (cc := cL_load) (maxL := 5) (ret := (some .int)) (own := RL) [some (.ref (Z 0 0)), some (.int c), some (.int a), some (.ref o), none] rfl (by decide +kernel) rfl rfl (by exact Nat.le_of_ble_eq_true rfl) rfl ?_
  intro p9 e9 s9 m9 args9 below9 meth9 c9 C hr htb hz hsz
  obtain ⟨n1, n2, n3⟩ := hsz.2
  obtain ⟨k1, k2, k3⟩ := hsz.1.cast (args := args9)
  refine V_aload_n (i := 3) C dL_load_0 rfl rfl ?_
  refine V_iconst (v := 0) C dL_load_1 (by decide) ?_
  refine V_aload_n (i := 0) C dL_load_2 rfl rfl ?_
  refine V_iload_n (i := 1) C dL_load_3 rfl rfl ?_
  refine V_iload_n (i := 2) C dL_load_4 rfl rfl ?_
  refine V_tcallV (n := 2) C (m_load hlt r t hI) dL_load_5 gL_load_X4_load rfl hrow rfl (by decide +kernel) rfl rfl (by exact Nat.le_of_ble_eq_true rfl) ⟨Nat.le_of_ble_eq_true rfl, Nat.le_of_ble_eq_true rfl⟩ ⟨Nat.le_of_ble_eq_true rfl, Nat.le_of_ble_eq_true rfl⟩ hz SZr.moves hsz.1 (fun E h2 hx => ?_) (fun v9 h9 hr9 => ?_)
  · obtain ⟨hE, z9⟩ := hx
    subst z9
    obtain ⟨hE2, hX⟩ := ex_load hE
    subst hE2
    refine ⟨20, ⟨[], ⟨0, 17, 20, 21⟩, [], kIO, htb.trans rfl, (fun z hz => absurd hz List.not_mem_nil), by decide, by decide, by decide +kernel, k3, rfl⟩, fun q => ?_⟩
    refine V_astore4 C dL_load_20 (by decide) ?_
    refine V_iconst (v := 1) C dL_load_22 (by decide) ?_
    exact V_iret C dL_load_23 hr ⟨by rw [hE]; exact congrArg (fun c => some (Value.int c)) (by decide +kernel : (1 : Int32) = cod kIO kIA (some kIO)), ⟨Z, ta, by rw [hX]; exact r, by rw [hX]; exact t, rfl⟩, ⟨f, ho, fun z => by rw [hE] at z; cases z⟩, fun q e z _ _ => z⟩ (by exact Nat.le_of_ble_eq_true rfl) (by exact Nat.le_of_ble_eq_true rfl)
  · obtain ⟨hE, rfl, Z2, ta2, r2, t2, z2, f2⟩ := hr9
    have ho9 := f2 _ _ ho trivial
    rcases ld01 (X := X) (c := c) (a := a) with e9 | e9
    · rw [e9]
      refine V_if_eq (tgt := 15) C dL_load_8 (by decide) (fun _ => ?_) (fun z9 => absurd rfl z9)
      refine V_lconst C dL_load_15 rfl ?_
      refine V_last C dL_load_16 (by first | assumption | exact hset_s _ _ _) (vp_in_iff.mpr ⟨by decide, by decide⟩) ?_
      refine V_goto (tgt := 24) C dL_load_17 (by decide) ?_
      refine V_iconst (v := 0) C dL_load_24 (by decide) ?_
      exact V_iret C dL_load_25 hr ⟨by rw [hE]; rfl, ⟨Z2, ta2, r2.lar ho9 _, t2, z2⟩, ⟨_, hset_s _ _ _, fun _ => by rw [e9]; exact if_pos (by decide)⟩, fun q e hq hg hn => by rw [hset_n hn]; exact f2 q e hq hg⟩ (by exact Nat.le_of_ble_eq_true rfl) (by exact Nat.le_of_ble_eq_true rfl)
    · rw [e9]
      refine V_if_eq (tgt := 15) C dL_load_8 (by decide) (fun z9 => absurd z9 (by decide)) (fun _ => ?_)
      refine V_lconst C dL_load_11 rfl ?_
      refine V_goto (tgt := 16) C dL_load_12 (by decide) ?_
      refine V_last C dL_load_16 (by first | assumption | exact hset_s _ _ _) (vp_in_iff.mpr ⟨by decide, by decide⟩) ?_
      refine V_goto (tgt := 24) C dL_load_17 (by decide) ?_
      refine V_iconst (v := 0) C dL_load_24 (by decide) ?_
      exact V_iret C dL_load_25 hr ⟨by rw [hE]; rfl, ⟨Z2, ta2, r2.lar ho9 _, t2, z2⟩, ⟨_, hset_s _ _ _, fun _ => by rw [e9]; exact if_pos (by decide)⟩, fun q e hq hg hn => by rw [hset_n hn]; exact f2 q e hq hg⟩ (by exact Nat.le_of_ble_eq_true rfl) (by exact Nat.le_of_ble_eq_true rfl)
set_option maxHeartbeats 4000000 in
set_option maxRecDepth 100000 in
theorem w_pass (hlt : l.stackTraces = false) (r : XR cA Z X ta h) (t : tyv Z X ta) (hI : CI M X) (ho : h o = some (lar (cA 3) f)) {a : Int32} : Mc l D cA bs SZl yL_pass wsL_pass (rmk 10 4 30) [.ref (Z 0 0), .int a, .ref o] h (Wst cA Z o kIA kIA h (sp_pass X a)) := by
  have hrow := r.row
  refine Mc_of (cc := cL_pass) (maxL := 4) (ret := (some .int)) (own := RL) [some (.ref (Z 0 0)), some (.int a), some (.ref o), none] rfl (by decide +kernel) rfl rfl (by exact Nat.le_of_ble_eq_true rfl) rfl ?_
  intro p9 e9 s9 m9 args9 below9 meth9 c9 C hr htb hz hsz
  obtain ⟨n1, n2, n3⟩ := hsz.2
  obtain ⟨k1, k2, k3⟩ := hsz.1.cast (args := args9)
  refine V_aload_n (i := 2) C dL_pass_0 rfl rfl ?_
  refine V_iconst (v := 0) C dL_pass_1 (by decide) ?_
  refine V_aload_n (i := 0) C dL_pass_2 rfl rfl ?_
  refine V_iload_n (i := 1) C dL_pass_3 rfl rfl ?_
  refine V_tcallV (n := 1) C (m_pass hlt r t hI) dL_pass_4 gL_pass_X4_pass rfl hrow rfl (by decide +kernel) rfl rfl (by exact Nat.le_of_ble_eq_true rfl) ⟨Nat.le_of_ble_eq_true rfl, Nat.le_of_ble_eq_true rfl⟩ ⟨Nat.le_of_ble_eq_true rfl, Nat.le_of_ble_eq_true rfl⟩ hz SZr.moves hsz.1 (fun E h2 hx => ?_) (fun v9 h9 hr9 => ?_)
  · obtain ⟨hE, z9⟩ := hx
    subst z9
    obtain ⟨hE2, hX⟩ := ex_pass hE
    subst hE2
    refine ⟨12, ⟨[], ⟨0, 9, 12, 13⟩, [], kIA, htb.trans rfl, (fun z hz => absurd hz List.not_mem_nil), by decide, by decide, by decide +kernel, k1, rfl⟩, fun q => ?_⟩
    refine V_astore3 C dL_pass_12 (by decide) ?_
    refine V_iconst (v := 1) C dL_pass_13 (by decide) ?_
    exact V_iret C dL_pass_14 hr ⟨by rw [hE]; exact congrArg (fun c => some (Value.int c)) (by decide +kernel : (1 : Int32) = cod kIA kIA (some kIA)), ⟨Z, ta, by rw [hX]; exact r, by rw [hX]; exact t, rfl⟩, ⟨f, ho, fun z => by rw [hE] at z; cases z⟩, fun q e z _ _ => z⟩ (by exact Nat.le_of_ble_eq_true rfl) (by exact Nat.le_of_ble_eq_true rfl)
  · obtain ⟨hE, rfl, Z2, ta2, r2, t2, z2, f2⟩ := hr9
    have ho9 := f2 _ _ ho trivial
    refine V_i2l C dL_pass_7 rfl ?_
    refine V_last C dL_pass_8 (by first | assumption | exact hset_s _ _ _) (vp_in_iff.mpr ⟨by decide, by decide⟩) ?_
    refine V_goto (tgt := 15) C dL_pass_9 (by decide) ?_
    refine V_iconst (v := 0) C dL_pass_15 (by decide) ?_
    exact V_iret C dL_pass_16 hr ⟨by rw [hE]; rfl, ⟨Z2, ta2, r2.lar ho9 _, t2, z2⟩, ⟨_, hset_s _ _ _, fun _ => if_pos (by decide)⟩, fun q e hq hg hn => by rw [hset_n hn]; exact f2 q e hq hg⟩ (by exact Nat.le_of_ble_eq_true rfl) (by exact Nat.le_of_ble_eq_true rfl)
set_option maxHeartbeats 4000000 in
set_option maxRecDepth 100000 in
theorem w_ofCell (hlt : l.stackTraces = false) (r : XR cA Z X ta h) (t : tyv Z X ta) (hI : CI M X) (ho : h o = some (lar (cA 3) f)) {a b c d : Int32} : Mc l D cA bs SZl yL_ofCell wsL_ofCell (rmk 10 4 30) [.ref (Z 0 0), .int a, .int b, .int c, .int d, .ref o] h (Wst cA Z o kIO kIA h (sp_ofCell X a b c d)) := by
  have hrow := r.row
  refine Mc_of (cc := cL_ofCell) (maxL := 7) (ret := (some .int)) (own := RL) [some (.ref (Z 0 0)), some (.int a), some (.int b), some (.int c), some (.int d), some (.ref o), none] rfl (by decide +kernel) rfl rfl (by exact Nat.le_of_ble_eq_true rfl) rfl ?_
  intro p9 e9 s9 m9 args9 below9 meth9 c9 C hr htb hz hsz
  obtain ⟨n1, n2, n3⟩ := hsz.2
  obtain ⟨k1, k2, k3⟩ := hsz.1.cast (args := args9)
  refine V_aload C dL_ofCell_0 rfl ?_
  refine V_iconst (v := 0) C dL_ofCell_2 (by decide) ?_
  refine V_aload_n (i := 0) C dL_ofCell_3 rfl rfl ?_
  refine V_iload_n (i := 1) C dL_ofCell_4 rfl rfl ?_
  refine V_iload_n (i := 2) C dL_ofCell_5 rfl rfl ?_
  refine V_iload_n (i := 3) C dL_ofCell_6 rfl rfl ?_
  refine V_iload C dL_ofCell_7 rfl ?_
  refine V_tcallV (n := 4) C (m_ofCell hlt r t hI) dL_ofCell_9 gL_ofCell_X4_ofCell rfl hrow rfl (by decide +kernel) rfl rfl (by exact Nat.le_of_ble_eq_true rfl) ⟨Nat.le_of_ble_eq_true rfl, Nat.le_of_ble_eq_true rfl⟩ ⟨Nat.le_of_ble_eq_true rfl, Nat.le_of_ble_eq_true rfl⟩ hz SZr.moves hsz.1 (fun E h2 hx => ?_) (fun v9 h9 hr9 => ?_)
  · obtain ⟨hE, z9⟩ := hx
    subst z9
    obtain ⟨hE2, hX⟩ := ex_ofCell hE
    rcases hE2 with rfl | rfl
    · refine ⟨17, ⟨[], ⟨0, 14, 17, 21⟩, [⟨0, 14, 21, 13⟩], kIO, htb.trans rfl, (fun z hz => absurd hz List.not_mem_nil), by decide, by decide, by decide +kernel, k3, rfl⟩, fun q => ?_⟩
      refine V_astore6 C dL_ofCell_17 (by decide) ?_
      refine V_iconst (v := 1) C dL_ofCell_19 (by decide) ?_
      exact V_iret C dL_ofCell_20 hr ⟨by rw [hE]; exact congrArg (fun c => some (Value.int c)) (by decide +kernel : (1 : Int32) = cod kIO kIA (some kIO)), ⟨Z, ta, by rw [hX]; exact r, by rw [hX]; exact t, rfl⟩, ⟨f, ho, fun z => by rw [hE] at z; cases z⟩, fun q e z _ _ => z⟩ (by exact Nat.le_of_ble_eq_true rfl) (by exact Nat.le_of_ble_eq_true rfl)
    · refine ⟨21, ⟨[⟨0, 14, 17, 21⟩], ⟨0, 14, 21, 13⟩, [], kIA, htb.trans rfl, (fun z hz => by rw [List.mem_singleton] at hz; subst hz; exact ⟨by decide, kIO, by decide +kernel, n3⟩), by decide, by decide, by decide +kernel, k1, rfl⟩, fun q => ?_⟩
      refine V_astore6 C dL_ofCell_21 (by decide) ?_
      refine V_iconst (v := 2) C dL_ofCell_23 (by decide) ?_
      exact V_iret C dL_ofCell_24 hr ⟨by rw [hE]; exact congrArg (fun c => some (Value.int c)) (by decide +kernel : (2 : Int32) = cod kIO kIA (some kIA)), ⟨Z, ta, by rw [hX]; exact r, by rw [hX]; exact t, rfl⟩, ⟨f, ho, fun z => by rw [hE] at z; cases z⟩, fun q e z _ _ => z⟩ (by exact Nat.le_of_ble_eq_true rfl) (by exact Nat.le_of_ble_eq_true rfl)
  · obtain ⟨hE, rfl, Z2, ta2, r2, t2, z2, f2⟩ := hr9
    have ho9 := f2 _ _ ho trivial
    refine V_i2l C dL_ofCell_12 rfl ?_
    refine V_last C dL_ofCell_13 (by first | assumption | exact hset_s _ _ _) (vp_in_iff.mpr ⟨by decide, by decide⟩) ?_
    refine V_goto (tgt := 25) C dL_ofCell_14 (by decide) ?_
    refine V_iconst (v := 0) C dL_ofCell_25 (by decide) ?_
    exact V_iret C dL_ofCell_26 hr ⟨by rw [hE]; rfl, ⟨Z2, ta2, r2.lar ho9 _, t2, z2⟩, ⟨_, hset_s _ _ _, fun _ => if_pos (by decide)⟩, fun q e hq hg hn => by rw [hset_n hn]; exact f2 q e hq hg⟩ (by exact Nat.le_of_ble_eq_true rfl) (by exact Nat.le_of_ble_eq_true rfl)
set_option maxHeartbeats 4000000 in
set_option maxRecDepth 100000 in
theorem w_aimAnew (hlt : l.stackTraces = false) (r : XR cA Z X ta h) (t : tyv Z X ta) (hI : CI M X) (ho : h o = some (lar (cA 3) f)) {a b c : Int32} : Mc l D cA bs SZl yL_aimAnew wsL_aimAnew (rmk 10 4 30) [.ref (Z 0 0), .int a, .int b, .int c, .ref o] h (Wst cA Z o kIO kIA h (sp_aim X a b c)) := by
  have hrow := r.row
  refine Mc_of (cc := cL_aimAnew) (maxL := 6) (ret := (some .int)) (own := RL) [some (.ref (Z 0 0)), some (.int a), some (.int b), some (.int c), some (.ref o), none] rfl (by decide +kernel) rfl rfl (by exact Nat.le_of_ble_eq_true rfl) rfl ?_
  intro p9 e9 s9 m9 args9 below9 meth9 c9 C hr htb hz hsz
  obtain ⟨n1, n2, n3⟩ := hsz.2
  obtain ⟨k1, k2, k3⟩ := hsz.1.cast (args := args9)
  refine V_aload C dL_aimAnew_0 rfl ?_
  refine V_iconst (v := 0) C dL_aimAnew_2 (by decide) ?_
  refine V_aload_n (i := 0) C dL_aimAnew_3 rfl rfl ?_
  refine V_iload_n (i := 1) C dL_aimAnew_4 rfl rfl ?_
  refine V_iload_n (i := 2) C dL_aimAnew_5 rfl rfl ?_
  refine V_iload_n (i := 3) C dL_aimAnew_6 rfl rfl ?_
  refine V_tcallV (n := 3) C (m_aim hlt r t hI) dL_aimAnew_7 gL_aimAnew_X4_aimAnew rfl hrow rfl (by decide +kernel) rfl rfl (by exact Nat.le_of_ble_eq_true rfl) ⟨Nat.le_of_ble_eq_true rfl, Nat.le_of_ble_eq_true rfl⟩ ⟨Nat.le_of_ble_eq_true rfl, Nat.le_of_ble_eq_true rfl⟩ hz SZr.moves hsz.1 (fun E h2 hx => ?_) (fun v9 h9 hr9 => ?_)
  · obtain ⟨hE, z9⟩ := hx
    subst z9
    obtain ⟨hE2, hX⟩ := ex_aimAnew hE
    subst hE2
    refine ⟨15, ⟨[], ⟨0, 12, 15, 21⟩, [], kIO, htb.trans rfl, (fun z hz => absurd hz List.not_mem_nil), by decide, by decide, by decide +kernel, k3, rfl⟩, fun q => ?_⟩
    refine V_astore5 C dL_aimAnew_15 (by decide) ?_
    refine V_iconst (v := 1) C dL_aimAnew_17 (by decide) ?_
    exact V_iret C dL_aimAnew_18 hr ⟨by rw [hE]; exact congrArg (fun c => some (Value.int c)) (by decide +kernel : (1 : Int32) = cod kIO kIA (some kIO)), ⟨Z, ta, by rw [hX]; exact r, by rw [hX]; exact t, rfl⟩, ⟨f, ho, fun z => by rw [hE] at z; cases z⟩, fun q e z _ _ => z⟩ (by exact Nat.le_of_ble_eq_true rfl) (by exact Nat.le_of_ble_eq_true rfl)
  · obtain ⟨hE, rfl, Z2, ta2, r2, t2, z2, f2⟩ := hr9
    have ho9 := f2 _ _ ho trivial
    refine V_i2l C dL_aimAnew_10 rfl ?_
    refine V_last C dL_aimAnew_11 (by first | assumption | exact hset_s _ _ _) (vp_in_iff.mpr ⟨by decide, by decide⟩) ?_
    refine V_goto (tgt := 19) C dL_aimAnew_12 (by decide) ?_
    refine V_iconst (v := 0) C dL_aimAnew_19 (by decide) ?_
    exact V_iret C dL_aimAnew_20 hr ⟨by rw [hE]; rfl, ⟨Z2, ta2, r2.lar ho9 _, t2, z2⟩, ⟨_, hset_s _ _ _, fun _ => if_pos (by decide)⟩, fun q e hq hg hn => by rw [hset_n hn]; exact f2 q e hq hg⟩ (by exact Nat.le_of_ble_eq_true rfl) (by exact Nat.le_of_ble_eq_true rfl)
set_option maxHeartbeats 4000000 in
set_option maxRecDepth 100000 in
theorem w_edge (hlt : l.stackTraces = false) (r : XR cA Z X ta h) (t : tyv Z X ta) (hI : CI M X) (ho : h o = some (lar (cA 3) f)) {x : Int32} : Mc l D cA bs SZl yL_edge wsL_edge (rmk 10 4 30) [.ref (Z 0 0), .int x, .ref o] h (Wst cA Z o kIO kIA h (sp_edge X x)) := by
  have hrow := r.row
  refine Mc_of (cc := cL_edge) (maxL := 4) (ret := (some .int)) (own := RL) [some (.ref (Z 0 0)), some (.int x), some (.ref o), none] rfl (by decide +kernel) rfl rfl (by exact Nat.le_of_ble_eq_true rfl) rfl ?_
  intro p9 e9 s9 m9 args9 below9 meth9 c9 C hr htb hz hsz
  obtain ⟨n1, n2, n3⟩ := hsz.2
  obtain ⟨k1, k2, k3⟩ := hsz.1.cast (args := args9)
  refine V_aload_n (i := 2) C dL_edge_0 rfl rfl ?_
  refine V_iconst (v := 0) C dL_edge_1 (by decide) ?_
  refine V_aload_n (i := 0) C dL_edge_2 rfl rfl ?_
  refine V_iload_n (i := 1) C dL_edge_3 rfl rfl ?_
  refine V_tcallV (n := 1) C (m_edge hlt r t hI) dL_edge_4 gL_edge_X4_edge rfl hrow rfl (by decide +kernel) rfl rfl (by exact Nat.le_of_ble_eq_true rfl) ⟨Nat.le_of_ble_eq_true rfl, Nat.le_of_ble_eq_true rfl⟩ ⟨Nat.le_of_ble_eq_true rfl, Nat.le_of_ble_eq_true rfl⟩ hz SZr.moves hsz.1 (fun E h2 hx => ?_) (fun v9 h9 hr9 => ?_)
  · obtain ⟨hE, z9⟩ := hx
    subst z9
    obtain ⟨hE2, hX⟩ := ex_edge hE
    subst hE2
    refine ⟨12, ⟨[], ⟨0, 9, 12, 21⟩, [], kIO, htb.trans rfl, (fun z hz => absurd hz List.not_mem_nil), by decide, by decide, by decide +kernel, k3, rfl⟩, fun q => ?_⟩
    refine V_astore3 C dL_edge_12 (by decide) ?_
    refine V_iconst (v := 1) C dL_edge_13 (by decide) ?_
    exact V_iret C dL_edge_14 hr ⟨by rw [hE]; exact congrArg (fun c => some (Value.int c)) (by decide +kernel : (1 : Int32) = cod kIO kIA (some kIO)), ⟨Z, ta, by rw [hX]; exact r, by rw [hX]; exact t, rfl⟩, ⟨f, ho, fun z => by rw [hE] at z; cases z⟩, fun q e z _ _ => z⟩ (by exact Nat.le_of_ble_eq_true rfl) (by exact Nat.le_of_ble_eq_true rfl)
  · obtain ⟨hE, rfl, Z2, ta2, r2, t2, z2, f2⟩ := hr9
    have ho9 := f2 _ _ ho trivial
    refine V_i2l C dL_edge_7 rfl ?_
    refine V_last C dL_edge_8 (by first | assumption | exact hset_s _ _ _) (vp_in_iff.mpr ⟨by decide, by decide⟩) ?_
    refine V_goto (tgt := 15) C dL_edge_9 (by decide) ?_
    refine V_iconst (v := 0) C dL_edge_15 (by decide) ?_
    exact V_iret C dL_edge_16 hr ⟨by rw [hE]; rfl, ⟨Z2, ta2, r2.lar ho9 _, t2, z2⟩, ⟨_, hset_s _ _ _, fun _ => if_pos (by decide)⟩, fun q e hq hg hn => by rw [hset_n hn]; exact f2 q e hq hg⟩ (by exact Nat.le_of_ble_eq_true rfl) (by exact Nat.le_of_ble_eq_true rfl)
set_option maxHeartbeats 4000000 in
set_option maxRecDepth 100000 in
theorem w_ofLot (hlt : l.stackTraces = false) (r : XR cA Z X ta h) (t : tyv Z X ta) (hI : CI M X) (ho : h o = some (lar (cA 3) f)) {a d : Int32} : Mc l D cA bs SZl yL_ofLot wsL_ofLot (rmk 10 4 30) [.ref (Z 0 0), .int a, .int d, .ref o] h (Wst cA Z o kIO kIA h (sp_ofLot X a d)) := by
  have hrow := r.row
  refine Mc_of (cc := cL_ofLot) (maxL := 5) (ret := (some .int)) (own := RL) [some (.ref (Z 0 0)), some (.int a), some (.int d), some (.ref o), none] rfl (by decide +kernel) rfl rfl (by exact Nat.le_of_ble_eq_true rfl) rfl ?_
  intro p9 e9 s9 m9 args9 below9 meth9 c9 C hr htb hz hsz
  obtain ⟨n1, n2, n3⟩ := hsz.2
  obtain ⟨k1, k2, k3⟩ := hsz.1.cast (args := args9)
  refine V_aload_n (i := 3) C dL_ofLot_0 rfl rfl ?_
  refine V_iconst (v := 0) C dL_ofLot_1 (by decide) ?_
  refine V_aload_n (i := 0) C dL_ofLot_2 rfl rfl ?_
  refine V_iload_n (i := 1) C dL_ofLot_3 rfl rfl ?_
  refine V_iload_n (i := 2) C dL_ofLot_4 rfl rfl ?_
  refine V_tcallV (n := 2) C (m_ofLot hlt r t hI) dL_ofLot_5 gL_ofLot_X4_ofLot rfl hrow rfl (by decide +kernel) rfl rfl (by exact Nat.le_of_ble_eq_true rfl) ⟨Nat.le_of_ble_eq_true rfl, Nat.le_of_ble_eq_true rfl⟩ ⟨Nat.le_of_ble_eq_true rfl, Nat.le_of_ble_eq_true rfl⟩ hz SZr.moves hsz.1 (fun E h2 hx => ?_) (fun v9 h9 hr9 => ?_)
  · obtain ⟨hE, z9⟩ := hx
    subst z9
    obtain ⟨hE2, hX⟩ := ex_ofLot hE
    rcases hE2 with rfl | rfl
    · refine ⟨13, ⟨[], ⟨0, 10, 13, 21⟩, [⟨0, 10, 17, 13⟩], kIO, htb.trans rfl, (fun z hz => absurd hz List.not_mem_nil), by decide, by decide, by decide +kernel, k3, rfl⟩, fun q => ?_⟩
      refine V_astore4 C dL_ofLot_13 (by decide) ?_
      refine V_iconst (v := 1) C dL_ofLot_15 (by decide) ?_
      exact V_iret C dL_ofLot_16 hr ⟨by rw [hE]; exact congrArg (fun c => some (Value.int c)) (by decide +kernel : (1 : Int32) = cod kIO kIA (some kIO)), ⟨Z, ta, by rw [hX]; exact r, by rw [hX]; exact t, rfl⟩, ⟨f, ho, fun z => by rw [hE] at z; cases z⟩, fun q e z _ _ => z⟩ (by exact Nat.le_of_ble_eq_true rfl) (by exact Nat.le_of_ble_eq_true rfl)
    · refine ⟨17, ⟨[⟨0, 10, 13, 21⟩], ⟨0, 10, 17, 13⟩, [], kIA, htb.trans rfl, (fun z hz => by rw [List.mem_singleton] at hz; subst hz; exact ⟨by decide, kIO, by decide +kernel, n3⟩), by decide, by decide, by decide +kernel, k1, rfl⟩, fun q => ?_⟩
      refine V_astore4 C dL_ofLot_17 (by decide) ?_
      refine V_iconst (v := 2) C dL_ofLot_19 (by decide) ?_
      exact V_iret C dL_ofLot_20 hr ⟨by rw [hE]; exact congrArg (fun c => some (Value.int c)) (by decide +kernel : (2 : Int32) = cod kIO kIA (some kIA)), ⟨Z, ta, by rw [hX]; exact r, by rw [hX]; exact t, rfl⟩, ⟨f, ho, fun z => by rw [hE] at z; cases z⟩, fun q e z _ _ => z⟩ (by exact Nat.le_of_ble_eq_true rfl) (by exact Nat.le_of_ble_eq_true rfl)
  · obtain ⟨hE, rfl, Z2, ta2, r2, t2, z2, f2⟩ := hr9
    have ho9 := f2 _ _ ho trivial
    refine V_i2l C dL_ofLot_8 rfl ?_
    refine V_last C dL_ofLot_9 (by first | assumption | exact hset_s _ _ _) (vp_in_iff.mpr ⟨by decide, by decide⟩) ?_
    refine V_goto (tgt := 21) C dL_ofLot_10 (by decide) ?_
    refine V_iconst (v := 0) C dL_ofLot_21 (by decide) ?_
    exact V_iret C dL_ofLot_22 hr ⟨by rw [hE]; rfl, ⟨Z2, ta2, r2.lar ho9 _, t2, z2⟩, ⟨_, hset_s _ _ _, fun _ => if_pos (by decide)⟩, fun q e hq hg hn => by rw [hset_n hn]; exact f2 q e hq hg⟩ (by exact Nat.le_of_ble_eq_true rfl) (by exact Nat.le_of_ble_eq_true rfl)
set_option maxHeartbeats 4000000 in
set_option maxRecDepth 100000 in
theorem w_ofPicture (hlt : l.stackTraces = false) (r : XR cA Z X ta h) (t : tyv Z X ta) (hI : CI M X) (ho : h o = some (lar (cA 3) f)) {x d : Int32} : Mc l D cA bs SZl yL_ofPicture wsL_ofPicture (rmk 10 4 30) [.ref (Z 0 0), .int x, .int d, .ref o] h (Wst cA Z o kIO kIA h (sp_ofPic X x d)) := by
  have hrow := r.row
  refine Mc_of (cc := cL_ofPicture) (maxL := 5) (ret := (some .int)) (own := RL) [some (.ref (Z 0 0)), some (.int x), some (.int d), some (.ref o), none] rfl (by decide +kernel) rfl rfl (by exact Nat.le_of_ble_eq_true rfl) rfl ?_
  intro p9 e9 s9 m9 args9 below9 meth9 c9 C hr htb hz hsz
  obtain ⟨n1, n2, n3⟩ := hsz.2
  obtain ⟨k1, k2, k3⟩ := hsz.1.cast (args := args9)
  refine V_aload_n (i := 3) C dL_ofPicture_0 rfl rfl ?_
  refine V_iconst (v := 0) C dL_ofPicture_1 (by decide) ?_
  refine V_aload_n (i := 0) C dL_ofPicture_2 rfl rfl ?_
  refine V_iload_n (i := 1) C dL_ofPicture_3 rfl rfl ?_
  refine V_iload_n (i := 2) C dL_ofPicture_4 rfl rfl ?_
  refine V_tcallV (n := 2) C (m_ofPic hlt r t hI) dL_ofPicture_5 gL_ofPicture_X4_ofPicture rfl hrow rfl (by decide +kernel) rfl rfl (by exact Nat.le_of_ble_eq_true rfl) ⟨Nat.le_of_ble_eq_true rfl, Nat.le_of_ble_eq_true rfl⟩ ⟨Nat.le_of_ble_eq_true rfl, Nat.le_of_ble_eq_true rfl⟩ hz SZr.moves hsz.1 (fun E h2 hx => ?_) (fun v9 h9 hr9 => ?_)
  · obtain ⟨hE, z9⟩ := hx
    subst z9
    obtain ⟨hE2, hX⟩ := ex_ofPicture hE
    rcases hE2 with rfl | rfl
    · refine ⟨13, ⟨[], ⟨0, 10, 13, 21⟩, [⟨0, 10, 17, 13⟩], kIO, htb.trans rfl, (fun z hz => absurd hz List.not_mem_nil), by decide, by decide, by decide +kernel, k3, rfl⟩, fun q => ?_⟩
      refine V_astore4 C dL_ofPicture_13 (by decide) ?_
      refine V_iconst (v := 1) C dL_ofPicture_15 (by decide) ?_
      exact V_iret C dL_ofPicture_16 hr ⟨by rw [hE]; exact congrArg (fun c => some (Value.int c)) (by decide +kernel : (1 : Int32) = cod kIO kIA (some kIO)), ⟨Z, ta, by rw [hX]; exact r, by rw [hX]; exact t, rfl⟩, ⟨f, ho, fun z => by rw [hE] at z; cases z⟩, fun q e z _ _ => z⟩ (by exact Nat.le_of_ble_eq_true rfl) (by exact Nat.le_of_ble_eq_true rfl)
    · refine ⟨17, ⟨[⟨0, 10, 13, 21⟩], ⟨0, 10, 17, 13⟩, [], kIA, htb.trans rfl, (fun z hz => by rw [List.mem_singleton] at hz; subst hz; exact ⟨by decide, kIO, by decide +kernel, n3⟩), by decide, by decide, by decide +kernel, k1, rfl⟩, fun q => ?_⟩
      refine V_astore4 C dL_ofPicture_17 (by decide) ?_
      refine V_iconst (v := 2) C dL_ofPicture_19 (by decide) ?_
      exact V_iret C dL_ofPicture_20 hr ⟨by rw [hE]; exact congrArg (fun c => some (Value.int c)) (by decide +kernel : (2 : Int32) = cod kIO kIA (some kIA)), ⟨Z, ta, by rw [hX]; exact r, by rw [hX]; exact t, rfl⟩, ⟨f, ho, fun z => by rw [hE] at z; cases z⟩, fun q e z _ _ => z⟩ (by exact Nat.le_of_ble_eq_true rfl) (by exact Nat.le_of_ble_eq_true rfl)
  · obtain ⟨hE, rfl, Z2, ta2, r2, t2, z2, f2⟩ := hr9
    have ho9 := f2 _ _ ho trivial
    refine V_i2l C dL_ofPicture_8 rfl ?_
    refine V_last C dL_ofPicture_9 (by first | assumption | exact hset_s _ _ _) (vp_in_iff.mpr ⟨by decide, by decide⟩) ?_
    refine V_goto (tgt := 21) C dL_ofPicture_10 (by decide) ?_
    refine V_iconst (v := 0) C dL_ofPicture_21 (by decide) ?_
    exact V_iret C dL_ofPicture_22 hr ⟨by rw [hE]; rfl, ⟨Z2, ta2, r2.lar ho9 _, t2, z2⟩, ⟨_, hset_s _ _ _, fun _ => if_pos (by decide)⟩, fun q e hq hg hn => by rw [hset_n hn]; exact f2 q e hq hg⟩ (by exact Nat.le_of_ble_eq_true rfl) (by exact Nat.le_of_ble_eq_true rfl)
set_option maxHeartbeats 4000000 in
set_option maxRecDepth 100000 in
theorem w_ofCrew (hlt : l.stackTraces = false) (r : XR cA Z X ta h) (t : tyv Z X ta) (hI : CI M X) (ho : h o = some (lar (cA 3) f)) {a d : Int32} : Mc l D cA bs SZl yL_ofCrew wsL_ofCrew (rmk 10 4 30) [.ref (Z 0 0), .int a, .int d, .ref o] h (Wst cA Z o kIO kIA h (sp_ofCrew X a d)) := by
  have hrow := r.row
  refine Mc_of (cc := cL_ofCrew) (maxL := 5) (ret := (some .int)) (own := RL) [some (.ref (Z 0 0)), some (.int a), some (.int d), some (.ref o), none] rfl (by decide +kernel) rfl rfl (by exact Nat.le_of_ble_eq_true rfl) rfl ?_
  intro p9 e9 s9 m9 args9 below9 meth9 c9 C hr htb hz hsz
  obtain ⟨n1, n2, n3⟩ := hsz.2
  obtain ⟨k1, k2, k3⟩ := hsz.1.cast (args := args9)
  refine V_aload_n (i := 3) C dL_ofCrew_0 rfl rfl ?_
  refine V_iconst (v := 0) C dL_ofCrew_1 (by decide) ?_
  refine V_aload_n (i := 0) C dL_ofCrew_2 rfl rfl ?_
  refine V_iload_n (i := 1) C dL_ofCrew_3 rfl rfl ?_
  refine V_iload_n (i := 2) C dL_ofCrew_4 rfl rfl ?_
  refine V_tcallV (n := 2) C (m_ofCrew hlt r t hI) dL_ofCrew_5 gL_ofCrew_X4_ofCrew rfl hrow rfl (by decide +kernel) rfl rfl (by exact Nat.le_of_ble_eq_true rfl) ⟨Nat.le_of_ble_eq_true rfl, Nat.le_of_ble_eq_true rfl⟩ ⟨Nat.le_of_ble_eq_true rfl, Nat.le_of_ble_eq_true rfl⟩ hz SZr.moves hsz.1 (fun E h2 hx => ?_) (fun v9 h9 hr9 => ?_)
  · obtain ⟨hE, z9⟩ := hx
    subst z9
    obtain ⟨hE2, hX⟩ := ex_ofCrew hE
    rcases hE2 with rfl | rfl
    · refine ⟨13, ⟨[], ⟨0, 10, 13, 21⟩, [⟨0, 10, 17, 13⟩], kIO, htb.trans rfl, (fun z hz => absurd hz List.not_mem_nil), by decide, by decide, by decide +kernel, k3, rfl⟩, fun q => ?_⟩
      refine V_astore4 C dL_ofCrew_13 (by decide) ?_
      refine V_iconst (v := 1) C dL_ofCrew_15 (by decide) ?_
      exact V_iret C dL_ofCrew_16 hr ⟨by rw [hE]; exact congrArg (fun c => some (Value.int c)) (by decide +kernel : (1 : Int32) = cod kIO kIA (some kIO)), ⟨Z, ta, by rw [hX]; exact r, by rw [hX]; exact t, rfl⟩, ⟨f, ho, fun z => by rw [hE] at z; cases z⟩, fun q e z _ _ => z⟩ (by exact Nat.le_of_ble_eq_true rfl) (by exact Nat.le_of_ble_eq_true rfl)
    · refine ⟨17, ⟨[⟨0, 10, 13, 21⟩], ⟨0, 10, 17, 13⟩, [], kIA, htb.trans rfl, (fun z hz => by rw [List.mem_singleton] at hz; subst hz; exact ⟨by decide, kIO, by decide +kernel, n3⟩), by decide, by decide, by decide +kernel, k1, rfl⟩, fun q => ?_⟩
      refine V_astore4 C dL_ofCrew_17 (by decide) ?_
      refine V_iconst (v := 2) C dL_ofCrew_19 (by decide) ?_
      exact V_iret C dL_ofCrew_20 hr ⟨by rw [hE]; exact congrArg (fun c => some (Value.int c)) (by decide +kernel : (2 : Int32) = cod kIO kIA (some kIA)), ⟨Z, ta, by rw [hX]; exact r, by rw [hX]; exact t, rfl⟩, ⟨f, ho, fun z => by rw [hE] at z; cases z⟩, fun q e z _ _ => z⟩ (by exact Nat.le_of_ble_eq_true rfl) (by exact Nat.le_of_ble_eq_true rfl)
  · obtain ⟨hE, rfl, Z2, ta2, r2, t2, z2, f2⟩ := hr9
    have ho9 := f2 _ _ ho trivial
    refine V_i2l C dL_ofCrew_8 rfl ?_
    refine V_last C dL_ofCrew_9 (by first | assumption | exact hset_s _ _ _) (vp_in_iff.mpr ⟨by decide, by decide⟩) ?_
    refine V_goto (tgt := 21) C dL_ofCrew_10 (by decide) ?_
    refine V_iconst (v := 0) C dL_ofCrew_21 (by decide) ?_
    exact V_iret C dL_ofCrew_22 hr ⟨by rw [hE]; rfl, ⟨Z2, ta2, r2.lar ho9 _, t2, z2⟩, ⟨_, hset_s _ _ _, fun _ => if_pos (by decide)⟩, fun q e hq hg hn => by rw [hset_n hn]; exact f2 q e hq hg⟩ (by exact Nat.le_of_ble_eq_true rfl) (by exact Nat.le_of_ble_eq_true rfl)
end WRAP
