/-! the law's helpers -/
section WRAP
variable {l : Launch} {D : va_G} {cA : Nat → ClassId} {bs : Nat} {Z : Nat → Nat → Nat} {X A B : XS} {ta : Nat → Nat → Option Nat} {h : hE} {M q r : Nat}
theorem ex_comes {x : Int32} {E : String} (h : (sp_comes X x).1 = some E) : (E = kIO ∨ E = kIS) ∧ (sp_comes X x).2.2 = X := by
  unfold sp_comes at h ⊢
  split at h <;> rename_i q1
  all_goals try rw [if_pos q1]
  all_goals try rw [if_neg q1]
  all_goals try (split at h <;> rename_i q2)
  all_goals try rw [if_pos q2]
  all_goals try rw [if_neg q2]
  all_goals try (split at h <;> rename_i q3)
  all_goals try rw [if_pos q3]
  all_goals try rw [if_neg q3]
  all_goals cases h
  all_goals first | exact ⟨Or.inl rfl, rfl⟩ | exact ⟨Or.inr rfl, rfl⟩
theorem ex_fill {x : Int32} {E : String} (h : (sp_fill X x).1 = some E) : (E = kIO) ∧ (sp_fill X x).2.2 = X := by
  unfold sp_fill at h ⊢
  split at h <;> rename_i q1
  all_goals try rw [if_pos q1]
  all_goals try rw [if_neg q1]
  all_goals try (split at h <;> rename_i q2)
  all_goals try rw [if_pos q2]
  all_goals try rw [if_neg q2]
  all_goals try (split at h <;> rename_i q3)
  all_goals try rw [if_pos q3]
  all_goals try rw [if_neg q3]
  all_goals cases h
  all_goals exact ⟨rfl, rfl⟩
theorem ex_design {x : Int32} {E : String} (h : (sp_design X x).1 = some E) : (E = kIO) ∧ (sp_design X x).2.2 = X := by
  unfold sp_design at h ⊢
  split at h <;> rename_i q1
  all_goals try rw [if_pos q1]
  all_goals try rw [if_neg q1]
  all_goals try (split at h <;> rename_i q2)
  all_goals try rw [if_pos q2]
  all_goals try rw [if_neg q2]
  all_goals try (split at h <;> rename_i q3)
  all_goals try rw [if_pos q3]
  all_goals try rw [if_neg q3]
  all_goals cases h
  all_goals exact ⟨rfl, rfl⟩
theorem ex_edge {x : Int32} {E : String} (h : (sp_edge X x).1 = some E) : (E = kIO) ∧ (sp_edge X x).2.2 = X := by
  unfold sp_edge at h ⊢
  split at h <;> rename_i q1
  all_goals try rw [if_pos q1]
  all_goals try rw [if_neg q1]
  all_goals try (split at h <;> rename_i q2)
  all_goals try rw [if_pos q2]
  all_goals try rw [if_neg q2]
  all_goals try (split at h <;> rename_i q3)
  all_goals try rw [if_pos q3]
  all_goals try rw [if_neg q3]
  all_goals cases h
  all_goals exact ⟨rfl, rfl⟩
theorem ex_ofLot {x y : Int32} {E : String} (h : (sp_ofLot X x y).1 = some E) : (E = kIO ∨ E = kIA) ∧ (sp_ofLot X x y).2.2 = X := by
  unfold sp_ofLot at h ⊢
  split at h <;> rename_i q1
  all_goals try rw [if_pos q1]
  all_goals try rw [if_neg q1]
  all_goals try (split at h <;> rename_i q2)
  all_goals try rw [if_pos q2]
  all_goals try rw [if_neg q2]
  all_goals try (split at h <;> rename_i q3)
  all_goals try rw [if_pos q3]
  all_goals try rw [if_neg q3]
  all_goals cases h
  all_goals first | exact ⟨Or.inl rfl, rfl⟩ | exact ⟨Or.inr rfl, rfl⟩
theorem ex_lot {a b c d : Int32} {E : String} (h : (sp_lot X a b c d).1 = some E) : (E = kIA ∨ E = kIS) ∧ (sp_lot X a b c d).2.2 = X := by
  unfold sp_lot at h ⊢
  split at h <;> rename_i q1
  all_goals try rw [if_pos q1]
  all_goals try rw [if_neg q1]
  all_goals try (split at h <;> rename_i q2)
  all_goals try rw [if_pos q2]
  all_goals try rw [if_neg q2]
  all_goals try (split at h <;> rename_i q3)
  all_goals try rw [if_pos q3]
  all_goals try rw [if_neg q3]
  all_goals cases h
  all_goals first | exact ⟨Or.inl rfl, rfl⟩ | exact ⟨Or.inr rfl, rfl⟩
theorem ex_picture {a b c : Int32} {E : String} (h : (sp_picture X a b c).1 = some E) : (E = kIA ∨ E = kIS) ∧ (sp_picture X a b c).2.2 = X := by
  unfold sp_picture at h ⊢
  split at h <;> rename_i q1
  all_goals try rw [if_pos q1]
  all_goals try rw [if_neg q1]
  all_goals try (split at h <;> rename_i q2)
  all_goals try rw [if_pos q2]
  all_goals try rw [if_neg q2]
  all_goals try (split at h <;> rename_i q3)
  all_goals try rw [if_pos q3]
  all_goals try rw [if_neg q3]
  all_goals cases h
  all_goals first | exact ⟨Or.inl rfl, rfl⟩ | exact ⟨Or.inr rfl, rfl⟩
theorem ex_share {a b c : Int32} {E : String} (h : (sp_share X a b c).1 = some E) : (E = kIO ∨ E = kIA) ∧ (sp_share X a b c).2.2 = X := by
  unfold sp_share at h ⊢
  split at h <;> rename_i q1
  all_goals try rw [if_pos q1]
  all_goals try rw [if_neg q1]
  all_goals try (split at h <;> rename_i q2)
  all_goals try rw [if_pos q2]
  all_goals try rw [if_neg q2]
  all_goals try (split at h <;> rename_i q3)
  all_goals try rw [if_pos q3]
  all_goals try rw [if_neg q3]
  all_goals cases h
  all_goals first | exact ⟨Or.inl rfl, rfl⟩ | exact ⟨Or.inr rfl, rfl⟩
theorem ex_cell {a b c d : Int32} {E : String} (h : (sp_cell X a b c d).1 = some E) : (E = kIO ∨ E = kIA ∨ E = kIS) ∧ (sp_cell X a b c d).2.2 = X := by
  unfold sp_cell at h ⊢
  split at h <;> rename_i q1
  all_goals try rw [if_pos q1]
  all_goals try rw [if_neg q1]
  all_goals try (split at h <;> rename_i q2)
  all_goals try rw [if_pos q2]
  all_goals try rw [if_neg q2]
  all_goals try (split at h <;> rename_i q3)
  all_goals try rw [if_pos q3]
  all_goals try rw [if_neg q3]
  all_goals cases h
  all_goals first | exact ⟨Or.inl rfl, rfl⟩ | exact ⟨Or.inr (Or.inl rfl), rfl⟩ | exact ⟨Or.inr (Or.inr rfl), rfl⟩
theorem ex_old {a b c d : Int32} {E : String} (h : (sp_old X a b c d).1 = some E) : (E = kIO ∨ E = kIA ∨ E = kIS) ∧ (sp_old X a b c d).2.2 = X := by
  unfold sp_old at h ⊢
  split at h <;> rename_i q1
  all_goals try rw [if_pos q1]
  all_goals try rw [if_neg q1]
  all_goals try (split at h <;> rename_i q2)
  all_goals try rw [if_pos q2]
  all_goals try rw [if_neg q2]
  all_goals try (split at h <;> rename_i q3)
  all_goals try rw [if_pos q3]
  all_goals try rw [if_neg q3]
  all_goals cases h
  all_goals first | exact ⟨Or.inl rfl, rfl⟩ | exact ⟨Or.inr (Or.inl rfl), rfl⟩ | exact ⟨Or.inr (Or.inr rfl), rfl⟩
theorem ex_ofCell {a b c d : Int32} {E : String} (h : (sp_ofCell X a b c d).1 = some E) : (E = kIO ∨ E = kIA) ∧ (sp_ofCell X a b c d).2.2 = X := by
  unfold sp_ofCell at h ⊢
  split at h <;> rename_i q1
  all_goals try rw [if_pos q1]
  all_goals try rw [if_neg q1]
  all_goals try (split at h <;> rename_i q2)
  all_goals try rw [if_pos q2]
  all_goals try rw [if_neg q2]
  all_goals try (split at h <;> rename_i q3)
  all_goals try rw [if_pos q3]
  all_goals try rw [if_neg q3]
  all_goals cases h
  all_goals first | exact ⟨Or.inl rfl, rfl⟩ | exact ⟨Or.inr rfl, rfl⟩
theorem ex_aimAnew {a b c : Int32} {E : String} (h : (sp_aim X a b c).1 = some E) : (E = kIO) ∧ (sp_aim X a b c).2.2 = X := by
  unfold sp_aim at h ⊢
  split at h <;> rename_i q1
  all_goals try rw [if_pos q1]
  all_goals try rw [if_neg q1]
  all_goals try (split at h <;> rename_i q2)
  all_goals try rw [if_pos q2]
  all_goals try rw [if_neg q2]
  all_goals try (split at h <;> rename_i q3)
  all_goals try rw [if_pos q3]
  all_goals try rw [if_neg q3]
  all_goals cases h
  all_goals exact ⟨rfl, rfl⟩
theorem same_edge {x : Int32} : (sp_edge X x).2.2 = X := by
  unfold sp_edge
  split
  · first | rfl | (split <;> rfl)
  · rfl
theorem same_ofLot {x y : Int32} : (sp_ofLot X x y).2.2 = X := by
  unfold sp_ofLot
  split
  · first | rfl | (split <;> rfl)
  · rfl
theorem same_ofCell {a b c d : Int32} : (sp_ofCell X a b c d).2.2 = X := by
  unfold sp_ofCell
  split
  · first | rfl | (split <;> rfl)
  · rfl
set_option maxHeartbeats 4000000 in
set_option maxRecDepth 100000 in
theorem w_comes (hlt : l.stackTraces = false) (r : XR cA Z X ta h) (t : tyv Z X ta) (hI : LI X) {x y : Int32} : Mc l D cA bs SZl yL_does wsL_does (rmk 10 4 30) [.ref (Z 0 0), .int 0, .int x, .int y] h (Wst cA Z X h (sp_comes X x)) := by
  have hrow := r.row
  refine Mc_of (cc := cL_does) (maxL := 5) (ret := (some .int)) (own := RL) [some (.ref (Z 0 0)), some (.int 0), some (.int x), some (.int y), none] rfl (by decide +kernel) rfl rfl (by exact Nat.le_of_ble_eq_true rfl) rfl ?_
  intro p9 e9 s9 m9 args9 below9 meth9 c9 C hr htb hz hsz
  obtain ⟨n1, n2, n3⟩ := hsz.2
  obtain ⟨k1, k2, k3⟩ := hsz.1.cast (args := args9)
  refine V_iload_n (i := 1) C dL_does_0 rfl rfl ?_
  refine V_if_ne (tgt := 12) C dL_does_1 (by decide) (fun z9 => absurd z9 (by decide)) (fun _ => ?_)
  refine V_aload_n (i := 0) C dL_does_4 rfl rfl ?_
  refine V_iload_n (i := 2) C dL_does_5 rfl rfl ?_
  refine V_tcallV (n := 1) C (m_comes hlt r t hI) dL_does_6 gL_does_X4_comes rfl hrow rfl (by decide +kernel) rfl rfl (by exact Nat.le_of_ble_eq_true rfl) ⟨Nat.le_of_ble_eq_true rfl, Nat.le_of_ble_eq_true rfl⟩ ⟨Nat.le_of_ble_eq_true rfl, Nat.le_of_ble_eq_true rfl⟩ hz SZr.moves hsz.1 (fun E h2 hx => ?_) (fun v9 h9 hr9 => ?_)
  · obtain ⟨hE, z9⟩ := hx
    subst z9
    obtain ⟨hE2, hX⟩ := ex_comes hE
    rcases hE2 with rfl | rfl
    · refine ⟨130, ⟨[], ⟨0, 129, 130, 42⟩, [⟨0, 129, 136, 44⟩, ⟨0, 129, 142, 46⟩], kIO, htb.trans rfl, (fun z hz => absurd hz List.not_mem_nil), by decide, by decide, by decide +kernel, k3, rfl⟩, fun q => ?_⟩
      refine V_astore4 C dL_does_130 (by decide) ?_
      refine V_sipush (v := (-900)) C dL_does_132 (by decide) ?_
      exact V_iret C dL_does_135 hr ⟨congrArg (fun c => some (Value.int c)) (an_x hE).symm, Z, ta, by rw [hX]; exact r, by rw [hX]; exact t, rfl, by rw [hX]; exact ffr.rf⟩ (by exact Nat.le_of_ble_eq_true rfl) (by exact Nat.le_of_ble_eq_true rfl)
    · refine ⟨142, ⟨[⟨0, 129, 130, 42⟩, ⟨0, 129, 136, 44⟩], ⟨0, 129, 142, 46⟩, [], kIS, htb.trans rfl, (List.forall_mem_cons.mpr ⟨⟨by decide, kIO, by decide +kernel, n2⟩, List.forall_mem_cons.mpr ⟨⟨by decide, kIA, by decide +kernel, n1⟩, fun z hz => absurd hz List.not_mem_nil⟩⟩), by decide, by decide, by decide +kernel, k2, rfl⟩, fun q => ?_⟩
      refine V_astore4 C dL_does_142 (by decide) ?_
      refine V_sipush (v := (-900)) C dL_does_144 (by decide) ?_
      exact V_iret C dL_does_147 hr ⟨congrArg (fun c => some (Value.int c)) (an_x hE).symm, Z, ta, by rw [hX]; exact r, by rw [hX]; exact t, rfl, by rw [hX]; exact ffr.rf⟩ (by exact Nat.le_of_ble_eq_true rfl) (by exact Nat.le_of_ble_eq_true rfl)
  · obtain ⟨hE, rfl, Z2, ta2, r2, t2, z2, f2⟩ := hr9
    refine V_goto (tgt := 129) C dL_does_9 (by decide) ?_
    exact V_iret C dL_does_129 hr ⟨congrArg (fun c => some (Value.int c)) (an_n hE).symm, Z2, ta2, r2, t2, z2, f2⟩ (by exact Nat.le_of_ble_eq_true rfl) (by exact Nat.le_of_ble_eq_true rfl)
set_option maxHeartbeats 4000000 in
set_option maxRecDepth 100000 in
theorem w_fill (hlt : l.stackTraces = false) (r : XR cA Z X ta h) (t : tyv Z X ta) (hI : LI X) {x y : Int32} : Mc l D cA bs SZl yL_does wsL_does (rmk 10 4 30) [.ref (Z 0 0), .int 1, .int x, .int y] h (Wst cA Z X h (sp_fill X x)) := by
  have hrow := r.row
  refine Mc_of (cc := cL_does) (maxL := 5) (ret := (some .int)) (own := RL) [some (.ref (Z 0 0)), some (.int 1), some (.int x), some (.int y), none] rfl (by decide +kernel) rfl rfl (by exact Nat.le_of_ble_eq_true rfl) rfl ?_
  intro p9 e9 s9 m9 args9 below9 meth9 c9 C hr htb hz hsz
  obtain ⟨n1, n2, n3⟩ := hsz.2
  obtain ⟨k1, k2, k3⟩ := hsz.1.cast (args := args9)
  refine V_iload_n (i := 1) C dL_does_0 rfl rfl ?_
  refine V_if_ne (tgt := 12) C dL_does_1 (by decide) (fun _ => ?_) (fun z9 => absurd z9 (by decide))
  refine V_iload_n (i := 1) C dL_does_12 rfl rfl ?_
  refine V_iconst (v := 1) C dL_does_13 (by decide) ?_
  refine V_icmp_ne (tgt := 25) C dL_does_14 (by decide) (fun z9 => absurd z9 (by decide)) (fun _ => ?_)
  refine V_aload_n (i := 0) C dL_does_17 rfl rfl ?_
  refine V_iload_n (i := 2) C dL_does_18 rfl rfl ?_
  refine V_tcallV (n := 1) C (m_fill hlt r t hI) dL_does_19 gL_does_X4_fill rfl hrow rfl (by decide +kernel) rfl rfl (by exact Nat.le_of_ble_eq_true rfl) ⟨Nat.le_of_ble_eq_true rfl, Nat.le_of_ble_eq_true rfl⟩ ⟨Nat.le_of_ble_eq_true rfl, Nat.le_of_ble_eq_true rfl⟩ hz SZr.moves hsz.1 (fun E h2 hx => ?_) (fun v9 h9 hr9 => ?_)
  · obtain ⟨hE, z9⟩ := hx
    subst z9
    obtain ⟨hE2, hX⟩ := ex_fill hE
    subst hE2
    refine ⟨130, ⟨[], ⟨0, 129, 130, 42⟩, [⟨0, 129, 136, 44⟩, ⟨0, 129, 142, 46⟩], kIO, htb.trans rfl, (fun z hz => absurd hz List.not_mem_nil), by decide, by decide, by decide +kernel, k3, rfl⟩, fun q => ?_⟩
    refine V_astore4 C dL_does_130 (by decide) ?_
    refine V_sipush (v := (-900)) C dL_does_132 (by decide) ?_
    exact V_iret C dL_does_135 hr ⟨congrArg (fun c => some (Value.int c)) (an_x hE).symm, Z, ta, by rw [hX]; exact r, by rw [hX]; exact t, rfl, by rw [hX]; exact ffr.rf⟩ (by exact Nat.le_of_ble_eq_true rfl) (by exact Nat.le_of_ble_eq_true rfl)
  · obtain ⟨hE, rfl, Z2, ta2, r2, t2, z2, f2⟩ := hr9
    refine V_goto (tgt := 129) C dL_does_22 (by decide) ?_
    exact V_iret C dL_does_129 hr ⟨congrArg (fun c => some (Value.int c)) (an_n hE).symm, Z2, ta2, r2, t2, z2, f2⟩ (by exact Nat.le_of_ble_eq_true rfl) (by exact Nat.le_of_ble_eq_true rfl)
set_option maxHeartbeats 4000000 in
set_option maxRecDepth 100000 in
theorem w_design (hlt : l.stackTraces = false) (r : XR cA Z X ta h) (t : tyv Z X ta) (hI : LI X) {x y : Int32} : Mc l D cA bs SZl yL_does wsL_does (rmk 10 4 30) [.ref (Z 0 0), .int 2, .int x, .int y] h (Wst cA Z X h (sp_design X x)) := by
  have hrow := r.row
  refine Mc_of (cc := cL_does) (maxL := 5) (ret := (some .int)) (own := RL) [some (.ref (Z 0 0)), some (.int 2), some (.int x), some (.int y), none] rfl (by decide +kernel) rfl rfl (by exact Nat.le_of_ble_eq_true rfl) rfl ?_
  intro p9 e9 s9 m9 args9 below9 meth9 c9 C hr htb hz hsz
  obtain ⟨n1, n2, n3⟩ := hsz.2
  obtain ⟨k1, k2, k3⟩ := hsz.1.cast (args := args9)
  refine V_iload_n (i := 1) C dL_does_0 rfl rfl ?_
  refine V_if_ne (tgt := 12) C dL_does_1 (by decide) (fun _ => ?_) (fun z9 => absurd z9 (by decide))
  refine V_iload_n (i := 1) C dL_does_12 rfl rfl ?_
  refine V_iconst (v := 1) C dL_does_13 (by decide) ?_
  refine V_icmp_ne (tgt := 25) C dL_does_14 (by decide) (fun _ => ?_) (fun z9 => absurd z9 (by decide))
  refine V_iload_n (i := 1) C dL_does_25 rfl rfl ?_
  refine V_iconst (v := 2) C dL_does_26 (by decide) ?_
  refine V_icmp_ne (tgt := 38) C dL_does_27 (by decide) (fun z9 => absurd z9 (by decide)) (fun _ => ?_)
  refine V_aload_n (i := 0) C dL_does_30 rfl rfl ?_
  refine V_iload_n (i := 2) C dL_does_31 rfl rfl ?_
  refine V_tcallV (n := 1) C (m_design hlt r t hI) dL_does_32 gL_does_X4_design rfl hrow rfl (by decide +kernel) rfl rfl (by exact Nat.le_of_ble_eq_true rfl) ⟨Nat.le_of_ble_eq_true rfl, Nat.le_of_ble_eq_true rfl⟩ ⟨Nat.le_of_ble_eq_true rfl, Nat.le_of_ble_eq_true rfl⟩ hz SZr.moves hsz.1 (fun E h2 hx => ?_) (fun v9 h9 hr9 => ?_)
  · obtain ⟨hE, z9⟩ := hx
    subst z9
    obtain ⟨hE2, hX⟩ := ex_design hE
    subst hE2
    refine ⟨130, ⟨[], ⟨0, 129, 130, 42⟩, [⟨0, 129, 136, 44⟩, ⟨0, 129, 142, 46⟩], kIO, htb.trans rfl, (fun z hz => absurd hz List.not_mem_nil), by decide, by decide, by decide +kernel, k3, rfl⟩, fun q => ?_⟩
    refine V_astore4 C dL_does_130 (by decide) ?_
    refine V_sipush (v := (-900)) C dL_does_132 (by decide) ?_
    exact V_iret C dL_does_135 hr ⟨congrArg (fun c => some (Value.int c)) (an_x hE).symm, Z, ta, by rw [hX]; exact r, by rw [hX]; exact t, rfl, by rw [hX]; exact ffr.rf⟩ (by exact Nat.le_of_ble_eq_true rfl) (by exact Nat.le_of_ble_eq_true rfl)
  · obtain ⟨hE, rfl, Z2, ta2, r2, t2, z2, f2⟩ := hr9
    refine V_goto (tgt := 129) C dL_does_35 (by decide) ?_
    exact V_iret C dL_does_129 hr ⟨congrArg (fun c => some (Value.int c)) (an_n hE).symm, Z2, ta2, r2, t2, z2, f2⟩ (by exact Nat.le_of_ble_eq_true rfl) (by exact Nat.le_of_ble_eq_true rfl)
set_option maxHeartbeats 4000000 in
set_option maxRecDepth 100000 in
theorem w_edge (hlt : l.stackTraces = false) (r : XR cA Z X ta h) (t : tyv Z X ta) (hI : CI M X) {x y : Int32} : Mc l D cA bs SZl yL_does wsL_does (rmk 10 4 30) [.ref (Z 0 0), .int 6, .int x, .int y] h (Wst cA Z X h (sp_edge X x)) := by
  have hrow := r.row
  refine Mc_of (cc := cL_does) (maxL := 5) (ret := (some .int)) (own := RL) [some (.ref (Z 0 0)), some (.int 6), some (.int x), some (.int y), none] rfl (by decide +kernel) rfl rfl (by exact Nat.le_of_ble_eq_true rfl) rfl ?_
  intro p9 e9 s9 m9 args9 below9 meth9 c9 C hr htb hz hsz
  obtain ⟨n1, n2, n3⟩ := hsz.2
  obtain ⟨k1, k2, k3⟩ := hsz.1.cast (args := args9)
  refine V_iload_n (i := 1) C dL_does_0 rfl rfl ?_
  refine V_if_ne (tgt := 12) C dL_does_1 (by decide) (fun _ => ?_) (fun z9 => absurd z9 (by decide))
  refine V_iload_n (i := 1) C dL_does_12 rfl rfl ?_
  refine V_iconst (v := 1) C dL_does_13 (by decide) ?_
  refine V_icmp_ne (tgt := 25) C dL_does_14 (by decide) (fun _ => ?_) (fun z9 => absurd z9 (by decide))
  refine V_iload_n (i := 1) C dL_does_25 rfl rfl ?_
  refine V_iconst (v := 2) C dL_does_26 (by decide) ?_
  refine V_icmp_ne (tgt := 38) C dL_does_27 (by decide) (fun _ => ?_) (fun z9 => absurd z9 (by decide))
  refine V_iload_n (i := 1) C dL_does_38 rfl rfl ?_
  refine V_iconst (v := 3) C dL_does_39 (by decide) ?_
  refine V_icmp_ne (tgt := 52) C dL_does_40 (by decide) (fun _ => ?_) (fun z9 => absurd z9 (by decide))
  refine V_iload_n (i := 1) C dL_does_52 rfl rfl ?_
  refine V_iconst (v := 4) C dL_does_53 (by decide) ?_
  refine V_icmp_ne (tgt := 66) C dL_does_54 (by decide) (fun _ => ?_) (fun z9 => absurd z9 (by decide))
  refine V_iload_n (i := 1) C dL_does_66 rfl rfl ?_
  refine V_iconst (v := 5) C dL_does_67 (by decide) ?_
  refine V_icmp_ne (tgt := 79) C dL_does_68 (by decide) (fun _ => ?_) (fun z9 => absurd z9 (by decide))
  refine V_iload_n (i := 1) C dL_does_79 rfl rfl ?_
  refine V_bipush (v := 6) C dL_does_80 (by decide) ?_
  refine V_icmp_ne (tgt := 93) C dL_does_82 (by decide) (fun z9 => absurd z9 (by decide)) (fun _ => ?_)
  refine V_aload_n (i := 0) C dL_does_85 rfl rfl ?_
  refine V_iload_n (i := 2) C dL_does_86 rfl rfl ?_
  refine V_tcallV (n := 1) C (m_edge hlt r t hI) dL_does_87 gL_does_X4_edge rfl hrow rfl (by decide +kernel) rfl rfl (by exact Nat.le_of_ble_eq_true rfl) ⟨Nat.le_of_ble_eq_true rfl, Nat.le_of_ble_eq_true rfl⟩ ⟨Nat.le_of_ble_eq_true rfl, Nat.le_of_ble_eq_true rfl⟩ hz SZr.moves hsz.1 (fun E h2 hx => ?_) (fun v9 h9 hr9 => ?_)
  · obtain ⟨hE, z9⟩ := hx
    subst z9
    obtain ⟨hE2, hX⟩ := ex_edge hE
    subst hE2
    refine ⟨130, ⟨[], ⟨0, 129, 130, 42⟩, [⟨0, 129, 136, 44⟩, ⟨0, 129, 142, 46⟩], kIO, htb.trans rfl, (fun z hz => absurd hz List.not_mem_nil), by decide, by decide, by decide +kernel, k3, rfl⟩, fun q => ?_⟩
    refine V_astore4 C dL_does_130 (by decide) ?_
    refine V_sipush (v := (-900)) C dL_does_132 (by decide) ?_
    exact V_iret C dL_does_135 hr ⟨congrArg (fun c => some (Value.int c)) (an_x hE).symm, Z, ta, by rw [hX]; exact r, by rw [hX]; exact t, rfl, by rw [hX]; exact ffr.rf⟩ (by exact Nat.le_of_ble_eq_true rfl) (by exact Nat.le_of_ble_eq_true rfl)
  · obtain ⟨hE, rfl, Z2, ta2, r2, t2, z2, f2⟩ := hr9
    refine V_goto (tgt := 129) C dL_does_90 (by decide) ?_
    exact V_iret C dL_does_129 hr ⟨congrArg (fun c => some (Value.int c)) (an_n hE).symm, Z2, ta2, r2, t2, z2, f2⟩ (by exact Nat.le_of_ble_eq_true rfl) (by exact Nat.le_of_ble_eq_true rfl)
set_option maxHeartbeats 4000000 in
set_option maxRecDepth 100000 in
theorem w_ofLot (hlt : l.stackTraces = false) (r : XR cA Z X ta h) (t : tyv Z X ta) (hI : CI M X) {x y : Int32} : Mc l D cA bs SZl yL_does wsL_does (rmk 10 4 30) [.ref (Z 0 0), .int 7, .int x, .int y] h (Wst cA Z X h (sp_ofLot X x y)) := by
  have hrow := r.row
  refine Mc_of (cc := cL_does) (maxL := 5) (ret := (some .int)) (own := RL) [some (.ref (Z 0 0)), some (.int 7), some (.int x), some (.int y), none] rfl (by decide +kernel) rfl rfl (by exact Nat.le_of_ble_eq_true rfl) rfl ?_
  intro p9 e9 s9 m9 args9 below9 meth9 c9 C hr htb hz hsz
  obtain ⟨n1, n2, n3⟩ := hsz.2
  obtain ⟨k1, k2, k3⟩ := hsz.1.cast (args := args9)
  refine V_iload_n (i := 1) C dL_does_0 rfl rfl ?_
  refine V_if_ne (tgt := 12) C dL_does_1 (by decide) (fun _ => ?_) (fun z9 => absurd z9 (by decide))
  refine V_iload_n (i := 1) C dL_does_12 rfl rfl ?_
  refine V_iconst (v := 1) C dL_does_13 (by decide) ?_
  refine V_icmp_ne (tgt := 25) C dL_does_14 (by decide) (fun _ => ?_) (fun z9 => absurd z9 (by decide))
  refine V_iload_n (i := 1) C dL_does_25 rfl rfl ?_
  refine V_iconst (v := 2) C dL_does_26 (by decide) ?_
  refine V_icmp_ne (tgt := 38) C dL_does_27 (by decide) (fun _ => ?_) (fun z9 => absurd z9 (by decide))
  refine V_iload_n (i := 1) C dL_does_38 rfl rfl ?_
  refine V_iconst (v := 3) C dL_does_39 (by decide) ?_
  refine V_icmp_ne (tgt := 52) C dL_does_40 (by decide) (fun _ => ?_) (fun z9 => absurd z9 (by decide))
  refine V_iload_n (i := 1) C dL_does_52 rfl rfl ?_
  refine V_iconst (v := 4) C dL_does_53 (by decide) ?_
  refine V_icmp_ne (tgt := 66) C dL_does_54 (by decide) (fun _ => ?_) (fun z9 => absurd z9 (by decide))
  refine V_iload_n (i := 1) C dL_does_66 rfl rfl ?_
  refine V_iconst (v := 5) C dL_does_67 (by decide) ?_
  refine V_icmp_ne (tgt := 79) C dL_does_68 (by decide) (fun _ => ?_) (fun z9 => absurd z9 (by decide))
  refine V_iload_n (i := 1) C dL_does_79 rfl rfl ?_
  refine V_bipush (v := 6) C dL_does_80 (by decide) ?_
  refine V_icmp_ne (tgt := 93) C dL_does_82 (by decide) (fun _ => ?_) (fun z9 => absurd z9 (by decide))
  refine V_iload_n (i := 1) C dL_does_93 rfl rfl ?_
  refine V_bipush (v := 7) C dL_does_94 (by decide) ?_
  refine V_icmp_ne (tgt := 108) C dL_does_96 (by decide) (fun z9 => absurd z9 (by decide)) (fun _ => ?_)
  refine V_aload_n (i := 0) C dL_does_99 rfl rfl ?_
  refine V_iload_n (i := 2) C dL_does_100 rfl rfl ?_
  refine V_iload_n (i := 3) C dL_does_101 rfl rfl ?_
  refine V_tcallV (n := 2) C (m_ofLot hlt r t hI) dL_does_102 gL_does_X4_ofLot rfl hrow rfl (by decide +kernel) rfl rfl (by exact Nat.le_of_ble_eq_true rfl) ⟨Nat.le_of_ble_eq_true rfl, Nat.le_of_ble_eq_true rfl⟩ ⟨Nat.le_of_ble_eq_true rfl, Nat.le_of_ble_eq_true rfl⟩ hz SZr.moves hsz.1 (fun E h2 hx => ?_) (fun v9 h9 hr9 => ?_)
  · obtain ⟨hE, z9⟩ := hx
    subst z9
    obtain ⟨hE2, hX⟩ := ex_ofLot hE
    rcases hE2 with rfl | rfl
    · refine ⟨130, ⟨[], ⟨0, 129, 130, 42⟩, [⟨0, 129, 136, 44⟩, ⟨0, 129, 142, 46⟩], kIO, htb.trans rfl, (fun z hz => absurd hz List.not_mem_nil), by decide, by decide, by decide +kernel, k3, rfl⟩, fun q => ?_⟩
      refine V_astore4 C dL_does_130 (by decide) ?_
      refine V_sipush (v := (-900)) C dL_does_132 (by decide) ?_
      exact V_iret C dL_does_135 hr ⟨congrArg (fun c => some (Value.int c)) (an_x hE).symm, Z, ta, by rw [hX]; exact r, by rw [hX]; exact t, rfl, by rw [hX]; exact ffr.rf⟩ (by exact Nat.le_of_ble_eq_true rfl) (by exact Nat.le_of_ble_eq_true rfl)
    · refine ⟨136, ⟨[⟨0, 129, 130, 42⟩], ⟨0, 129, 136, 44⟩, [⟨0, 129, 142, 46⟩], kIA, htb.trans rfl, (fun z hz => by rw [List.mem_singleton] at hz; subst hz; exact ⟨by decide, kIO, by decide +kernel, n3⟩), by decide, by decide, by decide +kernel, k1, rfl⟩, fun q => ?_⟩
      refine V_astore4 C dL_does_136 (by decide) ?_
      refine V_sipush (v := (-900)) C dL_does_138 (by decide) ?_
      exact V_iret C dL_does_141 hr ⟨congrArg (fun c => some (Value.int c)) (an_x hE).symm, Z, ta, by rw [hX]; exact r, by rw [hX]; exact t, rfl, by rw [hX]; exact ffr.rf⟩ (by exact Nat.le_of_ble_eq_true rfl) (by exact Nat.le_of_ble_eq_true rfl)
  · obtain ⟨hE, rfl, Z2, ta2, r2, t2, z2, f2⟩ := hr9
    refine V_goto (tgt := 129) C dL_does_105 (by decide) ?_
    exact V_iret C dL_does_129 hr ⟨congrArg (fun c => some (Value.int c)) (an_n hE).symm, Z2, ta2, r2, t2, z2, f2⟩ (by exact Nat.le_of_ble_eq_true rfl) (by exact Nat.le_of_ble_eq_true rfl)
set_option maxHeartbeats 4000000 in
set_option maxRecDepth 100000 in
theorem w_lot (hlt : l.stackTraces = false) (r : XR cA Z X ta h) (t : tyv Z X ta) (hI : LI X) {a b c d : Int32} (hd : d = 0 ∨ d = 1) : Mc l D cA bs SZl yL_adds wsL_adds (rmk 10 4 30) [.ref (Z 0 0), .int a, .int b, .int c, .int d] h (Wst cA Z X h (sp_lot X a b c d)) := by
  have hrow := r.row
  refine Mc_of (cc := cL_adds) (maxL := 6) (ret := (some .int)) (own := RL) [some (.ref (Z 0 0)), some (.int a), some (.int b), some (.int c), some (.int d), none] rfl (by decide +kernel) rfl rfl (by exact Nat.le_of_ble_eq_true rfl) rfl ?_
  intro p9 e9 s9 m9 args9 below9 meth9 c9 C hr htb hz hsz
  obtain ⟨n1, n2, n3⟩ := hsz.2
  obtain ⟨k1, k2, k3⟩ := hsz.1.cast (args := args9)
  refine V_aload_n (i := 0) C dL_adds_0 rfl rfl ?_
  refine V_iload_n (i := 1) C dL_adds_1 rfl rfl ?_
  refine V_iload_n (i := 2) C dL_adds_2 rfl rfl ?_
  refine V_iload_n (i := 3) C dL_adds_3 rfl rfl ?_
  refine V_iload C dL_adds_4 rfl ?_
  refine V_tcallV (n := 4) C (m_lot hlt r t hI hd) dL_adds_6 gL_adds_X4_lot rfl hrow rfl (by decide +kernel) rfl rfl (by exact Nat.le_of_ble_eq_true rfl) ⟨Nat.le_of_ble_eq_true rfl, Nat.le_of_ble_eq_true rfl⟩ ⟨Nat.le_of_ble_eq_true rfl, Nat.le_of_ble_eq_true rfl⟩ hz SZr.moves hsz.1 (fun E h2 hx => ?_) (fun v9 h9 hr9 => ?_)
  · obtain ⟨hE, z9⟩ := hx
    subst z9
    obtain ⟨hE2, hX⟩ := ex_lot hE
    rcases hE2 with rfl | rfl
    · refine ⟨10, ⟨[], ⟨0, 9, 10, 44⟩, [⟨0, 9, 16, 46⟩], kIA, htb.trans rfl, (fun z hz => absurd hz List.not_mem_nil), by decide, by decide, by decide +kernel, k1, rfl⟩, fun q => ?_⟩
      refine V_astore5 C dL_adds_10 (by decide) ?_
      refine V_sipush (v := (-900)) C dL_adds_12 (by decide) ?_
      exact V_iret C dL_adds_15 hr ⟨congrArg (fun c => some (Value.int c)) (an_x hE).symm, Z, ta, by rw [hX]; exact r, by rw [hX]; exact t, rfl, by rw [hX]; exact ffr.rf⟩ (by exact Nat.le_of_ble_eq_true rfl) (by exact Nat.le_of_ble_eq_true rfl)
    · refine ⟨16, ⟨[⟨0, 9, 10, 44⟩], ⟨0, 9, 16, 46⟩, [], kIS, htb.trans rfl, (fun z hz => by rw [List.mem_singleton] at hz; subst hz; exact ⟨by decide, kIA, by decide +kernel, n1⟩), by decide, by decide, by decide +kernel, k2, rfl⟩, fun q => ?_⟩
      refine V_astore5 C dL_adds_16 (by decide) ?_
      refine V_sipush (v := (-900)) C dL_adds_18 (by decide) ?_
      exact V_iret C dL_adds_21 hr ⟨congrArg (fun c => some (Value.int c)) (an_x hE).symm, Z, ta, by rw [hX]; exact r, by rw [hX]; exact t, rfl, by rw [hX]; exact ffr.rf⟩ (by exact Nat.le_of_ble_eq_true rfl) (by exact Nat.le_of_ble_eq_true rfl)
  · obtain ⟨hE, rfl, Z2, ta2, r2, t2, z2, f2⟩ := hr9
    exact V_iret C dL_adds_9 hr ⟨congrArg (fun c => some (Value.int c)) (an_n hE).symm, Z2, ta2, r2, t2, z2, f2⟩ (by exact Nat.le_of_ble_eq_true rfl) (by exact Nat.le_of_ble_eq_true rfl)
set_option maxHeartbeats 4000000 in
set_option maxRecDepth 100000 in
theorem w_picture (hlt : l.stackTraces = false) (r : XR cA Z X ta h) (t : tyv Z X ta) (hI : LI X) {a b c : Int32} : Mc l D cA bs SZl yL_tells wsL_tells (rmk 10 75 800) [.ref (Z 0 0), .int 0, .int a, .int b, .int c] h (Wst cA Z X h (sp_picture X a b c)) := by
  have hrow := r.row
  refine Mc_of (cc := cL_tells) (maxL := 6) (ret := (some .int)) (own := RL) [some (.ref (Z 0 0)), some (.int 0), some (.int a), some (.int b), some (.int c), none] rfl (by decide +kernel) rfl rfl (by exact Nat.le_of_ble_eq_true rfl) rfl ?_
  intro p9 e9 s9 m9 args9 below9 meth9 c9 C hr htb hz hsz
  obtain ⟨n1, n2, n3⟩ := hsz.2
  obtain ⟨k1, k2, k3⟩ := hsz.1.cast (args := args9)
  refine V_iload_n (i := 1) C dL_tells_0 rfl rfl ?_
  refine V_if_ne (tgt := 15) C dL_tells_1 (by decide) (fun z9 => absurd z9 (by decide)) (fun _ => ?_)
  refine V_aload_n (i := 0) C dL_tells_4 rfl rfl ?_
  refine V_iload_n (i := 2) C dL_tells_5 rfl rfl ?_
  refine V_iload_n (i := 3) C dL_tells_6 rfl rfl ?_
  refine V_iload C dL_tells_7 rfl ?_
  refine V_tcallV (n := 3) C (m_picture hlt r t hI) dL_tells_9 gL_tells_X4_picture rfl hrow rfl (by decide +kernel) rfl rfl (by exact Nat.le_of_ble_eq_true rfl) ⟨Nat.le_of_ble_eq_true rfl, Nat.le_of_ble_eq_true rfl⟩ ⟨Nat.le_of_ble_eq_true rfl, Nat.le_of_ble_eq_true rfl⟩ hz SZr.moves hsz.1 (fun E h2 hx => ?_) (fun v9 h9 hr9 => ?_)
  · obtain ⟨hE, z9⟩ := hx
    subst z9
    obtain ⟨hE2, hX⟩ := ex_picture hE
    rcases hE2 with rfl | rfl
    · refine ⟨46, ⟨[⟨0, 39, 40, 42⟩], ⟨0, 39, 46, 44⟩, [⟨0, 39, 52, 46⟩], kIA, htb.trans rfl, (fun z hz => by rw [List.mem_singleton] at hz; subst hz; exact ⟨by decide, kIO, by decide +kernel, n3⟩), by decide, by decide, by decide +kernel, k1, rfl⟩, fun q => ?_⟩
      refine V_astore5 C dL_tells_46 (by decide) ?_
      refine V_sipush (v := (-900)) C dL_tells_48 (by decide) ?_
      exact V_iret C dL_tells_51 hr ⟨congrArg (fun c => some (Value.int c)) (an_x hE).symm, Z, ta, by rw [hX]; exact r, by rw [hX]; exact t, rfl, by rw [hX]; exact ffr.rf⟩ (by exact Nat.le_of_ble_eq_true rfl) (by exact Nat.le_of_ble_eq_true rfl)
    · refine ⟨52, ⟨[⟨0, 39, 40, 42⟩, ⟨0, 39, 46, 44⟩], ⟨0, 39, 52, 46⟩, [], kIS, htb.trans rfl, (List.forall_mem_cons.mpr ⟨⟨by decide, kIO, by decide +kernel, n2⟩, List.forall_mem_cons.mpr ⟨⟨by decide, kIA, by decide +kernel, n1⟩, fun z hz => absurd hz List.not_mem_nil⟩⟩), by decide, by decide, by decide +kernel, k2, rfl⟩, fun q => ?_⟩
      refine V_astore5 C dL_tells_52 (by decide) ?_
      refine V_sipush (v := (-900)) C dL_tells_54 (by decide) ?_
      exact V_iret C dL_tells_57 hr ⟨congrArg (fun c => some (Value.int c)) (an_x hE).symm, Z, ta, by rw [hX]; exact r, by rw [hX]; exact t, rfl, by rw [hX]; exact ffr.rf⟩ (by exact Nat.le_of_ble_eq_true rfl) (by exact Nat.le_of_ble_eq_true rfl)
  · obtain ⟨hE, rfl, Z2, ta2, r2, t2, z2, f2⟩ := hr9
    refine V_goto (tgt := 39) C dL_tells_12 (by decide) ?_
    exact V_iret C dL_tells_39 hr ⟨congrArg (fun c => some (Value.int c)) (an_n hE).symm, Z2, ta2, r2, t2, z2, f2⟩ (by exact Nat.le_of_ble_eq_true rfl) (by exact Nat.le_of_ble_eq_true rfl)
set_option maxHeartbeats 4000000 in
set_option maxRecDepth 100000 in
theorem w_share (hlt : l.stackTraces = false) (r : XR cA Z X ta h) (t : tyv Z X ta) (hI : LI X) {a b c : Int32} : Mc l D cA bs SZl yL_tells wsL_tells (rmk 10 4 30) [.ref (Z 0 0), .int 1, .int a, .int b, .int c] h (Wst cA Z X h (sp_share X a b c)) := by
  have hrow := r.row
  refine Mc_of (cc := cL_tells) (maxL := 6) (ret := (some .int)) (own := RL) [some (.ref (Z 0 0)), some (.int 1), some (.int a), some (.int b), some (.int c), none] rfl (by decide +kernel) rfl rfl (by exact Nat.le_of_ble_eq_true rfl) rfl ?_
  intro p9 e9 s9 m9 args9 below9 meth9 c9 C hr htb hz hsz
  obtain ⟨n1, n2, n3⟩ := hsz.2
  obtain ⟨k1, k2, k3⟩ := hsz.1.cast (args := args9)
  refine V_iload_n (i := 1) C dL_tells_0 rfl rfl ?_
  refine V_if_ne (tgt := 15) C dL_tells_1 (by decide) (fun _ => ?_) (fun z9 => absurd z9 (by decide))
  refine V_iload_n (i := 1) C dL_tells_15 rfl rfl ?_
  refine V_iconst (v := 1) C dL_tells_16 (by decide) ?_
  refine V_icmp_ne (tgt := 31) C dL_tells_17 (by decide) (fun z9 => absurd z9 (by decide)) (fun _ => ?_)
  refine V_aload_n (i := 0) C dL_tells_20 rfl rfl ?_
  refine V_iload_n (i := 2) C dL_tells_21 rfl rfl ?_
  refine V_iload_n (i := 3) C dL_tells_22 rfl rfl ?_
  refine V_iload C dL_tells_23 rfl ?_
  refine V_tcallV (n := 3) C (m_share hlt r t hI) dL_tells_25 gL_tells_X4_share rfl hrow rfl (by decide +kernel) rfl rfl (by exact Nat.le_of_ble_eq_true rfl) ⟨Nat.le_of_ble_eq_true rfl, Nat.le_of_ble_eq_true rfl⟩ ⟨Nat.le_of_ble_eq_true rfl, Nat.le_of_ble_eq_true rfl⟩ hz SZr.moves hsz.1 (fun E h2 hx => ?_) (fun v9 h9 hr9 => ?_)
  · obtain ⟨hE, z9⟩ := hx
    subst z9
    obtain ⟨hE2, hX⟩ := ex_share hE
    rcases hE2 with rfl | rfl
    · refine ⟨40, ⟨[], ⟨0, 39, 40, 42⟩, [⟨0, 39, 46, 44⟩, ⟨0, 39, 52, 46⟩], kIO, htb.trans rfl, (fun z hz => absurd hz List.not_mem_nil), by decide, by decide, by decide +kernel, k3, rfl⟩, fun q => ?_⟩
      refine V_astore5 C dL_tells_40 (by decide) ?_
      refine V_sipush (v := (-900)) C dL_tells_42 (by decide) ?_
      exact V_iret C dL_tells_45 hr ⟨congrArg (fun c => some (Value.int c)) (an_x hE).symm, Z, ta, by rw [hX]; exact r, by rw [hX]; exact t, rfl, by rw [hX]; exact ffr.rf⟩ (by exact Nat.le_of_ble_eq_true rfl) (by exact Nat.le_of_ble_eq_true rfl)
    · refine ⟨46, ⟨[⟨0, 39, 40, 42⟩], ⟨0, 39, 46, 44⟩, [⟨0, 39, 52, 46⟩], kIA, htb.trans rfl, (fun z hz => by rw [List.mem_singleton] at hz; subst hz; exact ⟨by decide, kIO, by decide +kernel, n3⟩), by decide, by decide, by decide +kernel, k1, rfl⟩, fun q => ?_⟩
      refine V_astore5 C dL_tells_46 (by decide) ?_
      refine V_sipush (v := (-900)) C dL_tells_48 (by decide) ?_
      exact V_iret C dL_tells_51 hr ⟨congrArg (fun c => some (Value.int c)) (an_x hE).symm, Z, ta, by rw [hX]; exact r, by rw [hX]; exact t, rfl, by rw [hX]; exact ffr.rf⟩ (by exact Nat.le_of_ble_eq_true rfl) (by exact Nat.le_of_ble_eq_true rfl)
  · obtain ⟨hE, rfl, Z2, ta2, r2, t2, z2, f2⟩ := hr9
    refine V_goto (tgt := 39) C dL_tells_28 (by decide) ?_
    exact V_iret C dL_tells_39 hr ⟨congrArg (fun c => some (Value.int c)) (an_n hE).symm, Z2, ta2, r2, t2, z2, f2⟩ (by exact Nat.le_of_ble_eq_true rfl) (by exact Nat.le_of_ble_eq_true rfl)
set_option maxHeartbeats 4000000 in
set_option maxRecDepth 100000 in
theorem w_cell (hlt : l.stackTraces = false) (r : XR cA Z X ta h) (t : tyv Z X ta) (hI : LI X) {a b c d : Int32} : Mc l D cA bs SZl yL_cell wsL_cell (rmk 10 4 30) [.ref (Z 0 0), .int 0, .int a, .int b, .int c, .int d] h (Wst cA Z X h (sp_cell X a b c d)) := by
  have hrow := r.row
  refine Mc_of (cc := cL_cell) (maxL := 7) (ret := (some .int)) (own := RL) [some (.ref (Z 0 0)), some (.int 0), some (.int a), some (.int b), some (.int c), some (.int d), none] rfl (by decide +kernel) rfl rfl (by exact Nat.le_of_ble_eq_true rfl) rfl ?_
  intro p9 e9 s9 m9 args9 below9 meth9 c9 C hr htb hz hsz
  obtain ⟨n1, n2, n3⟩ := hsz.2
  obtain ⟨k1, k2, k3⟩ := hsz.1.cast (args := args9)
  refine V_iload_n (i := 1) C dL_cell_0 rfl rfl ?_
  refine V_if_ne (tgt := 17) C dL_cell_1 (by decide) (fun z9 => absurd z9 (by decide)) (fun _ => ?_)
  refine V_aload_n (i := 0) C dL_cell_4 rfl rfl ?_
  refine V_iload_n (i := 2) C dL_cell_5 rfl rfl ?_
  refine V_iload_n (i := 3) C dL_cell_6 rfl rfl ?_
  refine V_iload C dL_cell_7 rfl ?_
  refine V_iload C dL_cell_9 rfl ?_
  refine V_tcallV (n := 4) C (m_cell hlt r t hI) dL_cell_11 gL_cell_X4_cell rfl hrow rfl (by decide +kernel) rfl rfl (by exact Nat.le_of_ble_eq_true rfl) ⟨Nat.le_of_ble_eq_true rfl, Nat.le_of_ble_eq_true rfl⟩ ⟨Nat.le_of_ble_eq_true rfl, Nat.le_of_ble_eq_true rfl⟩ hz SZr.moves hsz.1 (fun E h2 hx => ?_) (fun v9 h9 hr9 => ?_)
  · obtain ⟨hE, z9⟩ := hx
    subst z9
    obtain ⟨hE2, hX⟩ := ex_cell hE
    rcases hE2 with rfl | rfl | rfl
    · refine ⟨46, ⟨[], ⟨0, 45, 46, 42⟩, [⟨0, 45, 52, 44⟩, ⟨0, 45, 58, 46⟩], kIO, htb.trans rfl, (fun z hz => absurd hz List.not_mem_nil), by decide, by decide, by decide +kernel, k3, rfl⟩, fun q => ?_⟩
      refine V_astore6 C dL_cell_46 (by decide) ?_
      refine V_sipush (v := (-900)) C dL_cell_48 (by decide) ?_
      exact V_iret C dL_cell_51 hr ⟨congrArg (fun c => some (Value.int c)) (an_x hE).symm, Z, ta, by rw [hX]; exact r, by rw [hX]; exact t, rfl, by rw [hX]; exact ffr.rf⟩ (by exact Nat.le_of_ble_eq_true rfl) (by exact Nat.le_of_ble_eq_true rfl)
    · refine ⟨52, ⟨[⟨0, 45, 46, 42⟩], ⟨0, 45, 52, 44⟩, [⟨0, 45, 58, 46⟩], kIA, htb.trans rfl, (fun z hz => by rw [List.mem_singleton] at hz; subst hz; exact ⟨by decide, kIO, by decide +kernel, n3⟩), by decide, by decide, by decide +kernel, k1, rfl⟩, fun q => ?_⟩
      refine V_astore6 C dL_cell_52 (by decide) ?_
      refine V_sipush (v := (-900)) C dL_cell_54 (by decide) ?_
      exact V_iret C dL_cell_57 hr ⟨congrArg (fun c => some (Value.int c)) (an_x hE).symm, Z, ta, by rw [hX]; exact r, by rw [hX]; exact t, rfl, by rw [hX]; exact ffr.rf⟩ (by exact Nat.le_of_ble_eq_true rfl) (by exact Nat.le_of_ble_eq_true rfl)
    · refine ⟨58, ⟨[⟨0, 45, 46, 42⟩, ⟨0, 45, 52, 44⟩], ⟨0, 45, 58, 46⟩, [], kIS, htb.trans rfl, (List.forall_mem_cons.mpr ⟨⟨by decide, kIO, by decide +kernel, n2⟩, List.forall_mem_cons.mpr ⟨⟨by decide, kIA, by decide +kernel, n1⟩, fun z hz => absurd hz List.not_mem_nil⟩⟩), by decide, by decide, by decide +kernel, k2, rfl⟩, fun q => ?_⟩
      refine V_astore6 C dL_cell_58 (by decide) ?_
      refine V_sipush (v := (-900)) C dL_cell_60 (by decide) ?_
      exact V_iret C dL_cell_63 hr ⟨congrArg (fun c => some (Value.int c)) (an_x hE).symm, Z, ta, by rw [hX]; exact r, by rw [hX]; exact t, rfl, by rw [hX]; exact ffr.rf⟩ (by exact Nat.le_of_ble_eq_true rfl) (by exact Nat.le_of_ble_eq_true rfl)
  · obtain ⟨hE, rfl, Z2, ta2, r2, t2, z2, f2⟩ := hr9
    refine V_goto (tgt := 45) C dL_cell_14 (by decide) ?_
    exact V_iret C dL_cell_45 hr ⟨congrArg (fun c => some (Value.int c)) (an_n hE).symm, Z2, ta2, r2, t2, z2, f2⟩ (by exact Nat.le_of_ble_eq_true rfl) (by exact Nat.le_of_ble_eq_true rfl)
set_option maxHeartbeats 4000000 in
set_option maxRecDepth 100000 in
theorem w_old (hlt : l.stackTraces = false) (r : XR cA Z X ta h) (t : tyv Z X ta) (hI : LI X) {a b c d : Int32} : Mc l D cA bs SZl yL_cell wsL_cell (rmk 10 4 30) [.ref (Z 0 0), .int 1, .int a, .int b, .int c, .int d] h (Wst cA Z X h (sp_old X a b c d)) := by
  have hrow := r.row
  refine Mc_of (cc := cL_cell) (maxL := 7) (ret := (some .int)) (own := RL) [some (.ref (Z 0 0)), some (.int 1), some (.int a), some (.int b), some (.int c), some (.int d), none] rfl (by decide +kernel) rfl rfl (by exact Nat.le_of_ble_eq_true rfl) rfl ?_
  intro p9 e9 s9 m9 args9 below9 meth9 c9 C hr htb hz hsz
  obtain ⟨n1, n2, n3⟩ := hsz.2
  obtain ⟨k1, k2, k3⟩ := hsz.1.cast (args := args9)
  refine V_iload_n (i := 1) C dL_cell_0 rfl rfl ?_
  refine V_if_ne (tgt := 17) C dL_cell_1 (by decide) (fun _ => ?_) (fun z9 => absurd z9 (by decide))
  refine V_iload_n (i := 1) C dL_cell_17 rfl rfl ?_
  refine V_iconst (v := 1) C dL_cell_18 (by decide) ?_
  refine V_icmp_ne (tgt := 35) C dL_cell_19 (by decide) (fun z9 => absurd z9 (by decide)) (fun _ => ?_)
  refine V_aload_n (i := 0) C dL_cell_22 rfl rfl ?_
  refine V_iload_n (i := 2) C dL_cell_23 rfl rfl ?_
  refine V_iload_n (i := 3) C dL_cell_24 rfl rfl ?_
  refine V_iload C dL_cell_25 rfl ?_
  refine V_iload C dL_cell_27 rfl ?_
  refine V_tcallV (n := 4) C (m_old hlt r t hI) dL_cell_29 gL_cell_X4_old rfl hrow rfl (by decide +kernel) rfl rfl (by exact Nat.le_of_ble_eq_true rfl) ⟨Nat.le_of_ble_eq_true rfl, Nat.le_of_ble_eq_true rfl⟩ ⟨Nat.le_of_ble_eq_true rfl, Nat.le_of_ble_eq_true rfl⟩ hz SZr.moves hsz.1 (fun E h2 hx => ?_) (fun v9 h9 hr9 => ?_)
  · obtain ⟨hE, z9⟩ := hx
    subst z9
    obtain ⟨hE2, hX⟩ := ex_old hE
    rcases hE2 with rfl | rfl | rfl
    · refine ⟨46, ⟨[], ⟨0, 45, 46, 42⟩, [⟨0, 45, 52, 44⟩, ⟨0, 45, 58, 46⟩], kIO, htb.trans rfl, (fun z hz => absurd hz List.not_mem_nil), by decide, by decide, by decide +kernel, k3, rfl⟩, fun q => ?_⟩
      refine V_astore6 C dL_cell_46 (by decide) ?_
      refine V_sipush (v := (-900)) C dL_cell_48 (by decide) ?_
      exact V_iret C dL_cell_51 hr ⟨congrArg (fun c => some (Value.int c)) (an_x hE).symm, Z, ta, by rw [hX]; exact r, by rw [hX]; exact t, rfl, by rw [hX]; exact ffr.rf⟩ (by exact Nat.le_of_ble_eq_true rfl) (by exact Nat.le_of_ble_eq_true rfl)
    · refine ⟨52, ⟨[⟨0, 45, 46, 42⟩], ⟨0, 45, 52, 44⟩, [⟨0, 45, 58, 46⟩], kIA, htb.trans rfl, (fun z hz => by rw [List.mem_singleton] at hz; subst hz; exact ⟨by decide, kIO, by decide +kernel, n3⟩), by decide, by decide, by decide +kernel, k1, rfl⟩, fun q => ?_⟩
      refine V_astore6 C dL_cell_52 (by decide) ?_
      refine V_sipush (v := (-900)) C dL_cell_54 (by decide) ?_
      exact V_iret C dL_cell_57 hr ⟨congrArg (fun c => some (Value.int c)) (an_x hE).symm, Z, ta, by rw [hX]; exact r, by rw [hX]; exact t, rfl, by rw [hX]; exact ffr.rf⟩ (by exact Nat.le_of_ble_eq_true rfl) (by exact Nat.le_of_ble_eq_true rfl)
    · refine ⟨58, ⟨[⟨0, 45, 46, 42⟩, ⟨0, 45, 52, 44⟩], ⟨0, 45, 58, 46⟩, [], kIS, htb.trans rfl, (List.forall_mem_cons.mpr ⟨⟨by decide, kIO, by decide +kernel, n2⟩, List.forall_mem_cons.mpr ⟨⟨by decide, kIA, by decide +kernel, n1⟩, fun z hz => absurd hz List.not_mem_nil⟩⟩), by decide, by decide, by decide +kernel, k2, rfl⟩, fun q => ?_⟩
      refine V_astore6 C dL_cell_58 (by decide) ?_
      refine V_sipush (v := (-900)) C dL_cell_60 (by decide) ?_
      exact V_iret C dL_cell_63 hr ⟨congrArg (fun c => some (Value.int c)) (an_x hE).symm, Z, ta, by rw [hX]; exact r, by rw [hX]; exact t, rfl, by rw [hX]; exact ffr.rf⟩ (by exact Nat.le_of_ble_eq_true rfl) (by exact Nat.le_of_ble_eq_true rfl)
  · obtain ⟨hE, rfl, Z2, ta2, r2, t2, z2, f2⟩ := hr9
    refine V_goto (tgt := 45) C dL_cell_32 (by decide) ?_
    exact V_iret C dL_cell_45 hr ⟨congrArg (fun c => some (Value.int c)) (an_n hE).symm, Z2, ta2, r2, t2, z2, f2⟩ (by exact Nat.le_of_ble_eq_true rfl) (by exact Nat.le_of_ble_eq_true rfl)
set_option maxHeartbeats 4000000 in
set_option maxRecDepth 100000 in
theorem w_ofCell (hlt : l.stackTraces = false) (r : XR cA Z X ta h) (t : tyv Z X ta) (hI : CI M X) {a b c d : Int32} : Mc l D cA bs SZl yL_cell wsL_cell (rmk 10 4 30) [.ref (Z 0 0), .int 2, .int a, .int b, .int c, .int d] h (Wst cA Z X h (sp_ofCell X a b c d)) := by
  have hrow := r.row
  refine Mc_of (cc := cL_cell) (maxL := 7) (ret := (some .int)) (own := RL) [some (.ref (Z 0 0)), some (.int 2), some (.int a), some (.int b), some (.int c), some (.int d), none] rfl (by decide +kernel) rfl rfl (by exact Nat.le_of_ble_eq_true rfl) rfl ?_
  intro p9 e9 s9 m9 args9 below9 meth9 c9 C hr htb hz hsz
  obtain ⟨n1, n2, n3⟩ := hsz.2
  obtain ⟨k1, k2, k3⟩ := hsz.1.cast (args := args9)
  refine V_iload_n (i := 1) C dL_cell_0 rfl rfl ?_
  refine V_if_ne (tgt := 17) C dL_cell_1 (by decide) (fun _ => ?_) (fun z9 => absurd z9 (by decide))
  refine V_iload_n (i := 1) C dL_cell_17 rfl rfl ?_
  refine V_iconst (v := 1) C dL_cell_18 (by decide) ?_
  refine V_icmp_ne (tgt := 35) C dL_cell_19 (by decide) (fun _ => ?_) (fun z9 => absurd z9 (by decide))
  refine V_aload_n (i := 0) C dL_cell_35 rfl rfl ?_
  refine V_iload_n (i := 2) C dL_cell_36 rfl rfl ?_
  refine V_iload_n (i := 3) C dL_cell_37 rfl rfl ?_
  refine V_iload C dL_cell_38 rfl ?_
  refine V_iload C dL_cell_40 rfl ?_
  refine V_tcallV (n := 4) C (m_ofCell hlt r t hI) dL_cell_42 gL_cell_X4_ofCell rfl hrow rfl (by decide +kernel) rfl rfl (by exact Nat.le_of_ble_eq_true rfl) ⟨Nat.le_of_ble_eq_true rfl, Nat.le_of_ble_eq_true rfl⟩ ⟨Nat.le_of_ble_eq_true rfl, Nat.le_of_ble_eq_true rfl⟩ hz SZr.moves hsz.1 (fun E h2 hx => ?_) (fun v9 h9 hr9 => ?_)
  · obtain ⟨hE, z9⟩ := hx
    subst z9
    obtain ⟨hE2, hX⟩ := ex_ofCell hE
    rcases hE2 with rfl | rfl
    · refine ⟨46, ⟨[], ⟨0, 45, 46, 42⟩, [⟨0, 45, 52, 44⟩, ⟨0, 45, 58, 46⟩], kIO, htb.trans rfl, (fun z hz => absurd hz List.not_mem_nil), by decide, by decide, by decide +kernel, k3, rfl⟩, fun q => ?_⟩
      refine V_astore6 C dL_cell_46 (by decide) ?_
      refine V_sipush (v := (-900)) C dL_cell_48 (by decide) ?_
      exact V_iret C dL_cell_51 hr ⟨congrArg (fun c => some (Value.int c)) (an_x hE).symm, Z, ta, by rw [hX]; exact r, by rw [hX]; exact t, rfl, by rw [hX]; exact ffr.rf⟩ (by exact Nat.le_of_ble_eq_true rfl) (by exact Nat.le_of_ble_eq_true rfl)
    · refine ⟨52, ⟨[⟨0, 45, 46, 42⟩], ⟨0, 45, 52, 44⟩, [⟨0, 45, 58, 46⟩], kIA, htb.trans rfl, (fun z hz => by rw [List.mem_singleton] at hz; subst hz; exact ⟨by decide, kIO, by decide +kernel, n3⟩), by decide, by decide, by decide +kernel, k1, rfl⟩, fun q => ?_⟩
      refine V_astore6 C dL_cell_52 (by decide) ?_
      refine V_sipush (v := (-900)) C dL_cell_54 (by decide) ?_
      exact V_iret C dL_cell_57 hr ⟨congrArg (fun c => some (Value.int c)) (an_x hE).symm, Z, ta, by rw [hX]; exact r, by rw [hX]; exact t, rfl, by rw [hX]; exact ffr.rf⟩ (by exact Nat.le_of_ble_eq_true rfl) (by exact Nat.le_of_ble_eq_true rfl)
  · obtain ⟨hE, rfl, Z2, ta2, r2, t2, z2, f2⟩ := hr9
    exact V_iret C dL_cell_45 hr ⟨congrArg (fun c => some (Value.int c)) (an_n hE).symm, Z2, ta2, r2, t2, z2, f2⟩ (by exact Nat.le_of_ble_eq_true rfl) (by exact Nat.le_of_ble_eq_true rfl)
set_option maxHeartbeats 4000000 in
set_option maxRecDepth 100000 in
theorem w_aimAnew (hlt : l.stackTraces = false) (r : XR cA Z X ta h) (t : tyv Z X ta) (hI : CI M X) {a b c : Int32} : Mc l D cA bs SZl yL_aimAnew wsL_aimAnew (rmk 10 4 30) [.ref (Z 0 0), .int a, .int b, .int c] h (Wst cA Z X h (sp_aim X a b c)) := by
  have hrow := r.row
  refine Mc_of (cc := cL_aimAnew) (maxL := 5) (ret := (some .int)) (own := RL) [some (.ref (Z 0 0)), some (.int a), some (.int b), some (.int c), none] rfl (by decide +kernel) rfl rfl (by exact Nat.le_of_ble_eq_true rfl) rfl ?_
  intro p9 e9 s9 m9 args9 below9 meth9 c9 C hr htb hz hsz
  obtain ⟨n1, n2, n3⟩ := hsz.2
  obtain ⟨k1, k2, k3⟩ := hsz.1.cast (args := args9)
  refine V_aload_n (i := 0) C dL_aimAnew_0 rfl rfl ?_
  refine V_iload_n (i := 1) C dL_aimAnew_1 rfl rfl ?_
  refine V_iload_n (i := 2) C dL_aimAnew_2 rfl rfl ?_
  refine V_iload_n (i := 3) C dL_aimAnew_3 rfl rfl ?_
  refine V_tcallV (n := 3) C (m_aim hlt r t hI) dL_aimAnew_4 gL_aimAnew_X4_aimAnew rfl hrow rfl (by decide +kernel) rfl rfl (by exact Nat.le_of_ble_eq_true rfl) ⟨Nat.le_of_ble_eq_true rfl, Nat.le_of_ble_eq_true rfl⟩ ⟨Nat.le_of_ble_eq_true rfl, Nat.le_of_ble_eq_true rfl⟩ hz SZr.moves hsz.1 (fun E h2 hx => ?_) (fun v9 h9 hr9 => ?_)
  · obtain ⟨hE, z9⟩ := hx
    subst z9
    obtain ⟨hE2, hX⟩ := ex_aimAnew hE
    subst hE2
    refine ⟨8, ⟨[], ⟨0, 7, 8, 42⟩, [], kIO, htb.trans rfl, (fun z hz => absurd hz List.not_mem_nil), by decide, by decide, by decide +kernel, k3, rfl⟩, fun q => ?_⟩
    refine V_astore4 C dL_aimAnew_8 (by decide) ?_
    refine V_sipush (v := (-900)) C dL_aimAnew_10 (by decide) ?_
    exact V_iret C dL_aimAnew_13 hr ⟨congrArg (fun c => some (Value.int c)) (an_x hE).symm, Z, ta, by rw [hX]; exact r, by rw [hX]; exact t, rfl, by rw [hX]; exact ffr.rf⟩ (by exact Nat.le_of_ble_eq_true rfl) (by exact Nat.le_of_ble_eq_true rfl)
  · obtain ⟨hE, rfl, Z2, ta2, r2, t2, z2, f2⟩ := hr9
    exact V_iret C dL_aimAnew_7 hr ⟨congrArg (fun c => some (Value.int c)) (an_n hE).symm, Z2, ta2, r2, t2, z2, f2⟩ (by exact Nat.le_of_ble_eq_true rfl) (by exact Nat.le_of_ble_eq_true rfl)
theorem ta_comes (hlt : l.stackTraces = false) (t : TW cA q r A B h) {x y : Int32} : Mc l D cA bs SZl yL_does wsL_does (rmk 10 4 30) [.ref q, .int 0, .int x, .int y] h (fun v h2 => v = some (.int (an (sp_comes A x))) ∧ TW cA q r (sp_comes A x).2.2 B h2) := by
  obtain ⟨Za, ta, Zb, tb, ⟨rA, tA, rfl⟩, ⟨rB, tB, rfl⟩, hdj, jA, jB⟩ := t
  refine Mc_post (w_comes hlt rA tA jA.1) (fun v h2 z => ⟨z.1, ?_⟩)
  exact TW.a z rB tB hdj (i_comes jA) jB
theorem tb_comes (hlt : l.stackTraces = false) (t : TW cA q r A B h) {x y : Int32} : Mc l D cA bs SZl yL_does wsL_does (rmk 10 4 30) [.ref r, .int 0, .int x, .int y] h (fun v h2 => v = some (.int (an (sp_comes B x))) ∧ TW cA q r A (sp_comes B x).2.2 h2) := by
  obtain ⟨Za, ta, Zb, tb, ⟨rA, tA, rfl⟩, ⟨rB, tB, rfl⟩, hdj, jA, jB⟩ := t
  refine Mc_post (w_comes hlt rB tB jB.1) (fun v h2 z => ⟨z.1, ?_⟩)
  exact TW.b z rA tA hdj jA (i_comes jB)
theorem ta_fill (hlt : l.stackTraces = false) (t : TW cA q r A B h) {x y : Int32} : Mc l D cA bs SZl yL_does wsL_does (rmk 10 4 30) [.ref q, .int 1, .int x, .int y] h (fun v h2 => v = some (.int (an (sp_fill A x))) ∧ TW cA q r (sp_fill A x).2.2 B h2) := by
  obtain ⟨Za, ta, Zb, tb, ⟨rA, tA, rfl⟩, ⟨rB, tB, rfl⟩, hdj, jA, jB⟩ := t
  refine Mc_post (w_fill hlt rA tA jA.1) (fun v h2 z => ⟨z.1, ?_⟩)
  exact TW.a z rB tB hdj (i_fill jA) jB
theorem tb_fill (hlt : l.stackTraces = false) (t : TW cA q r A B h) {x y : Int32} : Mc l D cA bs SZl yL_does wsL_does (rmk 10 4 30) [.ref r, .int 1, .int x, .int y] h (fun v h2 => v = some (.int (an (sp_fill B x))) ∧ TW cA q r A (sp_fill B x).2.2 h2) := by
  obtain ⟨Za, ta, Zb, tb, ⟨rA, tA, rfl⟩, ⟨rB, tB, rfl⟩, hdj, jA, jB⟩ := t
  refine Mc_post (w_fill hlt rB tB jB.1) (fun v h2 z => ⟨z.1, ?_⟩)
  exact TW.b z rA tA hdj jA (i_fill jB)
theorem ta_design (hlt : l.stackTraces = false) (t : TW cA q r A B h) {x y : Int32} : Mc l D cA bs SZl yL_does wsL_does (rmk 10 4 30) [.ref q, .int 2, .int x, .int y] h (fun v h2 => v = some (.int (an (sp_design A x))) ∧ TW cA q r (sp_design A x).2.2 B h2) := by
  obtain ⟨Za, ta, Zb, tb, ⟨rA, tA, rfl⟩, ⟨rB, tB, rfl⟩, hdj, jA, jB⟩ := t
  refine Mc_post (w_design hlt rA tA jA.1) (fun v h2 z => ⟨z.1, ?_⟩)
  exact TW.a z rB tB hdj (i_design jA) jB
theorem tb_design (hlt : l.stackTraces = false) (t : TW cA q r A B h) {x y : Int32} : Mc l D cA bs SZl yL_does wsL_does (rmk 10 4 30) [.ref r, .int 2, .int x, .int y] h (fun v h2 => v = some (.int (an (sp_design B x))) ∧ TW cA q r A (sp_design B x).2.2 h2) := by
  obtain ⟨Za, ta, Zb, tb, ⟨rA, tA, rfl⟩, ⟨rB, tB, rfl⟩, hdj, jA, jB⟩ := t
  refine Mc_post (w_design hlt rB tB jB.1) (fun v h2 z => ⟨z.1, ?_⟩)
  exact TW.b z rA tA hdj jA (i_design jB)
theorem ta_edge (hlt : l.stackTraces = false) (t : TW cA q r A B h) {x y : Int32} : Mc l D cA bs SZl yL_does wsL_does (rmk 10 4 30) [.ref q, .int 6, .int x, .int y] h (fun v h2 => v = some (.int (an (sp_edge A x))) ∧ TW cA q r A B h2) := by
  obtain ⟨Za, ta, Zb, tb, ⟨rA, tA, rfl⟩, ⟨rB, tB, rfl⟩, hdj, jA, jB⟩ := t
  refine Mc_post (w_edge hlt rA tA jA) (fun v h2 z => ⟨z.1, ?_⟩)
  have k9 := TW.a z rB tB hdj (by rw [same_edge]; exact jA) jB
  rw [same_edge] at k9
  exact k9
theorem tb_edge (hlt : l.stackTraces = false) (t : TW cA q r A B h) {x y : Int32} : Mc l D cA bs SZl yL_does wsL_does (rmk 10 4 30) [.ref r, .int 6, .int x, .int y] h (fun v h2 => v = some (.int (an (sp_edge B x))) ∧ TW cA q r A B h2) := by
  obtain ⟨Za, ta, Zb, tb, ⟨rA, tA, rfl⟩, ⟨rB, tB, rfl⟩, hdj, jA, jB⟩ := t
  refine Mc_post (w_edge hlt rB tB jB) (fun v h2 z => ⟨z.1, ?_⟩)
  have k9 := TW.b z rA tA hdj jA (by rw [same_edge]; exact jB)
  rw [same_edge] at k9
  exact k9
theorem ta_ofLot (hlt : l.stackTraces = false) (t : TW cA q r A B h) {x y : Int32} : Mc l D cA bs SZl yL_does wsL_does (rmk 10 4 30) [.ref q, .int 7, .int x, .int y] h (fun v h2 => v = some (.int (an (sp_ofLot A x y))) ∧ TW cA q r A B h2) := by
  obtain ⟨Za, ta, Zb, tb, ⟨rA, tA, rfl⟩, ⟨rB, tB, rfl⟩, hdj, jA, jB⟩ := t
  refine Mc_post (w_ofLot hlt rA tA jA) (fun v h2 z => ⟨z.1, ?_⟩)
  have k9 := TW.a z rB tB hdj (by rw [same_ofLot]; exact jA) jB
  rw [same_ofLot] at k9
  exact k9
theorem tb_ofLot (hlt : l.stackTraces = false) (t : TW cA q r A B h) {x y : Int32} : Mc l D cA bs SZl yL_does wsL_does (rmk 10 4 30) [.ref r, .int 7, .int x, .int y] h (fun v h2 => v = some (.int (an (sp_ofLot B x y))) ∧ TW cA q r A B h2) := by
  obtain ⟨Za, ta, Zb, tb, ⟨rA, tA, rfl⟩, ⟨rB, tB, rfl⟩, hdj, jA, jB⟩ := t
  refine Mc_post (w_ofLot hlt rB tB jB) (fun v h2 z => ⟨z.1, ?_⟩)
  have k9 := TW.b z rA tA hdj jA (by rw [same_ofLot]; exact jB)
  rw [same_ofLot] at k9
  exact k9
theorem ta_lot (hlt : l.stackTraces = false) (t : TW cA q r A B h) {a b c d : Int32} (hd : d = 0 ∨ d = 1) : Mc l D cA bs SZl yL_adds wsL_adds (rmk 10 4 30) [.ref q, .int a, .int b, .int c, .int d] h (fun v h2 => v = some (.int (an (sp_lot A a b c d))) ∧ TW cA q r (sp_lot A a b c d).2.2 B h2) := by
  obtain ⟨Za, ta, Zb, tb, ⟨rA, tA, rfl⟩, ⟨rB, tB, rfl⟩, hdj, jA, jB⟩ := t
  refine Mc_post (w_lot hlt rA tA jA.1 hd) (fun v h2 z => ⟨z.1, ?_⟩)
  exact TW.a z rB tB hdj (i_lot jA hd) jB
theorem tb_lot (hlt : l.stackTraces = false) (t : TW cA q r A B h) {a b c d : Int32} (hd : d = 0 ∨ d = 1) : Mc l D cA bs SZl yL_adds wsL_adds (rmk 10 4 30) [.ref r, .int a, .int b, .int c, .int d] h (fun v h2 => v = some (.int (an (sp_lot B a b c d))) ∧ TW cA q r A (sp_lot B a b c d).2.2 h2) := by
  obtain ⟨Za, ta, Zb, tb, ⟨rA, tA, rfl⟩, ⟨rB, tB, rfl⟩, hdj, jA, jB⟩ := t
  refine Mc_post (w_lot hlt rB tB jB.1 hd) (fun v h2 z => ⟨z.1, ?_⟩)
  exact TW.b z rA tA hdj jA (i_lot jB hd)
theorem ta_picture (hlt : l.stackTraces = false) (t : TW cA q r A B h) {a b c : Int32} : Mc l D cA bs SZl yL_tells wsL_tells (rmk 10 75 800) [.ref q, .int 0, .int a, .int b, .int c] h (fun v h2 => v = some (.int (an (sp_picture A a b c))) ∧ TW cA q r (sp_picture A a b c).2.2 B h2) := by
  obtain ⟨Za, ta, Zb, tb, ⟨rA, tA, rfl⟩, ⟨rB, tB, rfl⟩, hdj, jA, jB⟩ := t
  refine Mc_post (w_picture hlt rA tA jA.1) (fun v h2 z => ⟨z.1, ?_⟩)
  exact TW.a z rB tB hdj (i_picture jA) jB
theorem tb_picture (hlt : l.stackTraces = false) (t : TW cA q r A B h) {a b c : Int32} : Mc l D cA bs SZl yL_tells wsL_tells (rmk 10 75 800) [.ref r, .int 0, .int a, .int b, .int c] h (fun v h2 => v = some (.int (an (sp_picture B a b c))) ∧ TW cA q r A (sp_picture B a b c).2.2 h2) := by
  obtain ⟨Za, ta, Zb, tb, ⟨rA, tA, rfl⟩, ⟨rB, tB, rfl⟩, hdj, jA, jB⟩ := t
  refine Mc_post (w_picture hlt rB tB jB.1) (fun v h2 z => ⟨z.1, ?_⟩)
  exact TW.b z rA tA hdj jA (i_picture jB)
theorem ta_share (hlt : l.stackTraces = false) (t : TW cA q r A B h) {a b c : Int32} : Mc l D cA bs SZl yL_tells wsL_tells (rmk 10 4 30) [.ref q, .int 1, .int a, .int b, .int c] h (fun v h2 => v = some (.int (an (sp_share A a b c))) ∧ TW cA q r (sp_share A a b c).2.2 B h2) := by
  obtain ⟨Za, ta, Zb, tb, ⟨rA, tA, rfl⟩, ⟨rB, tB, rfl⟩, hdj, jA, jB⟩ := t
  refine Mc_post (w_share hlt rA tA jA.1) (fun v h2 z => ⟨z.1, ?_⟩)
  exact TW.a z rB tB hdj (i_share jA) jB
theorem tb_share (hlt : l.stackTraces = false) (t : TW cA q r A B h) {a b c : Int32} : Mc l D cA bs SZl yL_tells wsL_tells (rmk 10 4 30) [.ref r, .int 1, .int a, .int b, .int c] h (fun v h2 => v = some (.int (an (sp_share B a b c))) ∧ TW cA q r A (sp_share B a b c).2.2 h2) := by
  obtain ⟨Za, ta, Zb, tb, ⟨rA, tA, rfl⟩, ⟨rB, tB, rfl⟩, hdj, jA, jB⟩ := t
  refine Mc_post (w_share hlt rB tB jB.1) (fun v h2 z => ⟨z.1, ?_⟩)
  exact TW.b z rA tA hdj jA (i_share jB)
theorem ta_cell (hlt : l.stackTraces = false) (t : TW cA q r A B h) {a b c d : Int32} : Mc l D cA bs SZl yL_cell wsL_cell (rmk 10 4 30) [.ref q, .int 0, .int a, .int b, .int c, .int d] h (fun v h2 => v = some (.int (an (sp_cell A a b c d))) ∧ TW cA q r (sp_cell A a b c d).2.2 B h2) := by
  obtain ⟨Za, ta, Zb, tb, ⟨rA, tA, rfl⟩, ⟨rB, tB, rfl⟩, hdj, jA, jB⟩ := t
  refine Mc_post (w_cell hlt rA tA jA.1) (fun v h2 z => ⟨z.1, ?_⟩)
  exact TW.a z rB tB hdj (i_cell jA) jB
theorem tb_cell (hlt : l.stackTraces = false) (t : TW cA q r A B h) {a b c d : Int32} : Mc l D cA bs SZl yL_cell wsL_cell (rmk 10 4 30) [.ref r, .int 0, .int a, .int b, .int c, .int d] h (fun v h2 => v = some (.int (an (sp_cell B a b c d))) ∧ TW cA q r A (sp_cell B a b c d).2.2 h2) := by
  obtain ⟨Za, ta, Zb, tb, ⟨rA, tA, rfl⟩, ⟨rB, tB, rfl⟩, hdj, jA, jB⟩ := t
  refine Mc_post (w_cell hlt rB tB jB.1) (fun v h2 z => ⟨z.1, ?_⟩)
  exact TW.b z rA tA hdj jA (i_cell jB)
theorem ta_old (hlt : l.stackTraces = false) (t : TW cA q r A B h) {a b c d : Int32} : Mc l D cA bs SZl yL_cell wsL_cell (rmk 10 4 30) [.ref q, .int 1, .int a, .int b, .int c, .int d] h (fun v h2 => v = some (.int (an (sp_old A a b c d))) ∧ TW cA q r (sp_old A a b c d).2.2 B h2) := by
  obtain ⟨Za, ta, Zb, tb, ⟨rA, tA, rfl⟩, ⟨rB, tB, rfl⟩, hdj, jA, jB⟩ := t
  refine Mc_post (w_old hlt rA tA jA.1) (fun v h2 z => ⟨z.1, ?_⟩)
  exact TW.a z rB tB hdj (i_old jA) jB
theorem tb_old (hlt : l.stackTraces = false) (t : TW cA q r A B h) {a b c d : Int32} : Mc l D cA bs SZl yL_cell wsL_cell (rmk 10 4 30) [.ref r, .int 1, .int a, .int b, .int c, .int d] h (fun v h2 => v = some (.int (an (sp_old B a b c d))) ∧ TW cA q r A (sp_old B a b c d).2.2 h2) := by
  obtain ⟨Za, ta, Zb, tb, ⟨rA, tA, rfl⟩, ⟨rB, tB, rfl⟩, hdj, jA, jB⟩ := t
  refine Mc_post (w_old hlt rB tB jB.1) (fun v h2 z => ⟨z.1, ?_⟩)
  exact TW.b z rA tA hdj jA (i_old jB)
theorem ta_ofCell (hlt : l.stackTraces = false) (t : TW cA q r A B h) {a b c d : Int32} : Mc l D cA bs SZl yL_cell wsL_cell (rmk 10 4 30) [.ref q, .int 2, .int a, .int b, .int c, .int d] h (fun v h2 => v = some (.int (an (sp_ofCell A a b c d))) ∧ TW cA q r A B h2) := by
  obtain ⟨Za, ta, Zb, tb, ⟨rA, tA, rfl⟩, ⟨rB, tB, rfl⟩, hdj, jA, jB⟩ := t
  refine Mc_post (w_ofCell hlt rA tA jA) (fun v h2 z => ⟨z.1, ?_⟩)
  have k9 := TW.a z rB tB hdj (by rw [same_ofCell]; exact jA) jB
  rw [same_ofCell] at k9
  exact k9
theorem tb_ofCell (hlt : l.stackTraces = false) (t : TW cA q r A B h) {a b c d : Int32} : Mc l D cA bs SZl yL_cell wsL_cell (rmk 10 4 30) [.ref r, .int 2, .int a, .int b, .int c, .int d] h (fun v h2 => v = some (.int (an (sp_ofCell B a b c d))) ∧ TW cA q r A B h2) := by
  obtain ⟨Za, ta, Zb, tb, ⟨rA, tA, rfl⟩, ⟨rB, tB, rfl⟩, hdj, jA, jB⟩ := t
  refine Mc_post (w_ofCell hlt rB tB jB) (fun v h2 z => ⟨z.1, ?_⟩)
  have k9 := TW.b z rA tA hdj jA (by rw [same_ofCell]; exact jB)
  rw [same_ofCell] at k9
  exact k9
theorem ta_aimAnew (hlt : l.stackTraces = false) (t : TW cA q r A B h) {a b c : Int32} : Mc l D cA bs SZl yL_aimAnew wsL_aimAnew (rmk 10 4 30) [.ref q, .int a, .int b, .int c] h (fun v h2 => v = some (.int (an (sp_aim A a b c))) ∧ TW cA q r (sp_aim A a b c).2.2 B h2) := by
  obtain ⟨Za, ta, Zb, tb, ⟨rA, tA, rfl⟩, ⟨rB, tB, rfl⟩, hdj, jA, jB⟩ := t
  refine Mc_post (w_aimAnew hlt rA tA jA) (fun v h2 z => ⟨z.1, ?_⟩)
  exact TW.a z rB tB hdj (i_aim jA) jB
theorem tb_aimAnew (hlt : l.stackTraces = false) (t : TW cA q r A B h) {a b c : Int32} : Mc l D cA bs SZl yL_aimAnew wsL_aimAnew (rmk 10 4 30) [.ref r, .int a, .int b, .int c] h (fun v h2 => v = some (.int (an (sp_aim B a b c))) ∧ TW cA q r A (sp_aim B a b c).2.2 h2) := by
  obtain ⟨Za, ta, Zb, tb, ⟨rA, tA, rfl⟩, ⟨rB, tB, rfl⟩, hdj, jA, jB⟩ := t
  refine Mc_post (w_aimAnew hlt rB tB jB) (fun v h2 z => ⟨z.1, ?_⟩)
  exact TW.b z rA tA hdj jA (i_aim jB)
end WRAP
