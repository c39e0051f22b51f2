/-! the law's loop -/
theorem and31 (x : Int32) : ∃ m, m < 32 ∧ x &&& 31 = nI m := by
  refine ⟨x.toBitVec.toNat % 32, Nat.mod_lt _ (by decide), ?_⟩
  apply Int32.toBitVec_inj.mp
  show x.toBitVec &&& 31#32 = (Int32.ofNat (x.toBitVec.toNat % 32)).toBitVec
  apply BitVec.eq_of_toNat_eq
  rw [BitVec.toNat_and, show (31#32).toNat = 2 ^ 5 - 1 from rfl, Nat.and_two_pow_sub_one_eq_mod]
  show _ = (x.toBitVec.toNat % 32) % 2 ^ 32
  omega
theorem XR.new {cA : Nat → ClassId} {Z : Nat → Nat → Nat} {X : XS} {ta : Nat → Nat → Option Nat} {h : hE} (r : XR cA Z X ta h) {q : Nat} (hq : h q = none) (e : va_E) : XR cA Z X ta (hset h q e) := ⟨fun a i hv => hset_ne (r.1 a i hv) hq, r.2⟩
theorem XR.more {cA : Nat → ClassId} {Z : Nat → Nat → Nat} {X : XS} {ta : Nat → Nat → Option Nat} {h h2 : hE} (r : XR cA Z X ta h) {q : Nat} {e : va_E} (hq : h q = none) (k : hmore (hset h q e) h2 q) : XR cA Z X ta h2 := ⟨fun a i hv => k _ _ (hset_ne (r.1 a i hv) hq) (fun z => by
  have := r.1 a i hv
  rw [z, hq] at this
  cases this), r.2⟩
theorem MR.new {cA : Nat → ClassId} {A : Nat → Nat} {I : MI} {F : MF} {n : MN} {h : hE} (r : MR cA A I F n h) {q : Nat} (hq : h q = none) (e : va_E) : MR cA A I F n (hset h q e) := ⟨fun j hv => hset_ne (r.1 j hv) hq, r.2⟩
theorem tyv00 {Z : Nat → Nat → Nat} {ta : Nat → Nat → Option Nat} : tyv Z X00 ta := fun c _ => ⟨Nat.zero_le _, fun b hb => absurd hb List.not_mem_nil, fun i b hb => by cases hb⟩
theorem CI00 : CI 0 X00 := ⟨⟨⟨Nat.zero_le _, Nat.zero_le _, fun p hp => absurd hp (Nat.not_lt_zero p)⟩, fun p hp => absurd hp (Nat.not_lt_zero p), fun c _ p hp => by cases hp⟩, fun p hp => absurd hp (Nat.not_lt_zero p), fun j hj => absurd hj (Nat.not_lt_zero j), fun c _ => ⟨1, by decide, rfl⟩, 0, Nat.le_refl _, rfl⟩
theorem wiL_law_X4 : ∀ w ∈ u_ws RX4 TX4 6, w ∈ wsL_law := inlX4
theorem wiL_law_X5 : ∀ w ∈ u_ws RX5 TX5 26, w ∈ wsL_law := inlX5
section LAWV
variable {l : Launch} {D : va_G} {cA : Nat → ClassId} {bs : Nat} {h : hE} {x mm o b L : Nat} {xs : Nat → Int32}
variable {p9 : Program} {e9 : Env} {s9 : State} {m9 : MethodId} {args9 : Array Value} {below9 : List Frame} {meth9 : Method} {c9 : Code} {Q : State → Prop}
theorem five_lt {k n : Nat} (hL : L ≤ 2560) (hn : n = L / 5) (hk : k < n) : ¬ nI L - 5 < nI (5 * k) := by
  obtain ⟨v, rfl⟩ : ∃ v, L = v + 5 := ⟨L - 5, by omega⟩
  rw [show nI (v + 5) = nI v + 5 by rw [show (5 : Int32) = nI 5 from rfl, nI_add], Int32.add_sub_cancel]
  exact nI_nlt (by omega) (by omega)
theorem five_ge {n : Nat} (hL : L ≤ 2560) (hn : n = L / 5) : nI L - 5 < nI (5 * n) := by
  rcases Nat.lt_or_ge L 5 with z | z
  · have : n = 0 := by omega
    subst this
    rcases (by omega : L = 0 ∨ L = 1 ∨ L = 2 ∨ L = 3 ∨ L = 4) with rfl | rfl | rfl | rfl | rfl <;> decide
  · obtain ⟨v, rfl⟩ : ∃ v, L = v + 5 := ⟨L - 5, by omega⟩
    rw [show nI (v + 5) = nI v + 5 by rw [show (5 : Int32) = nI 5 from rfl, nI_add], Int32.add_sub_cancel]
    exact nI_lt (by omega) (by omega)
set_option maxHeartbeats 4000000 in
set_option maxRecDepth 100000 in
theorem law_loop (C : Cx p9 s9 m9 meth9 c9 cL_law 7 args9 wsL_law RL D cA bs) (hlt : l.stackTraces = false) (hz : hZ bs s9 s9.heap) (hsz : SZl s9) (hX : va_X b L xs s9 s9.heap) (hbl : b < s9.heap.size) (hbA : ¬ bs ≤ b) (hL : L ≤ 2560) (hw : LW cA x mm o 0 X00 0 h) (kend : ∀ h2 ls2, V p9 l e9 room_1 s9 m9 args9 below9 meth9 c9 D bs 7 h2 601024 7293034 Q 1550 ls2 []) :
    V p9 l e9 room_1 s9 m9 args9 below9 meth9 c9 D bs 7 h 34 2267 Q 23 [some (.ref b), some (.ref x), some (.ref mm), some (.ref o), some (.int (nI (5 * 0))), none, none] [] := by
  obtain ⟨n, hn⟩ : ∃ n, n = L / 5 := ⟨_, rfl⟩
  refine V_wid (k2 := 34 + 80 * 0) (n2 := 2267 + 900 * 0) (by decide) (by decide) ?_
  refine V_forC (fun i => 34 + 80 * i) (fun i => 2267 + 900 * i) n (fun i h4 ls4 => (∃ X th, LW cA x mm o (100 * i) X th h4) ∧ ls4 = [some (.ref b), some (.ref x), some (.ref mm), some (.ref o), some (.int (nI (5 * i))), none, none]) ?_ ?_ 0 (Nat.zero_le _) ⟨⟨X00, 0, hw⟩, rfl⟩
  · rintro i h4 ls4 hi ⟨⟨X, th, hw4⟩, rfl⟩ ih
    have hnext : ∀ h2 X2 th2, LW cA x mm o (100 * i + 100) X2 th2 h2 → V p9 l e9 room_1 s9 m9 args9 below9 meth9 c9 D bs 7 h2 (34 + 80 * i + 80) (2267 + 900 * i + 900) Q 1544 [some (.ref b), some (.ref x), some (.ref mm), some (.ref o), some (.int (nI (5 * i))), none, none] [] := by
      intro h2 X2 th2 hw2
      refine V_iinc4 (v := nI (5 * (i + 1))) C dL_law_1544 ((show nI (5 * i) + 5 = nI (5 * (i + 1)) by rw [show (5 : Int32) = nI 5 from rfl, nI_add]; congr 1)) (by decide) ?_
      refine V_goto (tgt := 23) C dL_law_1547 (by decide) ?_
      exact V_wid (k2 := 34 + 80 * (i + 1)) (n2 := 2267 + 900 * (i + 1)) (by omega) (by omega) (ih _ _ ⟨⟨X2, th2, by rw [show 100 * (i + 1) = 100 * i + 100 by omega]; exact hw2⟩, rfl⟩)
    obtain ⟨m, hm, em⟩ := and31 (xs (5 * i))
    show V p9 l e9 room_1 s9 m9 args9 below9 meth9 c9 D bs 7 h4 (34 + 80 * i) (2267 + 900 * i) Q 23 _ []
    refine V_iload C dL_law_23 rfl ?_
    refine V_aload_n (i := 0) C dL_law_25 rfl rfl ?_
    refine V_slen C hX hbl hbA dL_law_26 ?_
    refine V_iconst (v := 5) C dL_law_27 (by decide) ?_
    refine V_isub C dL_law_28 ?_
    refine V_icmp_gt (tgt := 1550) C dL_law_29 (by decide) (fun z9 => absurd z9 (five_lt hL hn hi)) (fun _ => ?_)
    refine V_aload_n (i := 0) C dL_law_32 rfl rfl ?_
    refine V_iload C dL_law_33 rfl ?_
    refine V_scr C hX hbl hbA dL_law_35 rfl (by omega) hL rfl ?_
    refine V_bipush (v := 31) C dL_law_36 (by decide) ?_
    refine V_iand C dL_law_38 ?_
    rw [em]
    rcases (by omega : m = 0 ∨ m = 1 ∨ m = 2 ∨ m = 3 ∨ m = 4 ∨ m = 5 ∨ m = 6 ∨ m = 7 ∨ m = 8 ∨ m = 9 ∨ m = 10 ∨ m = 11 ∨ m = 12 ∨ m = 13 ∨ m = 14 ∨ m = 15 ∨ m = 16 ∨ m = 17 ∨ m = 18 ∨ m = 19 ∨ 20 ≤ m) with rfl | rfl | rfl | rfl | rfl | rfl | rfl | rfl | rfl | rfl | rfl | rfl | rfl | rfl | rfl | rfl | rfl | rfl | rfl | rfl | h20
    · exact V_tableIn (off := 93) (tgt := 132) C dL_law_39 (by decide +kernel) (by decide +kernel) (by decide +kernel) (by decide +kernel) (lc_lot C hlt hz hsz hX hbl hbA hL (by omega) (by omega) (by omega) hw4 (by omega) hnext)
    · exact V_tableIn (off := 201) (tgt := 240) C dL_law_39 (by decide +kernel) (by decide +kernel) (by decide +kernel) (by decide +kernel) (lc_comes C hlt hz hsz hX hbl hbA hL (by omega) (by omega) (by omega) hw4 (by omega) hnext)
    · exact V_tableIn (off := 257) (tgt := 296) C dL_law_39 (by decide +kernel) (by decide +kernel) (by decide +kernel) (by decide +kernel) (lc_picture C hlt hz hsz hX hbl hbA hL (by omega) (by omega) (by omega) hw4 (by omega) hnext)
    · exact V_tableIn (off := 337) (tgt := 376) C dL_law_39 (by decide +kernel) (by decide +kernel) (by decide +kernel) (by decide +kernel) (lc_cell C hlt hz hsz hX hbl hbA hL (by omega) (by omega) (by omega) hw4 (by omega) hnext)
    · exact V_tableIn (off := 429) (tgt := 468) C dL_law_39 (by decide +kernel) (by decide +kernel) (by decide +kernel) (by decide +kernel) (lc_old C hlt hz hsz hX hbl hbA hL (by omega) (by omega) (by omega) hw4 (by omega) hnext)
    · exact V_tableIn (off := 521) (tgt := 560) C dL_law_39 (by decide +kernel) (by decide +kernel) (by decide +kernel) (by decide +kernel) (lc_fill C hlt hz hsz hX hbl hbA hL (by omega) (by omega) (by omega) hw4 (by omega) hnext)
    · exact V_tableIn (off := 577) (tgt := 616) C dL_law_39 (by decide +kernel) (by decide +kernel) (by decide +kernel) (by decide +kernel) (lc_design C hlt hz hsz hX hbl hbA hL (by omega) (by omega) (by omega) hw4 (by omega) hnext)
    · exact V_tableIn (off := 633) (tgt := 672) C dL_law_39 (by decide +kernel) (by decide +kernel) (by decide +kernel) (by decide +kernel) (lc_share C hlt hz hsz hX hbl hbA hL (by omega) (by omega) (by omega) hw4 (by omega) hnext)
    · exact V_tableIn (off := 713) (tgt := 752) C dL_law_39 (by decide +kernel) (by decide +kernel) (by decide +kernel) (by decide +kernel) (lc_send C hlt hz hsz hX hbl hbA hL (by omega) (by omega) (by omega) hw4 (by omega) hnext)
    · exact V_tableIn (off := 781) (tgt := 820) C dL_law_39 (by decide +kernel) (by decide +kernel) (by decide +kernel) (by decide +kernel) (lc_crew C hlt hz hsz hX hbl hbA hL (by omega) (by omega) (by omega) hw4 (by omega) hnext)
    · exact V_tableIn (off := 861) (tgt := 900) C dL_law_39 (by decide +kernel) (by decide +kernel) (by decide +kernel) (by decide +kernel) (lc_tray C hlt hz hsz hX hbl hbA hL (by omega) (by omega) (by omega) hw4 (by omega) hnext)
    · exact V_tableIn (off := 929) (tgt := 968) C dL_law_39 (by decide +kernel) (by decide +kernel) (by decide +kernel) (by decide +kernel) (lc_load C hlt hz hsz hX hbl hbA hL (by omega) (by omega) (by omega) hw4 (by omega) hnext)
    · exact V_tableIn (off := 1004) (tgt := 1043) C dL_law_39 (by decide +kernel) (by decide +kernel) (by decide +kernel) (by decide +kernel) (lc_pass C hlt hz hsz hX hbl hbA hL (by omega) (by omega) (by omega) hw4 (by omega) hnext)
    · exact V_tableIn (off := 1060) (tgt := 1099) C dL_law_39 (by decide +kernel) (by decide +kernel) (by decide +kernel) (by decide +kernel) (lc_hour C hlt hz hsz hX hbl hbA hL (by omega) (by omega) (by omega) hw4 (by omega) hnext)
    · exact V_tableIn (off := 1073) (tgt := 1112) C dL_law_39 (by decide +kernel) (by decide +kernel) (by decide +kernel) (by decide +kernel) (lc_ofCell C hlt hz hsz hX hbl hbA hL (by omega) (by omega) (by omega) hw4 (by omega) hnext)
    · exact V_tableIn (off := 1165) (tgt := 1204) C dL_law_39 (by decide +kernel) (by decide +kernel) (by decide +kernel) (by decide +kernel) (lc_aimAnew C hlt hz hsz hX hbl hbA hL (by omega) (by omega) (by omega) hw4 (by omega) hnext)
    · exact V_tableIn (off := 1245) (tgt := 1284) C dL_law_39 (by decide +kernel) (by decide +kernel) (by decide +kernel) (by decide +kernel) (lc_edge C hlt hz hsz hX hbl hbA hL (by omega) (by omega) (by omega) hw4 (by omega) hnext)
    · exact V_tableIn (off := 1301) (tgt := 1340) C dL_law_39 (by decide +kernel) (by decide +kernel) (by decide +kernel) (by decide +kernel) (lc_ofLot C hlt hz hsz hX hbl hbA hL (by omega) (by omega) (by omega) hw4 (by omega) hnext)
    · exact V_tableIn (off := 1369) (tgt := 1408) C dL_law_39 (by decide +kernel) (by decide +kernel) (by decide +kernel) (by decide +kernel) (lc_ofPicture C hlt hz hsz hX hbl hbA hL (by omega) (by omega) (by omega) hw4 (by omega) hnext)
    · exact V_tableIn (off := 1437) (tgt := 1476) C dL_law_39 (by decide +kernel) (by decide +kernel) (by decide +kernel) (by decide +kernel) (lc_ofCrew C hlt hz hsz hX hbl hbA hL (by omega) (by omega) (by omega) hw4 (by omega) hnext)
    · refine V_tableOut (tgt := 1544) C dL_law_39 (Or.inr ?_) (by decide +kernel) ?_
      · rw [nI_toInt (by omega)]
        omega
      · obtain ⟨Z, ta, f, A, r, t, hI, hmw, hz0, ha0, ho⟩ := hw4
        exact V_wid (k2 := 34 + 80 * i + 80) (n2 := 2267 + 900 * i + 900) (by omega) (by omega) (hnext h4 X th ⟨Z, ta, f, A, r, t, hI.mono (by omega), hmw, hz0, ha0, ho⟩)
  · rintro h4 ls4 ⟨⟨X, th, hw4⟩, rfl⟩
    show V p9 l e9 room_1 s9 m9 args9 below9 meth9 c9 D bs 7 h4 (34 + 80 * n) (2267 + 900 * n) Q 23 _ []
    refine V_iload C dL_law_23 rfl ?_
    refine V_aload_n (i := 0) C dL_law_25 rfl rfl ?_
    refine V_slen C hX hbl hbA dL_law_26 ?_
    refine V_iconst (v := 5) C dL_law_27 (by decide) ?_
    refine V_isub C dL_law_28 ?_
    refine V_icmp_gt (tgt := 1550) C dL_law_29 (by decide) (fun _ => ?_) (fun z9 => absurd (five_ge hL hn) z9)
    exact V_wid (k2 := 601024) (n2 := 7293034) (by omega) (by omega) (kend _ _)
set_option maxHeartbeats 4000000 in
set_option maxRecDepth 100000 in
theorem law_start (C : Cx p9 s9 m9 meth9 c9 cL_law 7 args9 wsL_law RL D cA bs) (hlt : l.stackTraces = false) (hz : hZ bs s9 s9.heap) (hszl : SZl s9) (hX : va_X b L xs s9 s9.heap) (hbl : b < s9.heap.size) (hbA : ¬ bs ≤ b) (hL : L ≤ 2560) (kend : ∀ h2 ls2, V p9 l e9 room_1 s9 m9 args9 below9 meth9 c9 D bs 7 h2 601024 7293034 Q 1550 ls2 []) :
    V p9 l e9 room_1 s9 m9 args9 below9 meth9 c9 D bs 7 h 0 0 Q 0 [some (.ref b), none, none, none, none, none, none] [] := by
  have hsz := hszl.1
  refine V_new (ci := 4) (CN := RX4) (T := TX4) (N := 6) (fs := [.null, .null, .null, .int 0, .int 0, .int 0]) C dL_law_0 rfl tyX4 tyX4_ok wiL_law_X4 (by decide +kernel) (by decide +kernel) (by decide +kernel) (by decide +kernel) (by exact Nat.le_of_ble_eq_true rfl) (by exact Nat.le_of_ble_eq_true rfl) (fun x9 hx9 bx9 => ?_)
  refine V_dup C dL_law_3 rfl ?_
  refine V_scallI (n := 0) C (c_Row_init (q := x9) (hset_s _ _ _)) dL_law_4 gL_law_X4_init rfl (by decide +kernel) (by decide +kernel) (by decide +kernel) rfl (by decide +kernel) rfl rfl (by exact Nat.le_of_ble_eq_true rfl) ⟨Nat.le_of_ble_eq_true rfl, Nat.le_of_ble_eq_true rfl⟩ ⟨Nat.le_of_ble_eq_true rfl, Nat.le_of_ble_eq_true rfl⟩ SZr.moves hsz (fun v9 h9 hr9 => ?_)
  obtain ⟨rfl, ⟨Z, ta, hZ0, r1⟩, k1⟩ := hr9
  refine V_astore1 C dL_law_7 (by decide) ?_
  refine V_new (ci := 5) (CN := RX5) (T := TX5) (N := 26) (fs := [.int 0, .int 0, .int 0, .null, .null, .null, .null, .null, .null, .int 0, .null, .null, .null, .null, .null, .null, .null, .null, .null, .null, .null, .null, .null, .null, .null, .null]) C dL_law_8 rfl tyX5 tyX5_ok wiL_law_X5 (by decide +kernel) (by decide +kernel) (by decide +kernel) (by decide +kernel) (by exact Nat.le_of_ble_eq_true rfl) (by exact Nat.le_of_ble_eq_true rfl) (fun y9 hy9 by9 => ?_)
  refine V_dup C dL_law_11 rfl ?_
  refine V_scallI (n := 0) C (r_init (q := y9) (hset_s _ _ _)) dL_law_12 gL_law_X5_init rfl (by decide +kernel) (by decide +kernel) (by decide +kernel) rfl (by decide +kernel) rfl rfl (by exact Nat.le_of_ble_eq_true rfl) ⟨Nat.le_of_ble_eq_true rfl, Nat.le_of_ble_eq_true rfl⟩ ⟨Nat.le_of_ble_eq_true rfl, Nat.le_of_ble_eq_true rfl⟩ SZr.moves hsz (fun v9 h9 hr9 => ?_)
  obtain ⟨rfl, ⟨A, hA0, I, F, rm, hP⟩, k2⟩ := hr9
  have r2 := r1.more hy9 k2
  refine V_astore2 C dL_law_15 (by decide) ?_
  refine V_iconst (v := 1) C dL_law_16 (by decide) ?_
  refine V_newa (atype := .long) (ty := .long) (t0 := 3) (N2 := 1) (a0 := (1, .inr (.inl (fun _ => 0)))) C dL_law_17 (by decide +kernel) rfl rfl (fun _ => rfl) (by decide) rfl (by exact Nat.le_of_ble_eq_true rfl) (by exact Nat.le_of_ble_eq_true rfl) (by exact Nat.le_of_ble_eq_true rfl) (fun o9 ho9 bo9 => ?_)
  have r3 := r2.new ho9 (lar (cA 3) (fun _ => 0))
  have rm3 := rm.new ho9 (lar (cA 3) (fun _ => 0))
  refine V_astore3 C dL_law_19 (by decide) ?_
  refine V_iconst (v := 0) C dL_law_20 (by decide) ?_
  refine V_istore4 C dL_law_21 (by decide) ?_
  exact V_wid (k2 := 34) (n2 := 2267) (by exact Nat.le_of_ble_eq_true rfl) (by exact Nat.le_of_ble_eq_true rfl) (law_loop C hlt hz hszl hX hbl hbA hL ⟨Z, ta, fun _ => 0, A, r3, tyv00, CI00, ⟨I, F, rm3, hP⟩, hZ0, hA0, hset_s _ _ _⟩ kend)
end LAWV
