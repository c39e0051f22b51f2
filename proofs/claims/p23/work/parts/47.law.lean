/-! the law's loops and its start -/
theorem XR.more {cA : Nat → ClassId} {Z : Nat → Nat → Nat} {X : XS} {ta : Nat → Nat → Option Nat} {h h2 : hE} (r : XR cA Z X ta h) {q : Nat} {e : va_E} (hq : h q = none) (k : hmore (hset h q e) h2 q) : XR cA Z X ta h2 := ⟨fun a i hv => k _ _ (hset_ne (r.1 a i hv) hq) (fun z => by
  have := r.1 a i hv
  rw [z, hq] at this
  cases this), r.2⟩
theorem tyv00 {Z : Nat → Nat → Nat} {ta : Nat → Nat → Option Nat} : tyv Z X00 ta := fun c _ => ⟨Nat.zero_le _, fun b hb => absurd hb List.not_mem_nil, fun i b hb => by cases hb⟩
theorem CI00 : CI 0 X00 := ⟨⟨⟨Nat.zero_le _, Nat.zero_le _, fun p hp => absurd hp (Nat.not_lt_zero p)⟩, fun p hp => absurd hp (Nat.not_lt_zero p), fun c _ p hp => by cases hp⟩, fun p hp => absurd hp (Nat.not_lt_zero p), fun j hj => absurd hj (Nat.not_lt_zero j), fun c _ => ⟨1, by decide, rfl⟩, 0, Nat.le_refl _, rfl⟩
theorem wiL_law_X4 : ∀ w ∈ u_ws RX4 TX4 6, w ∈ wsL_law := inlX4
theorem two_dj {h : hE} {y z z2 : Nat} {e f : va_E} (hy : h y = none) (hz : h z = some f) (hf : z2 = y ∨ hset h y e z2 = none) (he : z = z2) : False := by
  subst he
  rcases hf with rfl | hf
  · rw [hy] at hz
    cases hz
  · rw [hset_ne hz hy] at hf
    cases hf
section LAWV
variable {l : Launch} {D : va_G} {cA : Nat → ClassId} {bs : Nat} {A B : XS} {h : hE} {q r w g b L n : Nat} {xs : Nat → Int32}
variable {p9 : Program} {e9 : Env} {s9 : State} {m9 : MethodId} {args9 : Array Value} {below9 : List Frame} {meth9 : Method} {c9 : Code} {Q : State → Prop}
set_option maxHeartbeats 16000000 in
set_option maxRecDepth 100000 in
theorem law_loop (C : Cx p9 s9 m9 meth9 c9 cL_law 16 args9 wsL_law RL D cA bs) (hlt : l.stackTraces = false) (hz : hZ bs s9 s9.heap) (hsz : SZl s9) (hX : va_X b L xs s9 s9.heap) (hbl : b < s9.heap.size) (hbA : ¬ bs ≤ b) (hL : L ≤ 2560) (t : TW cA q r A B h) (hR : RW w g A B) (hn : xnl A = 0) (hw1 : 1 ≤ w) (hw : w ≤ 8) (hg1 : 1 ≤ g) (hg : g ≤ 8) (kend : ∀ h2 ls2, V p9 l e9 room_1 s9 m9 args9 below9 meth9 c9 D bs 16 h2 1200104 5501314 Q 698 ls2 [.int 1]) : V p9 l e9 room_1 s9 m9 args9 below9 meth9 c9 D bs 16 h 400 4000 Q 152 [some (.ref b), some (.ref q), some (.ref r), some (.int (nI w)), some (.int (nI g)), some (.int (nI 0)), some (.int 1), some (.int (nI 2)), none, none, none, none, none, none, none, none] [] := by
  refine V_wid (k2 := 400 + 4800 * 0) (n2 := 4000 + 36000 * 0) (by decide) (by decide) ?_
  refine V_forC (fun i => 400 + 4800 * i) (fun i => 4000 + 36000 * i) 42 (fun i h4 ls4 => ∃ A2 B2 n2, TW cA q r A2 B2 h4 ∧ RW w g A2 B2 ∧ xnl A2 = n2 ∧ n2 ≤ 10 ∧ ls4 = [some (.ref b), some (.ref q), some (.ref r), some (.int (nI w)), some (.int (nI g)), some (.int (nI n2)), some (.int 1), some (.int (nI (i + 2))), none, none, none, none, none, none, none, none]) ?_ ?_ 0 (Nat.zero_le _) ⟨A, B, 0, t, hR, hn, by decide, rfl⟩
  · rintro i h4 ls4 hi ⟨A2, B2, n2, t4, hR4, hn4, hn10, rfl⟩ ih
    exact ca_step C hlt hz hsz t4 hR4 hn4 hn10 hw1 hw hg1 hg hX hbl hbA hL (k := i + 2) (by omega) (by omega) (by omega) (fun h2 A3 B3 n3 u1 u2 u3 u4 => V_wid (k2 := 400 + 4800 * (i + 1)) (n2 := 4000 + 36000 * (i + 1)) (by omega) (by omega) (ih _ _ ⟨A3, B3, n3, u1, u2, u3, u4, rfl⟩))
  · rintro h4 ls4 ⟨A2, B2, n2, t4, hR4, hn4, hn10, rfl⟩
    refine V_iload C dL_law_152 rfl ?_
    refine V_bipush (v := 44) C dL_law_154 (by decide) ?_
    refine V_icmp_ge (tgt := 696) C dL_law_156 (by decide) (fun _ => ?_) (fun z9 => absurd (nI_le (a := 44) (b := 42 + 2) (by decide) (by decide)) z9)
    refine V_iload C dL_law_696 rfl ?_
    exact V_wid (k2 := 1200104) (n2 := 5501314) (by decide) (by decide) (kend _ _)
set_option maxHeartbeats 16000000 in
set_option maxRecDepth 100000 in
theorem law_old (C : Cx p9 s9 m9 meth9 c9 cL_law 16 args9 wsL_law RL D cA bs) (hlt : l.stackTraces = false) (hz : hZ bs s9 s9.heap) (hsz : SZl s9) (hX : va_X b L xs s9 s9.heap) (hbl : b < s9.heap.size) (hbA : ¬ bs ≤ b) (hL : L ≤ 2560) (t : TW cA q r A B h) (hR : RW w g A B) (ho : OL 0 A) (hn : xnl A = 0) (hw1 : 1 ≤ w) (hw : w ≤ 8) (hg1 : 1 ≤ g) (hg : g ≤ 8) (kend : ∀ h2 ls2, V p9 l e9 room_1 s9 m9 args9 below9 meth9 c9 D bs 16 h2 1200104 5501314 Q 698 ls2 [.int 1]) : V p9 l e9 room_1 s9 m9 args9 below9 meth9 c9 D bs 16 h 300 3000 Q 105 [some (.ref b), some (.ref q), some (.ref r), some (.int (nI w)), some (.int (nI g)), some (.int (nI 0)), some (.int 1), some (.int (nI 0)), none, none, none, none, none, none, none, none] [] := by
  refine V_wid (k2 := 300 + 4 * 0) (n2 := 3000 + 30 * 0) (by decide) (by decide) ?_
  refine V_forC (fun i => 300 + 4 * i) (fun i => 3000 + 30 * i) 8 (fun i h4 ls4 => (∃ A2, TW cA q r A2 B h4 ∧ RW w g A2 B ∧ OL i A2 ∧ xnl A2 = 0) ∧ ls4 = [some (.ref b), some (.ref q), some (.ref r), some (.int (nI w)), some (.int (nI g)), some (.int (nI 0)), some (.int 1), some (.int (nI i)), none, none, none, none, none, none, none, none]) ?_ ?_ 0 (Nat.zero_le _) ⟨⟨A, t, hR, ho, hn⟩, rfl⟩
  · rintro i h4 ls4 hi ⟨⟨A2, t4, hR4, ho4, hn4⟩, rfl⟩ ih
    have hd := hR4.diag hi ho4
    refine V_iload C dL_law_105 rfl ?_
    refine V_bipush (v := 8) C dL_law_107 (by decide) ?_
    refine V_icmp_ge (tgt := 149) C dL_law_109 (by decide) (fun z9 => absurd z9 (nI_ge (b := 8) hi (by decide))) (fun _ => ?_)
    refine V_iload C dL_law_112 rfl ?_
    refine V_if_eq (tgt := 140) C dL_law_114 (by decide) (fun z9 => absurd z9 (by decide)) (fun _ => ?_)
    refine V_aload_n (i := 1) C dL_law_117 rfl rfl ?_
    refine V_iconst (v := 1) C dL_law_118 (by decide) ?_
    refine V_iconst (v := 0) C dL_law_119 (by decide) ?_
    refine V_iload C dL_law_120 rfl ?_
    refine V_iload C dL_law_122 rfl ?_
    refine V_bipush (v := 9) C dL_law_124 (by decide) ?_
    refine V_ccallS (n := 6) C (ta_old hlt t4) dL_law_126 gL_law_L_cell rfl (by decide +kernel) rfl rfl (by exact Nat.le_of_ble_eq_true rfl) ⟨by dsimp only [rmk, room_1]; omega, by dsimp only [rmk, room_1]; omega⟩ ⟨Nat.le_of_ble_eq_true rfl, Nat.le_of_ble_eq_true rfl⟩ hz SZl.moves hsz (fun v9 h9 hr9 => ?_)
    obtain ⟨rfl, t5⟩ := hr9
    refine V_iload C dL_law_129 rfl ?_
    refine V_iconst (v := 1) C dL_law_131 (by decide) ?_
    refine V_iadd C dL_law_132 ?_
    rw [nI_1]
    refine V_icmp_ne (tgt := 140) C dL_law_133 (by decide) (fun z9 => absurd z9 (fun z => z hd.1)) (fun _ => ?_)
    refine V_iconst (v := 1) C dL_law_136 (by decide) ?_
    refine V_goto (tgt := 141) C dL_law_137 (by decide) ?_
    refine V_istore6 C dL_law_141 (by decide) ?_
    refine V_iinc7 (v := nI (i + 1)) C dL_law_143 (nI_1 _) (by decide) ?_
    refine V_goto (tgt := 105) C dL_law_146 (by decide) ?_
    exact V_wid (k2 := 300 + 4 * (i + 1)) (n2 := 3000 + 30 * (i + 1)) (by dsimp only [rmk]; omega) (by dsimp only [rmk]; omega) (ih _ _ ⟨⟨_, t5, hd.2.1, hd.2.2.1, hd.2.2.2.trans hn4⟩, rfl⟩)
  · rintro h4 ls4 ⟨⟨A2, t4, hR4, ho4, hn4⟩, rfl⟩
    refine V_iload C dL_law_105 rfl ?_
    refine V_bipush (v := 8) C dL_law_107 (by decide) ?_
    refine V_icmp_ge (tgt := 149) C dL_law_109 (by decide) (fun _ => ?_) (fun z9 => absurd (nI_le (a := 8) (b := 8) (Nat.le_refl _) (by decide)) z9)
    refine V_iconst (v := 2) C dL_law_149 (by decide) ?_
    refine V_istore7 C dL_law_150 (by decide) ?_
    exact V_wid (k2 := 400) (n2 := 4000) (by decide) (by decide) (law_loop C hlt hz hsz hX hbl hbA hL t4 hR4 hn4 hw1 hw hg1 hg kend)
set_option maxHeartbeats 16000000 in
set_option maxRecDepth 100000 in
theorem law_start (C : Cx p9 s9 m9 meth9 c9 cL_law 16 args9 wsL_law RL D cA bs) (hlt : l.stackTraces = false) (hz : hZ bs s9 s9.heap) (hsz : SZl s9) (hX : va_X b L xs s9 s9.heap) (hbl : b < s9.heap.size) (hbA : ¬ bs ≤ b) (hL : L ≤ 2560) (kend : ∀ h2 ls2, V p9 l e9 room_1 s9 m9 args9 below9 meth9 c9 D bs 16 h2 1200104 5501314 Q 698 ls2 [.int 1]) : V p9 l e9 room_1 s9 m9 args9 below9 meth9 c9 D bs 16 h 0 0 Q 0 [some (.ref b), none, none, none, none, none, none, none, none, none, none, none, none, none, none, none] [] := by
  have hszl := hsz
  have hsz := hsz.1
  refine V_new (ci := 4) (CN := RX4) (T := TX4) (N := 6) (fs := [.null, .null, .null, .int 0, .int 0, .int 0]) C dL_law_0 rfl tyX4 tyX4_ok wiL_law_X4 (by decide +kernel) (by decide +kernel) (by decide +kernel) (by decide +kernel) (by exact Nat.le_of_ble_eq_true rfl) (by exact Nat.le_of_ble_eq_true rfl) (fun x9 hx9 bx9 => ?_)
  refine V_dup C dL_law_3 rfl ?_
  refine V_scallI (n := 0) C (c_Row_init (q := x9) (hset_s _ _ _)) dL_law_4 gL_law_X4_init rfl (by decide +kernel) (by decide +kernel) (by decide +kernel) rfl (by decide +kernel) rfl rfl (by exact Nat.le_of_ble_eq_true rfl) ⟨Nat.le_of_ble_eq_true rfl, Nat.le_of_ble_eq_true rfl⟩ ⟨Nat.le_of_ble_eq_true rfl, Nat.le_of_ble_eq_true rfl⟩ SZr.moves hsz (fun v9 h9 hr9 => ?_)
  obtain ⟨rfl, ⟨Z, ta, hZ0, r1, fr1⟩, k1⟩ := hr9
  refine V_astore1 C dL_law_7 (by decide) ?_
  refine V_new (ci := 4) (CN := RX4) (T := TX4) (N := 6) (fs := [.null, .null, .null, .int 0, .int 0, .int 0]) C dL_law_8 rfl tyX4 tyX4_ok wiL_law_X4 (by decide +kernel) (by decide +kernel) (by decide +kernel) (by decide +kernel) (by exact Nat.le_of_ble_eq_true rfl) (by exact Nat.le_of_ble_eq_true rfl) (fun y9 hy9 by9 => ?_)
  refine V_dup C dL_law_11 rfl ?_
  refine V_scallI (n := 0) C (c_Row_init (q := y9) (hset_s _ _ _)) dL_law_12 gL_law_X4_init rfl (by decide +kernel) (by decide +kernel) (by decide +kernel) rfl (by decide +kernel) rfl rfl (by exact Nat.le_of_ble_eq_true rfl) ⟨Nat.le_of_ble_eq_true rfl, Nat.le_of_ble_eq_true rfl⟩ ⟨Nat.le_of_ble_eq_true rfl, Nat.le_of_ble_eq_true rfl⟩ SZr.moves hsz (fun v9 h9 hr9 => ?_)
  obtain ⟨rfl, ⟨Z2, ta2, hZ2, r2, fr2⟩, k2⟩ := hr9
  have rA := r1.more hy9 k2
  have hdj : ∀ a i b j, xvd X00 a i → xvd X00 b j → Z a i ≠ Z2 b j := fun a i b j ha hb z => two_dj hy9 (r1.1 a i ha) (fr2 b j hb) z
  have t0 : TW cA x9 y9 X00 X00 _ := ⟨Z, ta, Z2, ta2, ⟨rA, tyv00, hZ0⟩, ⟨r2, tyv00, hZ2⟩, hdj, CI00, CI00⟩
  have hsz := hszl
  refine V_astore2 C dL_law_15 (by decide) ?_
  refine V_iconst (v := 1) C dL_law_16 (by decide) ?_
  refine V_aload_n (i := 0) C dL_law_17 rfl rfl ?_
  refine V_iconst (v := 0) C dL_law_18 (by decide) ?_
  refine V_dcallS (n := 2) C (w_drawn hL (k := 0) (by decide)) dL_law_19 gL_law_L_drawn rfl (by decide +kernel) rfl rfl (by exact Nat.le_of_ble_eq_true rfl) ⟨Nat.le_of_ble_eq_true rfl, Nat.le_of_ble_eq_true rfl⟩ ⟨Nat.le_of_ble_eq_true rfl, Nat.le_of_ble_eq_true rfl⟩ hX hbl hbA (fun v9 h9 hr9 => ?_)
  obtain ⟨⟨m1, hm1, rfl⟩, em1⟩ := hr9
  subst em1
  refine V_bipush (v := 8) C dL_law_22 (by decide) ?_
  refine V_irem C dL_law_24 (by decide) ?_
  rw [show nI (m1) - nI (m1) / 8 * 8 = nI ((m1) % 8) from pk_rem (a := m1) (d := 8) (by omega) (by decide) (by decide)]
  refine V_iadd C dL_law_25 ?_
  rw [show (1 : Int32) + nI (m1 % 8) = nI (1 + m1 % 8) from nI_add 1 (m1 % 8)]
  refine V_istore3 C dL_law_26 (by decide) ?_
  refine V_iconst (v := 1) C dL_law_27 (by decide) ?_
  refine V_aload_n (i := 0) C dL_law_28 rfl rfl ?_
  refine V_iconst (v := 0) C dL_law_29 (by decide) ?_
  refine V_dcallS (n := 2) C (w_drawn hL (k := 0) (by decide)) dL_law_30 gL_law_L_drawn rfl (by decide +kernel) rfl rfl (by exact Nat.le_of_ble_eq_true rfl) ⟨Nat.le_of_ble_eq_true rfl, Nat.le_of_ble_eq_true rfl⟩ ⟨Nat.le_of_ble_eq_true rfl, Nat.le_of_ble_eq_true rfl⟩ hX hbl hbA (fun v9 h9 hr9 => ?_)
  obtain ⟨⟨m2, hm2, rfl⟩, em2⟩ := hr9
  subst em2
  refine V_bipush (v := 8) C dL_law_33 (by decide) ?_
  refine V_idiv C dL_law_35 (by decide) ?_
  rw [show nI (m2) / 8 = nI ((m2) / 8) from pk_div (a := m2) (d := 8) (by omega) (by decide) (by decide)]
  refine V_bipush (v := 8) C dL_law_36 (by decide) ?_
  refine V_irem C dL_law_38 (by decide) ?_
  rw [show nI (m2 / 8) - nI (m2 / 8) / 8 * 8 = nI ((m2 / 8) % 8) from pk_rem (a := m2 / 8) (d := 8) (by omega) (by decide) (by decide)]
  refine V_iadd C dL_law_39 ?_
  rw [show (1 : Int32) + nI (m2 / 8 % 8) = nI (1 + m2 / 8 % 8) from nI_add 1 (m2 / 8 % 8)]
  have hw1 : 1 ≤ 1 + m1 % 8 := by omega
  have hw : 1 + m1 % 8 ≤ 8 := by omega
  have hg1 : 1 ≤ 1 + m2 / 8 % 8 := by omega
  have hg : 1 + m2 / 8 % 8 ≤ 8 := by omega
  generalize 1 + m1 % 8 = w at hw1 hw ⊢
  generalize 1 + m2 / 8 % 8 = g at hg1 hg ⊢
  refine V_istore4 C dL_law_40 (by decide) ?_
  refine V_iconst (v := 0) C dL_law_42 (by decide) ?_
  refine V_istore5 C dL_law_43 (by decide) ?_
  refine V_aload_n (i := 1) C dL_law_45 rfl rfl ?_
  refine V_iconst (v := 0) C dL_law_46 (by decide) ?_
  refine V_bipush (v := 8) C dL_law_47 (by decide) ?_
  refine V_bipush (v := 8) C dL_law_49 (by decide) ?_
  refine V_aload_n (i := 0) C dL_law_51 rfl rfl ?_
  refine V_iconst (v := 1) C dL_law_52 (by decide) ?_
  refine V_dcallS (n := 2) C (w_drawn hL (k := 1) (by decide)) dL_law_53 gL_law_L_drawn rfl (by decide +kernel) rfl rfl (by exact Nat.le_of_ble_eq_true rfl) ⟨Nat.le_of_ble_eq_true rfl, Nat.le_of_ble_eq_true rfl⟩ ⟨Nat.le_of_ble_eq_true rfl, Nat.le_of_ble_eq_true rfl⟩ hX hbl hbA (fun v9 h9 hr9 => ?_)
  obtain ⟨⟨m3, hm3, rfl⟩, em3⟩ := hr9
  subst em3
  refine V_sipush (v := 256) C dL_law_56 (by decide) ?_
  refine V_irem C dL_law_59 (by decide) ?_
  rw [show nI (m3) - nI (m3) / 256 * 256 = nI ((m3) % 256) from pk_rem (a := m3) (d := 256) (by omega) (by decide) (by decide)]
  have h3 : m3 % 256 ≤ 255 := by omega
  generalize m3 % 256 = tn at h3 ⊢
  have p1 : sp_picture X00 8 8 (nI tn) = (none, nI 0, addP X00 8 8 (nI tn)) := st_pic (X := X00) (a := 8) (b := 8) (by decide) (by decide) (by decide) (by decide) h3 (by decide)
  have p2 : sp_picture (addP X00 8 8 (nI tn)) (nI w) (nI g) 128 = (none, nI 1, addP (addP X00 8 8 (nI tn)) w g 128) := st_pic (X := addP X00 8 8 (nI tn)) (t := 128) hw1 hw hg1 hg (by decide) (by show 1 < 5; decide)
  have p3 : sp_picture X00 (nI w) (nI g) 128 = (none, nI 0, addP X00 w g 128) := st_pic (X := X00) (t := 128) hw1 hw hg1 hg (by decide) (by decide)
  refine V_ccallS (n := 5) C (ta_picture hlt t0) dL_law_60 gL_law_L_tells rfl (by decide +kernel) rfl rfl (by exact Nat.le_of_ble_eq_true rfl) ⟨Nat.le_of_ble_eq_true rfl, Nat.le_of_ble_eq_true rfl⟩ ⟨Nat.le_of_ble_eq_true rfl, Nat.le_of_ble_eq_true rfl⟩ hz SZl.moves hsz (fun v9 h9 hr9 => ?_)
  obtain ⟨rfl, t1⟩ := hr9
  have e1 : an (sp_picture X00 8 8 (nI tn)) = 0 := by rw [p1]; rfl
  rw [p1] at t1
  refine V_if_ne (tgt := 99) C dL_law_63 (by decide) (fun z9 => absurd z9 (fun z => z e1)) (fun _ => ?_)
  refine V_aload_n (i := 1) C dL_law_66 rfl rfl ?_
  refine V_iconst (v := 0) C dL_law_67 (by decide) ?_
  refine V_iload_n (i := 3) C dL_law_68 rfl rfl ?_
  refine V_iload C dL_law_69 rfl ?_
  refine V_sipush (v := 128) C dL_law_71 (by decide) ?_
  refine V_ccallS (n := 5) C (ta_picture hlt t1) dL_law_74 gL_law_L_tells rfl (by decide +kernel) rfl rfl (by exact Nat.le_of_ble_eq_true rfl) ⟨Nat.le_of_ble_eq_true rfl, Nat.le_of_ble_eq_true rfl⟩ ⟨Nat.le_of_ble_eq_true rfl, Nat.le_of_ble_eq_true rfl⟩ hz SZl.moves hsz (fun v9 h9 hr9 => ?_)
  obtain ⟨rfl, t2⟩ := hr9
  have e2 : an (sp_picture (addP X00 8 8 (nI tn)) (nI w) (nI g) 128) = 1 := by rw [p2]; rfl
  have t2 : TW cA x9 y9 (sp_picture (addP X00 8 8 (nI tn)) (nI w) (nI g) 128).2.2 X00 _ := t2
  rw [p2] at t2
  refine V_iconst (v := 1) C dL_law_77 (by decide) ?_
  refine V_icmp_ne (tgt := 99) C dL_law_78 (by decide) (fun z9 => absurd z9 (fun z => z e2)) (fun _ => ?_)
  refine V_aload_n (i := 2) C dL_law_81 rfl rfl ?_
  refine V_iconst (v := 0) C dL_law_82 (by decide) ?_
  refine V_iload_n (i := 3) C dL_law_83 rfl rfl ?_
  refine V_iload C dL_law_84 rfl ?_
  refine V_sipush (v := 128) C dL_law_86 (by decide) ?_
  refine V_ccallS (n := 5) C (tb_picture hlt t2) dL_law_89 gL_law_L_tells rfl (by decide +kernel) rfl rfl (by exact Nat.le_of_ble_eq_true rfl) ⟨Nat.le_of_ble_eq_true rfl, Nat.le_of_ble_eq_true rfl⟩ ⟨Nat.le_of_ble_eq_true rfl, Nat.le_of_ble_eq_true rfl⟩ hz SZl.moves hsz (fun v9 h9 hr9 => ?_)
  obtain ⟨rfl, t3⟩ := hr9
  have e3 : an (sp_picture X00 (nI w) (nI g) 128) = 0 := by rw [p3]; rfl
  rw [p3] at t3
  refine V_if_ne (tgt := 99) C dL_law_92 (by decide) (fun z9 => absurd z9 (fun z => z e3)) (fun _ => ?_)
  refine V_iconst (v := 1) C dL_law_95 (by decide) ?_
  refine V_goto (tgt := 100) C dL_law_96 (by decide) ?_
  refine V_istore6 C dL_law_100 (by decide) ?_
  refine V_iconst (v := 0) C dL_law_102 (by decide) ?_
  refine V_istore7 C dL_law_103 (by decide) ?_
  obtain ⟨s1, s2, s3⟩ := RW.st (w := w) (g := g) (t := nI tn)
  exact V_wid (k2 := 300) (n2 := 3000) (by exact Nat.le_of_ble_eq_true rfl) (by exact Nat.le_of_ble_eq_true rfl) (law_old C hlt hz hsz hX hbl hbA hL t3 s1 s2 s3 hw1 hw hg1 hg kend)
end LAWV
