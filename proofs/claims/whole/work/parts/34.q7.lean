/-! the reference's calls: picture, share -/
theorem i32_2 (a b c : Int32) : a - (b - 1) - c = a - b - c + 1 := by grind
theorem i32_3 (a b c : Int32) : a - (b + 1) - c = a - b - c - 1 := by grind
section RPUB7
variable {l : Launch} {D : va_G} {cA : Nat → ClassId} {bs : Nat} {A : Nat → Nat} {I : MI} {F : MF} {h : hE} {X : XS} {th : Int32} {M : Nat}
theorem addP_PR (hd : xdim X) (hP : PR X I F) (hn : xnp X < 5) {w g : Nat} {t : Int32} (hw1 : 1 ≤ w) (hw : w ≤ 8) (hg : g ≤ 8) {I' : MI} (h10 : I' 10 (xnp X) = nI w ∧ I' 11 (xnp X) = nI g) (h10o : ∀ j, j ≠ xnp X → I' 10 j = I 10 j ∧ I' 11 j = I 11 j) (hi : ∀ j, j ≠ 10 → j ≠ 11 → j ≠ 12 → j ≠ 14 → j ≠ 16 → I' j = I j) (hb : ∀ i, i < 64 → I' 12 (64 * xnp X + i) = t ∧ I' 14 (64 * xnp X + i) = -1 ∧ I' 16 (64 * xnp X + i) = -1) (ho : ∀ c, c < 64 * xnp X → I' 12 c = I 12 c ∧ I' 14 c = I 14 c ∧ I' 16 c = I 16 c) : PR (addP X w g t) I' F := by
  obtain ⟨h1, h2, h3, h4, h5, h6, h7⟩ := hP
  have e4 := hi 4 (by decide) (by decide) (by decide) (by decide) (by decide)
  have e5 := hi 5 (by decide) (by decide) (by decide) (by decide) (by decide)
  have e6 := hi 6 (by decide) (by decide) (by decide) (by decide) (by decide)
  have e7 := hi 7 (by decide) (by decide) (by decide) (by decide) (by decide)
  have e8 := hi 8 (by decide) (by decide) (by decide) (by decide) (by decide)
  have e13 := hi 13 (by decide) (by decide) (by decide) (by decide) (by decide)
  have e17 := hi 17 (by decide) (by decide) (by decide) (by decide) (by decide)
  have hN : ∀ q, q ≠ xnp X → xN (addP X w g t) q = xN X q := fun q hq => by
    show fset (xwd X) (xnp X) w q * fset (xhg X) (xnp X) g q = _
    rw [fset_n hq, fset_n hq]
  have hN2 : xN (addP X w g t) (xnp X) = w * g := by
    show fset (xwd X) (xnp X) w (xnp X) * fset (xhg X) (xnp X) g (xnp X) = _
    rw [fset_s, fset_s]
  have cxo : ∀ q, q < xnp X → ∀ k, k < xN X q → cx (xwd X q) q k < 64 * xnp X := fun q hq k hk => by
    obtain ⟨⟨u1, u2⟩, u3, u4⟩ := hd.2.2 q hq
    have := (cx_in (p := q) u1 u2 u4 hk).2
    omega
  refine ⟨fun k hk => ?_, fun k hk1 hk2 => ?_, fun q hq => ?_, fun q hq k hk => ?_, fun c hc1 hc2 => ?_, fun c hc1 hc2 => ?_, fun c hc => ?_⟩
  · obtain ⟨q1, q2, q3, q4, q5, q6⟩ := h1 k hk
    exact ⟨q1, by rw [e5]; exact q2, by rw [e6]; exact q3, by rw [e7]; exact q4, by rw [e8]; exact q5, by rw [e4, e7, e8]; exact q6⟩
  · rw [e7, e8]
    exact h2 k hk1 hk2
  · show I' 10 q = nI (fset (xwd X) (xnp X) w q) ∧ I' 11 q = nI (fset (xhg X) (xnp X) g q)
    by_cases hqn : q = xnp X
    · subst hqn
      rw [fset_s, fset_s]
      exact h10
    · have hq : q < xnp X + 1 := hq
      rw [fset_n hqn, fset_n hqn, (h10o q hqn).1, (h10o q hqn).2]
      exact h3 q (by omega)
  · show PRc I' F (cx (fset (xwd X) (xnp X) w q) q k) (fset (xg X) (xnp X) (fun _ => (0, none, t, FP.fconst0, FP.fconst0, 0, 0, 0)) q k)
    by_cases hqn : q = xnp X
    · subst hqn
      rw [hN2] at hk
      rw [fset_s, fset_s]
      have hci := cx_in (p := xnp X) hw1 hw hg hk
      obtain ⟨b1, b2, b3⟩ := hb (cx w (xnp X) k - 64 * xnp X) (by omega)
      rw [show 64 * xnp X + (cx w (xnp X) k - 64 * xnp X) = cx w (xnp X) k by omega] at b1 b2 b3
      have h13 : I 13 (cx w (xnp X) k) = 0 := Classical.not_not.mp (fun z => by
        obtain ⟨q, hq, k2, hk2, hcc⟩ := h5 _ (by omega) z
        have := cxo q hq k2 hk2
        omega)
      exact ⟨b1, by rw [e13]; exact h13, b2, h6 _ (by omega) (by omega), b3, fun z => absurd (show (0 : Int32) = 2 from z) (by decide)⟩
    · have hq : q < xnp X + 1 := hq
      rw [hN q hqn] at hk
      rw [fset_n hqn, fset_n hqn]
      have hlt := cxo q (by omega) k hk
      obtain ⟨o1, o2, o3⟩ := ho _ hlt
      obtain ⟨q1, q2, q3, q4, q5, q6⟩ := h4 q (by omega) k hk
      exact ⟨o1.trans q1, by rw [e13]; exact q2, o2.trans q3, q4, o3.trans q5, by rw [o3, e17]; exact q6⟩
  · rw [e13] at hc2
    obtain ⟨q, hq, k, hk, hcc⟩ := h5 c hc1 hc2
    have hqn : q ≠ xnp X := by omega
    exact ⟨q, Nat.lt_succ_of_lt hq, k, by rw [hN q hqn]; exact hk, by show c = cx (fset (xwd X) (xnp X) w q) q k; rw [fset_n hqn]; exact hcc⟩
  · have hc1 : 64 * (xnp X + 1) ≤ c := hc1
    exact h6 c (by omega) hc2
  · obtain ⟨q1, q2, q3, q4, q5, q6, q7⟩ := h7 c hc
    have f : ∀ j, 20 ≤ j → I' j = I j := fun j hj => hi j (by omega) (by omega) (by omega) (by omega) (by omega)
    exact ⟨by rw [f 20 (by decide)]; exact q1, by rw [f 21 (by decide)]; exact q2, by rw [f 22 (by decide)]; exact q3, by rw [f 23 (by decide)]; exact q4, by rw [f 25 (by decide)]; exact q5, by rw [f 24 (by decide)]; exact q6, q7⟩
set_option maxHeartbeats 4000000 in
set_option maxRecDepth 100000 in
theorem q_picture (r : MR cA A I F (mnn X th) h) (hd : xdim X) (hP : PR X I F) {a b c : Int32} : Mt l D cA bs yX5_picture wsX5_picture (rmk 3 0 0) [.ref (A 0), .int a, .int b, .int c] h (Rst cA A kIA kIS (sp_picture X a b c) h) := by
  have m0 := r.m0
  have hnp := hd.2.1
  have h64 : ∀ n, (64 : Int32) * nI n = nI (64 * n) := fun n => by rw [show (64 : Int32) = nI 64 from rfl, pk_mul]
  have esp : sp_picture X a b c = if okR a 1 8 ∧ okR b 1 8 ∧ okR c 0 255 then (if xnp X < 5 then (none, nI (xnp X), addP X (tN a) (tN b) c) else (some kIS, 0, X)) else (some kIA, 0, X) := rfl
  refine Mt_of (cc := cX5_picture) (maxL := 5) (ret := (some .int)) (own := RX5) [some (.ref (A 0)), some (.int a), some (.int b), some (.int c), none] rfl (by decide +kernel) rfl rfl (by exact Nat.le_of_ble_eq_true rfl) rfl ?_
  intro p9 e9 s9 m9 args9 below9 meth9 c9 C hr hnm
  refine V_join 58 (fun h2 ls2 st2 => MR cA A I F (mnn X 0) h2 ∧ mfr h h2 ∧ (okR a 1 8 ∧ okR b 1 8 ∧ okR c 0 255) ∧ xnp X < 5 ∧ ls2 = [some (.ref (A 0)), some (.int a), some (.int b), some (.int c), none] ∧ st2 = []) ?_ (fun hj58 => ?_)
  · rintro h2 ls2 st2 ⟨r2, f2, ok, hn, rfl, rfl⟩
    obtain ⟨w, w1, w2, rfl, ew⟩ := okR_of1 (b := 8) (by decide) ok.1
    obtain ⟨g, g1, g2, rfl, eg⟩ := okR_of1 (b := 8) (by decide) ok.2.1
    rw [if_pos ok, if_pos hn, ew, eg] at esp
    rw [esp]
    have m0 := r2.m0
    have m10 := r2.m10
    refine V_aload_n (i := 0) C dX5_picture_58 rfl rfl ?_
    refine V_get (ci := 5) (CN := RX5) (T := TX5) (N := 26) C dX5_picture_59 (by first | assumption | exact hset_s _ _ _) rfl 10 (by decide) flX5_picture_30 wiX5_picture_X5 (by rfl) ?_
    refine V_aload_n (i := 0) C dX5_picture_62 rfl rfl ?_
    refine V_get (ci := 5) (CN := RX5) (T := TX5) (N := 26) C dX5_picture_63 (by first | assumption | exact hset_s _ _ _) rfl 9 (by decide) flX5_picture_89 wiX5_picture_X5 (by rfl) ?_
    refine V_iload_n (i := 1) C dX5_picture_66 rfl rfl ?_
    refine V_iastK C dX5_picture_67 (by first | assumption | exact hset_s _ _ _) rfl hn (by decide) ?_
    have r3 := r2.s10 (fset (I 10) (xnp X) (nI w))
    have f3 := f2.tr (r2.f10 (iarr (cA 0) 5 (fset (I 10) (xnp X) (nI w))))
    have m0 := r3.m0
    have m11 := r3.m11
    refine V_aload_n (i := 0) C dX5_picture_68 rfl rfl ?_
    refine V_get (ci := 5) (CN := RX5) (T := TX5) (N := 26) C dX5_picture_69 (by first | assumption | exact hset_s _ _ _) rfl 11 (by decide) flX5_picture_33 wiX5_picture_X5 (by rfl) ?_
    refine V_aload_n (i := 0) C dX5_picture_72 rfl rfl ?_
    refine V_get (ci := 5) (CN := RX5) (T := TX5) (N := 26) C dX5_picture_73 (by first | assumption | exact hset_s _ _ _) rfl 9 (by decide) flX5_picture_89 wiX5_picture_X5 (by rfl) ?_
    refine V_iload_n (i := 2) C dX5_picture_76 rfl rfl ?_
    refine V_iastK C dX5_picture_77 (by first | assumption | exact hset_s _ _ _) rfl hn (by decide) ?_
    have r4 := r3.s11 (fset (I 11) (xnp X) (nI g))
    have f4 := f3.tr (r3.f11 (iarr (cA 0) 5 (fset (I 11) (xnp X) (nI g))))
    have m0 := r4.m0
    refine V_bipush (v := 64) C dX5_picture_78 (by decide) ?_
    refine V_aload_n (i := 0) C dX5_picture_80 rfl rfl ?_
    refine V_get (ci := 5) (CN := RX5) (T := TX5) (N := 26) C dX5_picture_81 (by first | assumption | exact hset_s _ _ _) rfl 9 (by decide) flX5_picture_89 wiX5_picture_X5 (by rfl) ?_
    refine V_imul C dX5_picture_84 ?_
    rw [h64]
    refine V_istore4 C dX5_picture_85 (by decide) ?_
    refine V_for 64 (fun i h6 ls6 => (∃ f12 f14 f16, MR cA A (fset (fset (fset (fset (fset I 10 (fset (I 10) (xnp X) (nI w))) 11 (fset (I 11) (xnp X) (nI g))) 12 f12) 14 f14) 16 f16) F (mnn X 0) h6 ∧ (∀ j, j < i → f12 (64 * xnp X + j) = c ∧ f14 (64 * xnp X + j) = -1 ∧ f16 (64 * xnp X + j) = -1) ∧ ∀ q, q < 64 * xnp X → f12 q = I 12 q ∧ f14 q = I 14 q ∧ f16 q = I 16 q) ∧ mfr h h6 ∧ ls6 = [some (.ref (A 0)), some (.int (nI w)), some (.int (nI g)), some (.int c), some (.int (nI (64 * xnp X + i)))]) ?_ ?_ 0 (by decide) ⟨⟨I 12, I 14, I 16, by
      have e : fset (fset (fset (fset (fset I 10 (fset (I 10) (xnp X) (nI w))) 11 (fset (I 11) (xnp X) (nI g))) 12 (I 12)) 14 (I 14)) 16 (I 16) = fset (fset I 10 (fset (I 10) (xnp X) (nI w))) 11 (fset (I 11) (xnp X) (nI g)) := by
        have z12 : fset (fset (fset I 10 (fset (I 10) (xnp X) (nI w))) 11 (fset (I 11) (xnp X) (nI g))) 12 (I 12) = fset (fset I 10 (fset (I 10) (xnp X) (nI w))) 11 (fset (I 11) (xnp X) (nI g)) := fset_id rfl
        have z14 : fset (fset (fset I 10 (fset (I 10) (xnp X) (nI w))) 11 (fset (I 11) (xnp X) (nI g))) 14 (I 14) = fset (fset I 10 (fset (I 10) (xnp X) (nI w))) 11 (fset (I 11) (xnp X) (nI g)) := fset_id rfl
        have z16 : fset (fset (fset I 10 (fset (I 10) (xnp X) (nI w))) 11 (fset (I 11) (xnp X) (nI g))) 16 (I 16) = fset (fset I 10 (fset (I 10) (xnp X) (nI w))) 11 (fset (I 11) (xnp X) (nI g)) := fset_id rfl
        rw [z12, z14, z16]
      rw [e]
      exact r4, fun j hj => absurd hj (Nat.not_lt_zero j), fun q _ => ⟨rfl, rfl, rfl⟩⟩, f4, rfl⟩
    · rintro i h6 ls6 hi ⟨⟨f12, f14, f16, r6, b1, b2⟩, f6, rfl⟩ ih
      have m0 := r6.m0
      have m12 := r6.m12
      refine V_iload C dX5_picture_87 rfl ?_
      refine V_bipush (v := 64) C dX5_picture_89 (by decide) ?_
      refine V_aload_n (i := 0) C dX5_picture_91 rfl rfl ?_
      refine V_get (ci := 5) (CN := RX5) (T := TX5) (N := 26) C dX5_picture_92 (by first | assumption | exact hset_s _ _ _) rfl 9 (by decide) flX5_picture_89 wiX5_picture_X5 (by rfl) ?_
      refine V_iconst (v := 1) C dX5_picture_95 (by decide) ?_
      refine V_iadd C dX5_picture_96 ?_
      rw [nI_1]
      refine V_imul C dX5_picture_97 ?_
      rw [h64]
      refine V_icmp_ge (tgt := 131) C dX5_picture_98 (by decide) (fun z9 => absurd z9 (nI_ge (by omega) (by omega))) (fun _ => ?_)
      refine V_aload_n (i := 0) C dX5_picture_101 rfl rfl ?_
      refine V_get (ci := 5) (CN := RX5) (T := TX5) (N := 26) C dX5_picture_102 (by first | assumption | exact hset_s _ _ _) rfl 12 (by decide) flX5_picture_36 wiX5_picture_X5 (by rfl) ?_
      refine V_iload C dX5_picture_105 rfl ?_
      refine V_iload_n (i := 3) C dX5_picture_107 rfl rfl ?_
      refine V_iastK C dX5_picture_108 (by first | assumption | exact hset_s _ _ _) rfl (by omega) (by decide) ?_
      have r7 := r6.s12 (fset f12 (64 * xnp X + i) c)
      have f7 := f6.tr (r6.f12 (iarr (cA 0) 320 (fset f12 (64 * xnp X + i) c)))
      have m0 := r7.m0
      have m14 := r7.m14
      refine V_aload_n (i := 0) C dX5_picture_109 rfl rfl ?_
      refine V_get (ci := 5) (CN := RX5) (T := TX5) (N := 26) C dX5_picture_110 (by first | assumption | exact hset_s _ _ _) rfl 14 (by decide) flX5_picture_42 wiX5_picture_X5 (by rfl) ?_
      refine V_iload C dX5_picture_113 rfl ?_
      refine V_iconst (v := (-1)) C dX5_picture_115 (by decide) ?_
      refine V_iastK C dX5_picture_116 (by first | assumption | exact hset_s _ _ _) rfl (by omega) (by decide) ?_
      have r8 := r7.s14 (fset f14 (64 * xnp X + i) (-1))
      have f8 := f7.tr (r7.f14 (iarr (cA 0) 320 (fset f14 (64 * xnp X + i) (-1))))
      have m0 := r8.m0
      have m16 := r8.m16
      refine V_aload_n (i := 0) C dX5_picture_117 rfl rfl ?_
      refine V_get (ci := 5) (CN := RX5) (T := TX5) (N := 26) C dX5_picture_118 (by first | assumption | exact hset_s _ _ _) rfl 16 (by decide) flX5_picture_48 wiX5_picture_X5 (by rfl) ?_
      refine V_iload C dX5_picture_121 rfl ?_
      refine V_iconst (v := (-1)) C dX5_picture_123 (by decide) ?_
      refine V_iastK C dX5_picture_124 (by first | assumption | exact hset_s _ _ _) rfl (by omega) (by decide) ?_
      have r9 := r8.s16 (fset f16 (64 * xnp X + i) (-1))
      have f9 := f8.tr (r8.f16 (iarr (cA 0) 320 (fset f16 (64 * xnp X + i) (-1))))
      have eI : fset (fset (fset (fset (fset (fset (fset (fset I 10 (fset (I 10) (xnp X) (nI w))) 11 (fset (I 11) (xnp X) (nI g))) 12 f12) 14 f14) 16 f16) 12 (fset f12 (64 * xnp X + i) c)) 14 (fset f14 (64 * xnp X + i) (-1))) 16 (fset f16 (64 * xnp X + i) (-1)) = fset (fset (fset (fset (fset I 10 (fset (I 10) (xnp X) (nI w))) 11 (fset (I 11) (xnp X) (nI g))) 12 (fset f12 (64 * xnp X + i) c)) 14 (fset f14 (64 * xnp X + i) (-1))) 16 (fset f16 (64 * xnp X + i) (-1)) := by
        funext q
        unfold fset
        by_cases z16 : q = 16
        · rw [if_pos z16, if_pos z16]
        · by_cases z14 : q = 14
          · rw [if_neg z16, if_pos z14, if_neg z16, if_pos z14]
          · by_cases z12 : q = 12
            · rw [if_neg z16, if_neg z14, if_pos z12, if_neg z16, if_neg z14, if_pos z12]
            · simp only [if_neg z16, if_neg z14, if_neg z12]
      rw [eI] at r9
      refine V_iinc4 (v := nI (64 * xnp X + (i + 1))) C dX5_picture_125 (nI_1 _) (by decide) ?_
      refine V_goto (tgt := 87) C dX5_picture_128 (by decide) ?_
      exact V_wk (by simp [lle]) (ih _ _ ⟨⟨_, _, _, r9, fun j hj => by
        by_cases hji : j = i
        · subst hji; exact ⟨fset_s _ _ _, fset_s _ _ _, fset_s _ _ _⟩
        · rw [fset_n (by omega), fset_n (by omega), fset_n (by omega)]; exact b1 j (by omega), fun q hq => by rw [fset_n (by omega), fset_n (by omega), fset_n (by omega)]; exact b2 q hq⟩, f9, rfl⟩)
    · rintro h6 ls6 ⟨⟨f12, f14, f16, r6, b1, b2⟩, f6, rfl⟩
      have m0 := r6.m0
      refine V_iload C dX5_picture_87 rfl ?_
      refine V_bipush (v := 64) C dX5_picture_89 (by decide) ?_
      refine V_aload_n (i := 0) C dX5_picture_91 rfl rfl ?_
      refine V_get (ci := 5) (CN := RX5) (T := TX5) (N := 26) C dX5_picture_92 (by first | assumption | exact hset_s _ _ _) rfl 9 (by decide) flX5_picture_89 wiX5_picture_X5 (by rfl) ?_
      refine V_iconst (v := 1) C dX5_picture_95 (by decide) ?_
      refine V_iadd C dX5_picture_96 ?_
      rw [nI_1]
      refine V_imul C dX5_picture_97 ?_
      rw [h64]
      refine V_icmp_ge (tgt := 131) C dX5_picture_98 (by decide) (fun _ => ?_) (fun z9 => absurd (nI_le (by omega) (by omega)) z9)
      refine V_aload_n (i := 0) C dX5_picture_131 rfl rfl ?_
      refine V_dup C dX5_picture_132 rfl ?_
      refine V_get (ci := 5) (CN := RX5) (T := TX5) (N := 26) C dX5_picture_133 (by first | assumption | exact hset_s _ _ _) rfl 9 (by decide) flX5_picture_89 wiX5_picture_X5 (by rfl) ?_
      refine V_iconst (v := 1) C dX5_picture_136 (by decide) ?_
      refine V_iadd C dX5_picture_137 ?_
      rw [nI_1]
      refine V_put (ci := 5) (CN := RX5) (T := TX5) (N := 26) (ty := (tyX5 9)) C dX5_picture_138 (by first | assumption | exact hset_s _ _ _) rfl tyX5 tyX5_ok nmX5 9 (by decide) flX5_picture_89 wiX5_picture_X5 rfl (tyX5_ok 9 (by decide)) (by rfl) (by rfl) (by exact Nat.le_of_ble_eq_true rfl) ?_
      have r7 := r6.setN (0, xnw X, nI (xnl X), nI (xnp X + 1))
      refine V_aload_n (i := 0) C dX5_picture_141 rfl rfl ?_
      refine V_get (ci := 5) (CN := RX5) (T := TX5) (N := 26) C dX5_picture_142 (by first | assumption | exact hset_s _ _ _) rfl 9 (by decide) flX5_picture_89 wiX5_picture_X5 (by rfl) ?_
      refine V_iconst (v := 1) C dX5_picture_145 (by decide) ?_
      refine V_isub C dX5_picture_146 ?_
      rw [nI_pred]
      exact V_iret C dX5_picture_147 hr ⟨⟨_, rfl, fun _ => rfl⟩, ⟨_, F, r7, addP_PR hd hP hn w1 w2 g2 ⟨fset_s _ _ _, fset_s _ _ _⟩ (fun j hj => ⟨fset_n hj, fset_n hj⟩) (fun j j10 j11 j12 j14 j16 => by rw [fset_n j16, fset_n j14, fset_n j12, fset_n j11, fset_n j10]) b1 b2⟩, f6.tr (r6.f0 _)⟩ (by exact Nat.le_of_ble_eq_true rfl) (by exact Nat.le_of_ble_eq_true rfl)
  refine V_join 37 (fun h2 ls2 st2 => h2 = h ∧ ls2 = [some (.ref (A 0)), some (.int a), some (.int b), some (.int c), none] ∧ ∃ x, x = (if okR a 1 8 ∧ okR b 1 8 ∧ okR c 0 255 then (1 : Int32) else 0) ∧ st2 = [.int x, .ref (A 0)]) ?_ (fun hj => ?_)
  · rintro h2 ls2 st2 ⟨z9, rfl, x, hx, rfl⟩
    have z9 := z9.symm
    subst z9
    refine V_join 50 (fun h2 ls2 st2 => h2 = h ∧ ls2 = [some (.ref (A 0)), some (.int a), some (.int b), some (.int c), none] ∧ ∃ y, y = (if xnp X < 5 then (1 : Int32) else 0) ∧ st2 = [.int y, .int x, .ref (A 0)]) ?_ (fun hj2 => ?_)
    · rintro h2 ls2 st2 ⟨z9, rfl, y, hy, rfl⟩
      have z9 := z9.symm
      subst z9
      refine V_callV (n := 2) C (r_asked2 r hx (fun _ => hy)) dX5_picture_50 gX5_picture_X5_asked_ rfl (by first | assumption | exact hset_s _ _ _) rfl (by decide +kernel) rfl rfl (by exact Nat.le_of_ble_eq_true rfl) ⟨Nat.le_of_ble_eq_true rfl, Nat.le_of_ble_eq_true rfl⟩ ⟨Nat.le_of_ble_eq_true rfl, Nat.le_of_ble_eq_true rfl⟩ (fun v9 h9 hr9 => ?_)
      obtain ⟨rfl, r2, f2⟩ := hr9
      refine V_if_ne (tgt := 58) C dX5_picture_53 (by decide) (fun c53 => ?_) (fun c53 => ?_)
      · have c53 := Classical.not_not.mp (fun z => c53 (ite0.mpr z))
        rw [if_pos c53.1, if_pos c53.2] at r2
        exact hj58 _ _ _ ⟨r2, f2, c53.1, c53.2, rfl, rfl⟩
      · have c53 := ite0.mp c53
        refine V_iconst (v := 0) C dX5_picture_56 (by decide) ?_
        exact V_iret C dX5_picture_57 hr (by
          by_cases h1 : okR a 1 8 ∧ okR b 1 8 ∧ okR c 0 255
          · have h2 : ¬ xnp X < 5 := fun z => c53 ⟨h1, z⟩
            rw [if_pos h1, if_neg h2] at r2
            rw [if_pos h1, if_neg h2] at esp
            rw [esp]
            exact Rst_x r2 hP f2 (by decide +kernel)
          · rw [if_neg h1] at r2
            rw [if_neg h1] at esp
            rw [esp]
            exact Rst_x r2 hP f2 (by decide +kernel)) (by exact Nat.le_of_ble_eq_true rfl) (by exact Nat.le_of_ble_eq_true rfl)
    · refine V_aload_n (i := 0) C dX5_picture_37 rfl rfl ?_
      refine V_get (ci := 5) (CN := RX5) (T := TX5) (N := 26) C dX5_picture_38 (by first | assumption | exact hset_s _ _ _) rfl 9 (by decide) flX5_picture_89 wiX5_picture_X5 (by rfl) ?_
      refine V_iconst (v := 5) C dX5_picture_41 (by decide) ?_
      refine V_icmp_ge (tgt := 49) C dX5_picture_42 (by decide) (fun c42 => ?_) (fun c42 => ?_)
      · have c42 : ¬ xnp X < 5 := fun z => nI_ge (b := 5) z (by decide) c42
        refine V_iconst (v := 0) C dX5_picture_49 (by decide) ?_
        exact hj2 _ _ _ ⟨rfl, rfl, _, by first | exact (if_pos c42).symm | exact (if_neg c42).symm, rfl⟩
      · have c42 : xnp X < 5 := by rcases Nat.lt_or_ge (xnp X) 5 with z | z; exact z; exact absurd (nI_le (a := 5) z (by omega)) c42
        refine V_iconst (v := 1) C dX5_picture_45 (by decide) ?_
        refine V_goto (tgt := 50) C dX5_picture_46 (by decide) ?_
        exact hj2 _ _ _ ⟨rfl, rfl, _, by first | exact (if_pos c42).symm | exact (if_neg c42).symm, rfl⟩
  · refine V_aload_n (i := 0) C dX5_picture_0 rfl rfl ?_
    refine V_iload_n (i := 1) C dX5_picture_1 rfl rfl ?_
    refine V_iconst (v := 1) C dX5_picture_2 (by decide) ?_
    refine V_bipush (v := 8) C dX5_picture_3 (by decide) ?_
    refine V_callS (n := 3) C (r_in) dX5_picture_5 gX5_picture_X5_in rfl (by decide +kernel) rfl rfl (by exact Nat.le_of_ble_eq_true rfl) ⟨Nat.le_of_ble_eq_true rfl, Nat.le_of_ble_eq_true rfl⟩ ⟨Nat.le_of_ble_eq_true rfl, Nat.le_of_ble_eq_true rfl⟩ (fun v9 h9 hr9 => ?_)
    obtain ⟨rfl, z9⟩ := hr9
    have z9 := z9.symm
    subst z9
    refine V_if_eq (tgt := 36) C dX5_picture_8 (by decide) (fun c8 => ?_) (fun c8 => ?_)
    · have c8 := ite0.mp c8
      have e9 : ¬ (okR a 1 8 ∧ okR b 1 8 ∧ okR c 0 255) := fun z => c8 z.1
      refine V_iconst (v := 0) C dX5_picture_36 (by decide) ?_
      exact hj _ _ _ ⟨rfl, rfl, _, by first | exact (if_pos e9).symm | exact (if_neg e9).symm, rfl⟩
    · have c8 := Classical.not_not.mp (fun z => c8 (ite0.mpr z))
      refine V_iload_n (i := 2) C dX5_picture_11 rfl rfl ?_
      refine V_iconst (v := 1) C dX5_picture_12 (by decide) ?_
      refine V_bipush (v := 8) C dX5_picture_13 (by decide) ?_
      refine V_callS (n := 3) C (r_in) dX5_picture_15 gX5_picture_X5_in rfl (by decide +kernel) rfl rfl (by exact Nat.le_of_ble_eq_true rfl) ⟨Nat.le_of_ble_eq_true rfl, Nat.le_of_ble_eq_true rfl⟩ ⟨Nat.le_of_ble_eq_true rfl, Nat.le_of_ble_eq_true rfl⟩ (fun v9 h9 hr9 => ?_)
      obtain ⟨rfl, z9⟩ := hr9
      have z9 := z9.symm
      subst z9
      refine V_if_eq (tgt := 36) C dX5_picture_18 (by decide) (fun c18 => ?_) (fun c18 => ?_)
      · have c18 := ite0.mp c18
        have e9 : ¬ (okR a 1 8 ∧ okR b 1 8 ∧ okR c 0 255) := fun z => c18 z.2.1
        refine V_iconst (v := 0) C dX5_picture_36 (by decide) ?_
        exact hj _ _ _ ⟨rfl, rfl, _, by first | exact (if_pos e9).symm | exact (if_neg e9).symm, rfl⟩
      · have c18 := Classical.not_not.mp (fun z => c18 (ite0.mpr z))
        refine V_iload_n (i := 3) C dX5_picture_21 rfl rfl ?_
        refine V_iconst (v := 0) C dX5_picture_22 (by decide) ?_
        refine V_sipush (v := 255) C dX5_picture_23 (by decide) ?_
        refine V_callS (n := 3) C (r_in) dX5_picture_26 gX5_picture_X5_in rfl (by decide +kernel) rfl rfl (by exact Nat.le_of_ble_eq_true rfl) ⟨Nat.le_of_ble_eq_true rfl, Nat.le_of_ble_eq_true rfl⟩ ⟨Nat.le_of_ble_eq_true rfl, Nat.le_of_ble_eq_true rfl⟩ (fun v9 h9 hr9 => ?_)
        obtain ⟨rfl, z9⟩ := hr9
        have z9 := z9.symm
        subst z9
        refine V_if_eq (tgt := 36) C dX5_picture_29 (by decide) (fun c29 => ?_) (fun c29 => ?_)
        · have c29 := ite0.mp c29
          have e9 : ¬ (okR a 1 8 ∧ okR b 1 8 ∧ okR c 0 255) := fun z => c29 z.2.2
          refine V_iconst (v := 0) C dX5_picture_36 (by decide) ?_
          exact hj _ _ _ ⟨rfl, rfl, _, by first | exact (if_pos e9).symm | exact (if_neg e9).symm, rfl⟩
        · have c29 := Classical.not_not.mp (fun z => c29 (ite0.mpr z))
          have e9 : okR a 1 8 ∧ okR b 1 8 ∧ okR c 0 255 := ⟨c8, c18, c29⟩
          refine V_iconst (v := 1) C dX5_picture_32 (by decide) ?_
          refine V_goto (tgt := 37) C dX5_picture_33 (by decide) ?_
          exact hj _ _ _ ⟨rfl, rfl, _, by first | exact (if_pos e9).symm | exact (if_neg e9).symm, rfl⟩
end RPUB7
