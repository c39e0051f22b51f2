/-! the reference's calls: share -/
theorem k31 {k w : Nat} (h : k < 64) : nI (k % w) + nI (k / w) - (nI (k % w) + nI (k / w)) / 2 * 2 = nI ((k % w + k / w) % 2) := by
  have h1 : k % w ≤ k := Nat.mod_le _ _
  have h2 : k / w ≤ k := Nat.div_le_self _ _
  rw [nI_add]
  exact pk_rem (a := k % w + k / w) (d := 2) (by omega) (by decide) (by decide)
section RPUB8
variable {l : Launch} {D : va_G} {cA : Nat → ClassId} {bs : Nat} {A : Nat → Nat} {I : MI} {F : MF} {h : hE} {X : XS} {th : Int32} {M : Nat}
set_option maxHeartbeats 4000000 in
set_option maxRecDepth 100000 in
theorem q_share (r : MR cA A I F (mnn X th) h) (hI : CI M X) (hP : PR X I F) {x a b : Int32} : Mt l D cA bs yX5_share wsX5_share (rmk 3 0 0) [.ref (A 0), .int x, .int a, .int b] h (Rst cA A kIO kIA (sp_share X x a b) h) := by
  have m0 := r.m0
  have hd := hI.1.1
  have hnp := hd.2.1
  have hnl := hd.1
  have esp : sp_share X x a b = if picN X x ∧ lotN X a ∧ lotN X b then (if a = b then (some kIA, 0, X) else (none, nI (gvX X (tN x) (tN a) (tN b)).2, xpl X (tN x) (gvX X (tN x) (tN a) (tN b)).1.1 (gvX X (tN x) (tN a) (tN b)).1.2)) else (some kIO, 0, X) := rfl
  refine Mt_of (cc := cX5_share) (maxL := 9) (ret := (some .int)) (own := RX5) [some (.ref (A 0)), some (.int x), some (.int a), some (.int b), none, none, none, none, none] rfl (by decide +kernel) rfl rfl (by exact Nat.le_of_ble_eq_true rfl) rfl ?_
  intro p9 e9 s9 m9 args9 below9 meth9 c9 C hr hnm
  refine V_join 48 (fun h2 ls2 st2 => MR cA A I F (mnn X 0) h2 ∧ mfr h h2 ∧ (picN X x ∧ lotN X a ∧ lotN X b) ∧ ¬ a = b ∧ ls2 = [some (.ref (A 0)), some (.int x), some (.int a), some (.int b), none, none, none, none, none] ∧ st2 = []) ?_ (fun hj48 => ?_)
  · rintro h2 ls2 st2 ⟨r2, f2, ok, hn, rfl, rfl⟩
    rw [if_pos ok, if_neg hn] at esp
    obtain ⟨p, hp, rfl, ep⟩ := picN_of hd ok.1
    obtain ⟨i1, h1, rfl, e1⟩ := lotN_of hd ok.2.1
    obtain ⟨i2, h2, rfl, e2⟩ := lotN_of hd ok.2.2
    have hn : ¬ i1 = i2 := fun z => hn (by rw [z])
    rw [ep, e1, e2] at esp
    rw [esp]
    obtain ⟨⟨w1, w2⟩, g1, g2⟩ := hd.2.2 p hp
    have hN := (hd.N hp).2
    have hN2 : xwd X p * xhg X p ≤ 64 := hN
    have hPI := hI.1.2.1 p hp
    have hw0 : ¬ nI (xwd X p) = 0 := nI_ne0 (by omega) (by omega)
    refine V_iconst (v := 0) C dX5_share_48 (by decide) ?_
    refine V_istore4 C dX5_share_49 (by decide) ?_
    refine V_iconst (v := 0) C dX5_share_51 (by decide) ?_
    refine V_istore5 C dX5_share_52 (by decide) ?_
    refine V_for (xN X p) (fun i h4 ls4 => (∃ I4, MR cA A I4 F (mnn X 0) h4 ∧ PR (xpl X p (gvS i1 i2 (xwd X p) (xlo X) (xg X p) i).1.1 (gvS i1 i2 (xwd X p) (xlo X) (xg X p) i).1.2) I4 F) ∧ mfr h h4 ∧ ls4 = [some (.ref (A 0)), some (.int (nI p)), some (.int (nI i1)), some (.int (nI i2)), some (.int (nI (gvS i1 i2 (xwd X p) (xlo X) (xg X p) i).2)), some (.int (nI i)), none, none, none]) ?_ ?_ 0 (Nat.zero_le _) ⟨⟨I, r2, by rw [show PR (xpl X p (gvS i1 i2 (xwd X p) (xlo X) (xg X p) 0).1.1 (gvS i1 i2 (xwd X p) (xlo X) (xg X p) 0).1.2) I F = PR (xpl X p (xlo X) (xg X p)) I F from rfl, xpl_id]; exact hP⟩, f2, rfl⟩
    · rintro i h4 ls4 hi ⟨⟨I4, r4, hP4⟩, f4, rfl⟩ ih
      have hex : ∀ S c, S = (gvS i1 i2 (xwd X p) (xlo X) (xg X p) i).1 → c = (gvS i1 i2 (xwd X p) (xlo X) (xg X p) i).2 → gvS i1 i2 (xwd X p) (xlo X) (xg X p) (i + 1) = ((gv1 i1 i2 (xwd X p) S.1 S.2 i).1, c + (gv1 i1 i2 (xwd X p) S.1 S.2 i).2) := fun S c h1 h2 => by rw [h1, h2]; rfl
      obtain ⟨S4, hS4⟩ : ∃ S4, S4 = (gvS i1 i2 (xwd X p) (xlo X) (xg X p) i).1 := ⟨_, rfl⟩
      obtain ⟨n4, hn4⟩ : ∃ n4, n4 = (gvS i1 i2 (xwd X p) (xlo X) (xg X p) i).2 := ⟨_, rfl⟩
      have hex := hex S4 n4 hS4 hn4
      have hI2 := hPI.gvS (a := i1) (w := xwd X p) h2 (Nat.le_of_lt hi)
      rw [← hS4] at hP4 hI2
      rw [← hn4]
      have m0 := r4.m0
      have m10 := r4.m10
      have m11 := r4.m11
      have m13 := r4.m13
      have m14 := r4.m14
      have m6 := r4.m6
      obtain ⟨p1, p2⟩ : I4 10 p = nI (xwd X p) ∧ I4 11 p = nI (xhg X p) := hP4.2.2.1 p hp
      have hcl := cx_lt (p := p) w1 w2 g2 (by omega) hi
      have hqc : PRc I4 F (cx (xwd X p) p i) (S4.2 i) := by
        have := hP4.2.2.2.1 p hp i hi
        rw [show xg (xpl X p S4.1 S4.2) p i = S4.2 i from congrFun (fset_s (xg X) p S4.2) i] at this
        exact this
      obtain ⟨q1, q2, q3, q4, q5, q6⟩ := hqc
      have hq1 : PRl I4 F i1 (S4.1 i1) := hP4.1 i1 h1
      have hq2 : PRl I4 F i2 (S4.1 i2) := hP4.1 i2 h2
      obtain ⟨u1, u2, u3, u4, u5, u6⟩ := id hq1
      obtain ⟨v1, v2, v3, v4, v5, v6⟩ := id hq2
      have hod2 : ∀ {m : Nat}, nI (m % 2) = 1 ↔ m % 2 = 1 := fun {m} => nI_eq (b := 1) (by omega) (by decide)
      have hodd := k31 (k := i) (w := xwd X p) (by omega)
      have hdiv : i / xwd X p < xhg X p := k_div hi
      have hmod : i % xwd X p < xwd X p := k_mod w1
      have hlot : I4 14 (cx (xwd X p) p i) = nI i1 ↔ clt (S4.2 i) = some i1 := by
        rw [q3]
        cases hl : clt (S4.2 i) with
        | none => exact ⟨fun z => absurd z.symm (m1_ne i1 (by omega)), fun z => by cases z⟩
        | some b2 =>
          have hb2 := (hI2.1 i hi).1 b2 hl
          exact ⟨fun z => by rw [(nI_eq (a := b2) (b := i1) (by omega) (by omega)).mp z], fun z => by cases z; rfl⟩
      refine V_iload C dX5_share_54 rfl ?_
      refine V_aload_n (i := 0) C dX5_share_56 rfl rfl ?_
      refine V_get (ci := 5) (CN := RX5) (T := TX5) (N := 26) C dX5_share_57 (by first | assumption | exact hset_s _ _ _) rfl 10 (by decide) flX5_share_30 wiX5_share_X5 (by rfl) ?_
      refine V_iload_n (i := 1) C dX5_share_60 rfl rfl ?_
      refine V_ialdK C dX5_share_61 (by first | assumption | exact hset_s _ _ _) rfl (by omega) (by decide) p1 ?_
      refine V_aload_n (i := 0) C dX5_share_62 rfl rfl ?_
      refine V_get (ci := 5) (CN := RX5) (T := TX5) (N := 26) C dX5_share_63 (by first | assumption | exact hset_s _ _ _) rfl 11 (by decide) flX5_share_33 wiX5_share_X5 (by rfl) ?_
      refine V_iload_n (i := 1) C dX5_share_66 rfl rfl ?_
      refine V_ialdK C dX5_share_67 (by first | assumption | exact hset_s _ _ _) rfl (by omega) (by decide) p2 ?_
      refine V_imul C dX5_share_68 ?_
      rw [pk_mul]
      refine V_icmp_ge (tgt := 191) C dX5_share_69 (by decide) (fun z9 => absurd z9 (nI_ge hi (by omega))) (fun _ => ?_)
      refine V_iload C dX5_share_72 rfl ?_
      refine V_aload_n (i := 0) C dX5_share_74 rfl rfl ?_
      refine V_get (ci := 5) (CN := RX5) (T := TX5) (N := 26) C dX5_share_75 (by first | assumption | exact hset_s _ _ _) rfl 10 (by decide) flX5_share_30 wiX5_share_X5 (by rfl) ?_
      refine V_iload_n (i := 1) C dX5_share_78 rfl rfl ?_
      refine V_ialdK C dX5_share_79 (by first | assumption | exact hset_s _ _ _) rfl (by omega) (by decide) p1 ?_
      refine V_irem C dX5_share_80 hw0 ?_
      rw [pk_rem (by omega) (by omega) (by omega)]
      refine V_istore6 C dX5_share_81 (by decide) ?_
      refine V_iload C dX5_share_83 rfl ?_
      refine V_aload_n (i := 0) C dX5_share_85 rfl rfl ?_
      refine V_get (ci := 5) (CN := RX5) (T := TX5) (N := 26) C dX5_share_86 (by first | assumption | exact hset_s _ _ _) rfl 10 (by decide) flX5_share_30 wiX5_share_X5 (by rfl) ?_
      refine V_iload_n (i := 1) C dX5_share_89 rfl rfl ?_
      refine V_ialdK C dX5_share_90 (by first | assumption | exact hset_s _ _ _) rfl (by omega) (by decide) p1 ?_
      refine V_idiv C dX5_share_91 hw0 ?_
      rw [pk_div (by omega) (by omega) (by omega)]
      refine V_istore7 C dX5_share_92 (by decide) ?_
      refine V_iload_n (i := 1) C dX5_share_94 rfl rfl ?_
      refine V_iload C dX5_share_95 rfl ?_
      refine V_iload C dX5_share_97 rfl ?_
      refine V_callS (n := 3) C (r_cellOf) dX5_share_99 gX5_share_X5_cellOf rfl (by decide +kernel) rfl rfl (by exact Nat.le_of_ble_eq_true rfl) ⟨Nat.le_of_ble_eq_true rfl, Nat.le_of_ble_eq_true rfl⟩ ⟨Nat.le_of_ble_eq_true rfl, Nat.le_of_ble_eq_true rfl⟩ (fun v9 h9 hr9 => ?_)
      obtain ⟨rfl, z9⟩ := hr9
      have z9 := z9.symm
      subst z9
      rw [show 64 * p + 8 * (i / xwd X p) + i % xwd X p = cx (xwd X p) p i from rfl]
      refine V_istore8 C dX5_share_102 (by decide) ?_
      refine V_aload_n (i := 0) C dX5_share_104 rfl rfl ?_
      refine V_get (ci := 5) (CN := RX5) (T := TX5) (N := 26) C dX5_share_105 (by first | assumption | exact hset_s _ _ _) rfl 13 (by decide) flX5_share_39 wiX5_share_X5 (by rfl) ?_
      refine V_iload C dX5_share_108 rfl ?_
      refine V_ialdK C dX5_share_110 (by first | assumption | exact hset_s _ _ _) rfl hcl (by decide) q2 ?_
      refine V_iconst (v := 1) C dX5_share_111 (by decide) ?_
      refine V_icmp_ne (tgt := 185) C dX5_share_112 (by decide) (fun c112 => ?_) (fun c112 => ?_)
      · have e9 : ¬ (((S4.2 i).1 = 1 ∧ clt (S4.2 i) = some i1) ∧ (i % xwd X p + i / xwd X p) % 2 = 1 ∧ lth (S4.1 i2) ≠ 0 ∧ 0 < llf (S4.1 i2)) := fun z => c112 z.1.1
        refine V_iinc5 (v := nI (i + 1)) C dX5_share_185 (nI_1 _) (by decide) ?_
        refine V_goto (tgt := 54) C dX5_share_188 (by decide) ?_
        first
          | exact V_wk (by rw [hex, e6]; simp [lle]) (ih _ _ ⟨⟨_, r7, by rw [hex, e6]; exact hP7⟩, f7, rfl⟩)
          | (have e0 : gv1 i1 i2 (xwd X p) S4.1 S4.2 i = ((S4.1, S4.2), 0) := by unfold gv1; rw [if_neg e9]
             exact V_wk (by rw [hex, e0]; simp [lle]) (ih _ _ ⟨⟨I4, r4, by rw [hex, e0]; exact hP4⟩, f4, rfl⟩))
      · have c112 : (S4.2 i).1 = 1 := c112
        refine V_aload_n (i := 0) C dX5_share_115 rfl rfl ?_
        refine V_get (ci := 5) (CN := RX5) (T := TX5) (N := 26) C dX5_share_116 (by first | assumption | exact hset_s _ _ _) rfl 14 (by decide) flX5_share_42 wiX5_share_X5 (by rfl) ?_
        refine V_iload C dX5_share_119 rfl ?_
        refine V_ialdK C dX5_share_121 (by first | assumption | exact hset_s _ _ _) rfl hcl (by decide) rfl ?_
        refine V_iload_n (i := 2) C dX5_share_122 rfl rfl ?_
        refine V_icmp_ne (tgt := 185) C dX5_share_123 (by decide) (fun c123 => ?_) (fun c123 => ?_)
        · have e9 : ¬ (((S4.2 i).1 = 1 ∧ clt (S4.2 i) = some i1) ∧ (i % xwd X p + i / xwd X p) % 2 = 1 ∧ lth (S4.1 i2) ≠ 0 ∧ 0 < llf (S4.1 i2)) := fun z => c123 (hlot.mpr z.1.2)
          refine V_iinc5 (v := nI (i + 1)) C dX5_share_185 (nI_1 _) (by decide) ?_
          refine V_goto (tgt := 54) C dX5_share_188 (by decide) ?_
          first
            | exact V_wk (by rw [hex, e6]; simp [lle]) (ih _ _ ⟨⟨_, r7, by rw [hex, e6]; exact hP7⟩, f7, rfl⟩)
            | (have e0 : gv1 i1 i2 (xwd X p) S4.1 S4.2 i = ((S4.1, S4.2), 0) := by unfold gv1; rw [if_neg e9]
               exact V_wk (by rw [hex, e0]; simp [lle]) (ih _ _ ⟨⟨I4, r4, by rw [hex, e0]; exact hP4⟩, f4, rfl⟩))
        · have c123 := hlot.mp c123
          refine V_iload C dX5_share_126 rfl ?_
          refine V_iload C dX5_share_128 rfl ?_
          refine V_iadd C dX5_share_130 ?_
          refine V_iconst (v := 2) C dX5_share_131 (by decide) ?_
          refine V_irem C dX5_share_132 (by decide) ?_
          refine V_iconst (v := 1) C dX5_share_133 (by decide) ?_
          refine V_icmp_ne (tgt := 185) C dX5_share_134 (by decide) (fun c134 => ?_) (fun c134 => ?_)
          · have e9 : ¬ (((S4.2 i).1 = 1 ∧ clt (S4.2 i) = some i1) ∧ (i % xwd X p + i / xwd X p) % 2 = 1 ∧ lth (S4.1 i2) ≠ 0 ∧ 0 < llf (S4.1 i2)) := fun z => c134 (hodd.trans (hod2.mpr z.2.1))
            refine V_iinc5 (v := nI (i + 1)) C dX5_share_185 (nI_1 _) (by decide) ?_
            refine V_goto (tgt := 54) C dX5_share_188 (by decide) ?_
            first
              | exact V_wk (by rw [hex, e6]; simp [lle]) (ih _ _ ⟨⟨_, r7, by rw [hex, e6]; exact hP7⟩, f7, rfl⟩)
              | (have e0 : gv1 i1 i2 (xwd X p) S4.1 S4.2 i = ((S4.1, S4.2), 0) := by unfold gv1; rw [if_neg e9]
                 exact V_wk (by rw [hex, e0]; simp [lle]) (ih _ _ ⟨⟨I4, r4, by rw [hex, e0]; exact hP4⟩, f4, rfl⟩))
          · have c134 : (i % xwd X p + i / xwd X p) % 2 = 1 := hod2.mp (hodd.symm.trans c134)
            refine V_aload_n (i := 0) C dX5_share_137 rfl rfl ?_
            refine V_get (ci := 5) (CN := RX5) (T := TX5) (N := 26) C dX5_share_138 (by first | assumption | exact hset_s _ _ _) rfl 6 (by decide) flX5_share_20 wiX5_share_X5 (by rfl) ?_
            refine V_iload_n (i := 3) C dX5_share_141 rfl rfl ?_
            refine V_zaldK C dX5_share_142 (by first | assumption | exact hset_s _ _ _) rfl (by omega) (by decide) v3 ?_
            refine V_if_eq (tgt := 185) C dX5_share_143 (by decide) (fun c143 => ?_) (fun c143 => ?_)
            · have e9 : ¬ (((S4.2 i).1 = 1 ∧ clt (S4.2 i) = some i1) ∧ (i % xwd X p + i / xwd X p) % 2 = 1 ∧ lth (S4.1 i2) ≠ 0 ∧ 0 < llf (S4.1 i2)) := fun z => z.2.2.1 c143
              refine V_iinc5 (v := nI (i + 1)) C dX5_share_185 (nI_1 _) (by decide) ?_
              refine V_goto (tgt := 54) C dX5_share_188 (by decide) ?_
              first
                | exact V_wk (by rw [hex, e6]; simp [lle]) (ih _ _ ⟨⟨_, r7, by rw [hex, e6]; exact hP7⟩, f7, rfl⟩)
                | (have e0 : gv1 i1 i2 (xwd X p) S4.1 S4.2 i = ((S4.1, S4.2), 0) := by unfold gv1; rw [if_neg e9]
                   exact V_wk (by rw [hex, e0]; simp [lle]) (ih _ _ ⟨⟨I4, r4, by rw [hex, e0]; exact hP4⟩, f4, rfl⟩))
            · have c143 : lth (S4.1 i2) ≠ 0 := c143
              refine V_aload_n (i := 0) C dX5_share_146 rfl rfl ?_
              refine V_iload_n (i := 3) C dX5_share_147 rfl rfl ?_
              refine V_callV (n := 1) C (r_left r4 (by omega)) dX5_share_148 gX5_share_X5_left rfl (by first | assumption | exact hset_s _ _ _) rfl (by decide +kernel) rfl rfl (by exact Nat.le_of_ble_eq_true rfl) ⟨Nat.le_of_ble_eq_true rfl, Nat.le_of_ble_eq_true rfl⟩ ⟨Nat.le_of_ble_eq_true rfl, Nat.le_of_ble_eq_true rfl⟩ (fun v9 h9 hr9 => ?_)
              obtain ⟨rfl, z9⟩ := hr9
              have z9 := z9.symm
              subst z9
              rw [v6]
              refine V_if_le (tgt := 185) C dX5_share_151 (by decide) (fun c151 => ?_) (fun c151 => ?_)
              · have e9 : ¬ (((S4.2 i).1 = 1 ∧ clt (S4.2 i) = some i1) ∧ (i % xwd X p + i / xwd X p) % 2 = 1 ∧ lth (S4.1 i2) ≠ 0 ∧ 0 < llf (S4.1 i2)) := fun z => Int32.not_le.mpr z.2.2.2 c151
                refine V_iinc5 (v := nI (i + 1)) C dX5_share_185 (nI_1 _) (by decide) ?_
                refine V_goto (tgt := 54) C dX5_share_188 (by decide) ?_
                first
                  | exact V_wk (by rw [hex, e6]; simp [lle]) (ih _ _ ⟨⟨_, r7, by rw [hex, e6]; exact hP7⟩, f7, rfl⟩)
                  | (have e0 : gv1 i1 i2 (xwd X p) S4.1 S4.2 i = ((S4.1, S4.2), 0) := by unfold gv1; rw [if_neg e9]
                     exact V_wk (by rw [hex, e0]; simp [lle]) (ih _ _ ⟨⟨I4, r4, by rw [hex, e0]; exact hP4⟩, f4, rfl⟩))
              · have c151 : 0 < llf (S4.1 i2) := Int32.not_le.mp c151
                refine V_aload_n (i := 0) C dX5_share_154 rfl rfl ?_
                refine V_get (ci := 5) (CN := RX5) (T := TX5) (N := 26) C dX5_share_155 (by first | assumption | exact hset_s _ _ _) rfl 14 (by decide) flX5_share_42 wiX5_share_X5 (by rfl) ?_
                refine V_iload C dX5_share_158 rfl ?_
                refine V_iload_n (i := 3) C dX5_share_160 rfl rfl ?_
                refine V_iastK C dX5_share_161 (by first | assumption | exact hset_s _ _ _) rfl hcl (by decide) ?_
                have r5 := r4.s14 (fset (I4 14) (cx (xwd X p) p i) (nI i2))
                have f5 := f4.tr (r4.f14 (iarr (cA 0) 320 (fset (I4 14) (cx (xwd X p) p i) (nI i2))))
                have m0 := r5.m0
                have m7 := r5.m7
                refine V_aload_n (i := 0) C dX5_share_162 rfl rfl ?_
                refine V_get (ci := 5) (CN := RX5) (T := TX5) (N := 26) C dX5_share_163 (by first | assumption | exact hset_s _ _ _) rfl 7 (by decide) flX5_share_24 wiX5_share_X5 (by rfl) ?_
                refine V_iload_n (i := 2) C dX5_share_166 rfl rfl ?_
                refine V_dup2 C dX5_share_167 rfl rfl ?_
                refine V_ialdK C dX5_share_168 (by first | assumption | exact hset_s _ _ _) rfl (by omega) (by decide) rfl ?_
                refine V_iconst (v := 1) C dX5_share_169 (by decide) ?_
                refine V_isub C dX5_share_170 ?_
                refine V_iastK C dX5_share_171 (by first | assumption | exact hset_s _ _ _) rfl (by omega) (by decide) ?_
                have r6 := r5.s7 (fset (I4 7) i1 (I4 7 i1 - 1))
                have f6 := f5.tr (r5.f7 (iarr (cA 0) 12 (fset (I4 7) i1 (I4 7 i1 - 1))))
                have m0 := r6.m0
                have m7 := r6.m7
                refine V_aload_n (i := 0) C dX5_share_172 rfl rfl ?_
                refine V_get (ci := 5) (CN := RX5) (T := TX5) (N := 26) C dX5_share_173 (by first | assumption | exact hset_s _ _ _) rfl 7 (by decide) flX5_share_24 wiX5_share_X5 (by rfl) ?_
                refine V_iload_n (i := 3) C dX5_share_176 rfl rfl ?_
                refine V_dup2 C dX5_share_177 rfl rfl ?_
                refine V_ialdK C dX5_share_178 (by first | assumption | exact hset_s _ _ _) rfl (by omega) (by decide) (show fset (I4 7) i1 (I4 7 i1 - 1) i2 = I4 7 i2 from fset_n (fun z => hn z.symm)) ?_
                refine V_iconst (v := 1) C dX5_share_179 (by decide) ?_
                refine V_iadd C dX5_share_180 ?_
                refine V_iastK C dX5_share_181 (by first | assumption | exact hset_s _ _ _) rfl (by omega) (by decide) ?_
                have r7 := r6.s7 (fset (fset (I4 7) i1 (I4 7 i1 - 1)) i2 (I4 7 i2 + 1))
                have f7 := f6.tr (r6.f7 (iarr (cA 0) 12 (fset (fset (I4 7) i1 (I4 7 i1 - 1)) i2 (I4 7 i2 + 1))))
                have e6 : gv1 i1 i2 (xwd X p) S4.1 S4.2 i = ((fset (fset S4.1 i1 (lq (S4.1 i1) (llf (S4.1 i1) + 1) (lpm (S4.1 i1) - 1))) i2 (lq (S4.1 i2) (llf (S4.1 i2) - 1) (lpm (S4.1 i2) + 1)), fset S4.2 i (cdP (cdP (S4.2 i) 0 none) 1 (some i2))), 1) := by unfold gv1; rw [if_pos ⟨⟨c112, c123⟩, c134, c143, c151⟩, tb1_p c112 c123]; unfold prom; dsimp only; rw [fset_s, fset_n (fun z => hn z.symm), fset_fset]
                have hP7 : PR (xpl X p (fset (fset S4.1 i1 (lq (S4.1 i1) (llf (S4.1 i1) + 1) (lpm (S4.1 i1) - 1))) i2 (lq (S4.1 i2) (llf (S4.1 i2) - 1) (lpm (S4.1 i2) + 1))) (fset S4.2 i (cdP (cdP (S4.2 i) 0 none) 1 (some i2)))) (fset (fset (fset I4 14 (fset (I4 14) (cx (xwd X p) p i) (nI i2))) 7 (fset (I4 7) i1 (I4 7 i1 - 1))) 7 (fset (fset (I4 7) i1 (I4 7 i1 - 1)) i2 (I4 7 i2 + 1))) F := by
                  refine hP4.upd hd hp hi (PRl.put (X := X) (L := fset S4.1 i1 (lq (S4.1 i1) (llf (S4.1 i1) + 1) (lpm (S4.1 i1) - 1))) (I := fset I4 7 (fset (I4 7) i1 (I4 7 i1 - 1))) (F := F) (PRl.put (X := X) (L := S4.1) (I := I4) (F := F) hP4.1 ⟨u1, u2, u3, (fset_s _ _ _).trans (by rw [u4]; rfl), u5, ?_⟩ (fun j hj => ⟨rfl, rfl, rfl, rfl, fset_n hj, rfl⟩)) ⟨v1, v2, v3, (fset_s _ _ _).trans (by rw [v4]; rfl), v5, ?_⟩ (fun j hj => ⟨rfl, rfl, rfl, rfl, fset_n hj, rfl⟩)) (fun j hj1 hj2 => ⟨(fset_n (by omega)).trans ((fset_n (by omega)).trans (hP4.2.1 j hj1 hj2).1), (hP4.2.1 j hj1 hj2).2⟩) ⟨rfl, rfl, rfl, rfl, rfl, rfl, rfl, rfl⟩ ⟨q1, q2.trans c112, fset_s _ _ _, q4, ?_, fun z => absurd (show (1 : Int32) = 2 from z) (by decide)⟩ (fun c hc => ⟨rfl, rfl, fset_n hc, rfl, rfl, rfl⟩)
                  · show I4 4 i1 - fset (I4 7) i1 (I4 7 i1 - 1) i1 - I4 8 i1 = llf (S4.1 i1) + 1
                    rw [fset_s, i32_2, u6]
                  · show I4 4 i2 - fset (fset (I4 7) i1 (I4 7 i1 - 1)) i2 (I4 7 i2 + 1) i2 - I4 8 i2 = llf (S4.1 i2) - 1
                    rw [fset_s, i32_3, v6]
                  · show I4 16 (cx (xwd X p) p i) = if (1 : Int32) = 2 then _ else -1
                    rw [q5, if_neg (by rw [c112]; decide), if_neg (by decide)]
                refine V_iinc4 (v := nI (n4 + 1)) C dX5_share_182 (nI_1 _) (by decide) ?_
                refine V_iinc5 (v := nI (i + 1)) C dX5_share_185 (nI_1 _) (by decide) ?_
                refine V_goto (tgt := 54) C dX5_share_188 (by decide) ?_
                first
                  | exact V_wk (by rw [hex, e6]; simp [lle]) (ih _ _ ⟨⟨_, r7, by rw [hex, e6]; exact hP7⟩, f7, rfl⟩)
                  | (have e0 : gv1 i1 i2 (xwd X p) S4.1 S4.2 i = ((S4.1, S4.2), 0) := by unfold gv1; rw [if_neg e9]
                     exact V_wk (by rw [hex, e0]; simp [lle]) (ih _ _ ⟨⟨I4, r4, by rw [hex, e0]; exact hP4⟩, f4, rfl⟩))
    · rintro h4 ls4 ⟨⟨I4, r4, hP4⟩, f4, rfl⟩
      have m0 := r4.m0
      have m10 := r4.m10
      have m11 := r4.m11
      obtain ⟨p1, p2⟩ : I4 10 p = nI (xwd X p) ∧ I4 11 p = nI (xhg X p) := hP4.2.2.1 p hp
      refine V_iload C dX5_share_54 rfl ?_
      refine V_aload_n (i := 0) C dX5_share_56 rfl rfl ?_
      refine V_get (ci := 5) (CN := RX5) (T := TX5) (N := 26) C dX5_share_57 (by first | assumption | exact hset_s _ _ _) rfl 10 (by decide) flX5_share_30 wiX5_share_X5 (by rfl) ?_
      refine V_iload_n (i := 1) C dX5_share_60 rfl rfl ?_
      refine V_ialdK C dX5_share_61 (by first | assumption | exact hset_s _ _ _) rfl (by omega) (by decide) p1 ?_
      refine V_aload_n (i := 0) C dX5_share_62 rfl rfl ?_
      refine V_get (ci := 5) (CN := RX5) (T := TX5) (N := 26) C dX5_share_63 (by first | assumption | exact hset_s _ _ _) rfl 11 (by decide) flX5_share_33 wiX5_share_X5 (by rfl) ?_
      refine V_iload_n (i := 1) C dX5_share_66 rfl rfl ?_
      refine V_ialdK C dX5_share_67 (by first | assumption | exact hset_s _ _ _) rfl (by omega) (by decide) p2 ?_
      refine V_imul C dX5_share_68 ?_
      rw [pk_mul]
      refine V_icmp_ge (tgt := 191) C dX5_share_69 (by decide) (fun _ => ?_) (fun z9 => absurd (nI_le (Nat.le_refl _) (by omega)) z9)
      refine V_iload C dX5_share_191 rfl ?_
      exact V_iret C dX5_share_193 hr ⟨⟨_, rfl, fun _ => rfl⟩, ⟨I4, F, r4, hP4⟩, f4⟩ (by exact Nat.le_of_ble_eq_true rfl) (by exact Nat.le_of_ble_eq_true rfl)
  refine V_join 30 (fun h2 ls2 st2 => h2 = h ∧ ls2 = [some (.ref (A 0)), some (.int x), some (.int a), some (.int b), none, none, none, none, none] ∧ ∃ y, y = (if picN X x ∧ lotN X a ∧ lotN X b then (1 : Int32) else 0) ∧ st2 = [.int y, .ref (A 0)]) ?_ (fun hj => ?_)
  · rintro h2 ls2 st2 ⟨z9, rfl, y, hy, rfl⟩
    have z9 := z9.symm
    subst z9
    refine V_join 40 (fun h2 ls2 st2 => h2 = h ∧ ls2 = [some (.ref (A 0)), some (.int x), some (.int a), some (.int b), none, none, none, none, none] ∧ ∃ z, z = (if ¬ a = b then (1 : Int32) else 0) ∧ st2 = [.int z, .int y, .ref (A 0)]) ?_ (fun hj2 => ?_)
    · rintro h2 ls2 st2 ⟨z9, rfl, z, hz, rfl⟩
      have z9 := z9.symm
      subst z9
      refine V_callV (n := 2) C (r_asked2 r hy (fun _ => hz)) dX5_share_40 gX5_share_X5_asked_ rfl (by first | assumption | exact hset_s _ _ _) rfl (by decide +kernel) rfl rfl (by exact Nat.le_of_ble_eq_true rfl) ⟨Nat.le_of_ble_eq_true rfl, Nat.le_of_ble_eq_true rfl⟩ ⟨Nat.le_of_ble_eq_true rfl, Nat.le_of_ble_eq_true rfl⟩ (fun v9 h9 hr9 => ?_)
      obtain ⟨rfl, r2, f2⟩ := hr9
      refine V_if_ne (tgt := 48) C dX5_share_43 (by decide) (fun c43 => ?_) (fun c43 => ?_)
      · have c43 := Classical.not_not.mp (fun z => c43 (ite0.mpr z))
        rw [if_pos c43.1, if_pos c43.2] at r2
        exact hj48 _ _ _ ⟨r2, f2, c43.1, c43.2, rfl, rfl⟩
      · have c43 := ite0.mp c43
        refine V_iconst (v := 0) C dX5_share_46 (by decide) ?_
        exact V_iret C dX5_share_47 hr (by
          by_cases h1 : picN X x ∧ lotN X a ∧ lotN X b
          · have h2 : a = b := Classical.not_not.mp (fun z => c43 ⟨h1, z⟩)
            rw [if_pos h1, if_neg (fun z => z h2)] at r2
            rw [if_pos h1, if_pos h2] at esp
            rw [esp]
            exact Rst_x r2 hP f2 (by decide +kernel)
          · rw [if_neg h1] at r2
            rw [if_neg h1] at esp
            rw [esp]
            exact Rst_x r2 hP f2 (by decide +kernel)) (by exact Nat.le_of_ble_eq_true rfl) (by exact Nat.le_of_ble_eq_true rfl)
    · refine V_iload_n (i := 2) C dX5_share_30 rfl rfl ?_
      refine V_iload_n (i := 3) C dX5_share_31 rfl rfl ?_
      refine V_icmp_eq (tgt := 39) C dX5_share_32 (by decide) (fun c32 => ?_) (fun c32 => ?_)
      · have c32 : a = b := c32
        refine V_iconst (v := 0) C dX5_share_39 (by decide) ?_
        exact hj2 _ _ _ ⟨rfl, rfl, _, by first | exact (if_pos c32).symm | exact (if_neg (fun z => z c32)).symm, rfl⟩
      · have c32 : ¬ a = b := c32
        refine V_iconst (v := 1) C dX5_share_35 (by decide) ?_
        refine V_goto (tgt := 40) C dX5_share_36 (by decide) ?_
        exact hj2 _ _ _ ⟨rfl, rfl, _, by first | exact (if_pos c32).symm | exact (if_neg (fun z => z c32)).symm, rfl⟩
  · refine V_aload_n (i := 0) C dX5_share_0 rfl rfl ?_
    refine V_aload_n (i := 0) C dX5_share_1 rfl rfl ?_
    refine V_iload_n (i := 1) C dX5_share_2 rfl rfl ?_
    refine V_callV (n := 1) C (r_isPicX r hd) dX5_share_3 gX5_share_X5_isPicture rfl (by first | assumption | exact hset_s _ _ _) rfl (by decide +kernel) rfl rfl (by exact Nat.le_of_ble_eq_true rfl) ⟨Nat.le_of_ble_eq_true rfl, Nat.le_of_ble_eq_true rfl⟩ ⟨Nat.le_of_ble_eq_true rfl, Nat.le_of_ble_eq_true rfl⟩ (fun v9 h9 hr9 => ?_)
    obtain ⟨rfl, z9⟩ := hr9
    have z9 := z9.symm
    subst z9
    refine V_if_eq (tgt := 29) C dX5_share_6 (by decide) (fun c6 => ?_) (fun c6 => ?_)
    · have c6 := ite0.mp c6
      have e9 : ¬ (picN X x ∧ lotN X a ∧ lotN X b) := fun z => c6 z.1
      refine V_iconst (v := 0) C dX5_share_29 (by decide) ?_
      exact hj _ _ _ ⟨rfl, rfl, _, by first | exact (if_pos e9).symm | exact (if_neg e9).symm, rfl⟩
    · have c6 := Classical.not_not.mp (fun z => c6 (ite0.mpr z))
      refine V_aload_n (i := 0) C dX5_share_9 rfl rfl ?_
      refine V_iload_n (i := 2) C dX5_share_10 rfl rfl ?_
      refine V_callV (n := 1) C (r_isLotX r hd) dX5_share_11 gX5_share_X5_isLot rfl (by first | assumption | exact hset_s _ _ _) rfl (by decide +kernel) rfl rfl (by exact Nat.le_of_ble_eq_true rfl) ⟨Nat.le_of_ble_eq_true rfl, Nat.le_of_ble_eq_true rfl⟩ ⟨Nat.le_of_ble_eq_true rfl, Nat.le_of_ble_eq_true rfl⟩ (fun v9 h9 hr9 => ?_)
      obtain ⟨rfl, z9⟩ := hr9
      have z9 := z9.symm
      subst z9
      refine V_if_eq (tgt := 29) C dX5_share_14 (by decide) (fun c14 => ?_) (fun c14 => ?_)
      · have c14 := ite0.mp c14
        have e9 : ¬ (picN X x ∧ lotN X a ∧ lotN X b) := fun z => c14 z.2.1
        refine V_iconst (v := 0) C dX5_share_29 (by decide) ?_
        exact hj _ _ _ ⟨rfl, rfl, _, by first | exact (if_pos e9).symm | exact (if_neg e9).symm, rfl⟩
      · have c14 := Classical.not_not.mp (fun z => c14 (ite0.mpr z))
        refine V_aload_n (i := 0) C dX5_share_17 rfl rfl ?_
        refine V_iload_n (i := 3) C dX5_share_18 rfl rfl ?_
        refine V_callV (n := 1) C (r_isLotX r hd) dX5_share_19 gX5_share_X5_isLot rfl (by first | assumption | exact hset_s _ _ _) rfl (by decide +kernel) rfl rfl (by exact Nat.le_of_ble_eq_true rfl) ⟨Nat.le_of_ble_eq_true rfl, Nat.le_of_ble_eq_true rfl⟩ ⟨Nat.le_of_ble_eq_true rfl, Nat.le_of_ble_eq_true rfl⟩ (fun v9 h9 hr9 => ?_)
        obtain ⟨rfl, z9⟩ := hr9
        have z9 := z9.symm
        subst z9
        refine V_if_eq (tgt := 29) C dX5_share_22 (by decide) (fun c22 => ?_) (fun c22 => ?_)
        · have c22 := ite0.mp c22
          have e9 : ¬ (picN X x ∧ lotN X a ∧ lotN X b) := fun z => c22 z.2.2
          refine V_iconst (v := 0) C dX5_share_29 (by decide) ?_
          exact hj _ _ _ ⟨rfl, rfl, _, by first | exact (if_pos e9).symm | exact (if_neg e9).symm, rfl⟩
        · have c22 := Classical.not_not.mp (fun z => c22 (ite0.mpr z))
          have e9 : picN X x ∧ lotN X a ∧ lotN X b := ⟨c6, c14, c22⟩
          refine V_iconst (v := 1) C dX5_share_25 (by decide) ?_
          refine V_goto (tgt := 30) C dX5_share_26 (by decide) ?_
          exact hj _ _ _ ⟨rfl, rfl, _, by first | exact (if_pos e9).symm | exact (if_neg e9).symm, rfl⟩
end RPUB8
