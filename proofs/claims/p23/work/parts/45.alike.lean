/-! what the law draws; the two pictures are alike -/
section ALIKE
variable {l : Launch} {D : va_G} {cA : Nat → ClassId} {bs b L : Nat} {xs : Nat → Int32} {A B : XS} {h : hE} {q r w g : Nat}
theorem and30 (x : Int32) : ∃ m, m < 2 ^ 30 ∧ x &&& 1073741823 = nI m := pk_andE x 30 (by decide)
set_option maxHeartbeats 4000000 in
set_option maxRecDepth 100000 in
theorem w_drawn (hL : L ≤ 2560) {k : Nat} (hk : k < 2 ^ 31) : Md l D cA bs b L xs yL_drawn wsL_drawn (rmk 0 0 0) [.ref b, .int (nI k)] h (fun v h2 => (∃ m, m < 2 ^ 30 ∧ v = some (.int (nI m))) ∧ h2 = h) := by
  refine Md_of (cc := cL_drawn) (maxL := 3) (ret := some .int) (own := RL) [some (.ref b), some (.int (nI k)), none] rfl (by decide +kernel) rfl rfl (by exact Nat.le_of_ble_eq_true rfl) rfl ?_
  intro p9 e9 s9 m9 args9 below9 meth9 c9 C hr hX hbl hbA
  have hv : ∀ x : Int32, ∃ m, m < 2 ^ 30 ∧ some (Value.int (x &&& 1073741823)) = some (.int (nI m)) := fun x => by
    obtain ⟨m, h1, h2⟩ := and30 x
    exact ⟨m, h1, by rw [h2]⟩
  refine V_iload_n (i := 1) C dL_drawn_0 rfl rfl ?_
  refine V_aload_n (i := 0) C dL_drawn_1 rfl rfl ?_
  refine V_slen C hX hbl hbA dL_drawn_2 ?_
  refine V_icmp_ge (tgt := 12) C dL_drawn_3 (by decide) (fun c3 => ?_) (fun c3 => ?_)
  · refine V_sipush (v := 14621) C dL_drawn_12 (by decide) ?_
    refine V_iload_n (i := 1) C dL_drawn_15 rfl rfl ?_
    refine V_imul C dL_drawn_16 ?_
    refine V_sipush (v := 11027) C dL_drawn_17 (by decide) ?_
    refine V_iadd C dL_drawn_20 ?_
    refine V_istore2 C dL_drawn_21 (by decide) ?_
    refine V_iload_n (i := 2) C dL_drawn_22 rfl rfl ?_
    refine V_ldci (v := 1073741823) C dL_drawn_23 (by decide +kernel) ?_
    refine V_iand C dL_drawn_25 ?_
    exact V_iret C dL_drawn_26 hr ⟨hv _, rfl⟩ (by exact Nat.le_of_ble_eq_true rfl) (by exact Nat.le_of_ble_eq_true rfl)
  · have hkL : k < L := Nat.not_le.mp (fun z => c3 (nI_le z hk))
    refine V_aload_n (i := 0) C dL_drawn_6 rfl rfl ?_
    refine V_iload_n (i := 1) C dL_drawn_7 rfl rfl ?_
    refine V_scr C hX hbl hbA dL_drawn_8 rfl hkL hL rfl ?_
    refine V_goto (tgt := 21) C dL_drawn_9 (by decide) ?_
    refine V_istore2 C dL_drawn_21 (by decide) ?_
    refine V_iload_n (i := 2) C dL_drawn_22 rfl rfl ?_
    refine V_ldci (v := 1073741823) C dL_drawn_23 (by decide +kernel) ?_
    refine V_iand C dL_drawn_25 ?_
    exact V_iret C dL_drawn_26 hr ⟨hv _, rfl⟩ (by exact Nat.le_of_ble_eq_true rfl) (by exact Nat.le_of_ble_eq_true rfl)
theorem N64 (hw : w ≤ 8) (hg : g ≤ 8) : w * g ≤ 64 := Nat.mul_le_mul hw hg
set_option maxHeartbeats 16000000 in
set_option maxRecDepth 100000 in
theorem w_areAlike (hlt : l.stackTraces = false) (t : TW cA q r A B h) (hR : RW w g A B) (hw1 : 1 ≤ w) (hw : w ≤ 8) (hg1 : 1 ≤ g) (hg : g ≤ 8) : Mc l D cA bs SZl yL_areAlike wsL_areAlike (rmk 11 2056 15420) [.ref q, .ref r, .int 1, .int 0, .int (nI w), .int (nI g)] h (fun v h2 => v = some (.int 1) ∧ ∃ A2 B2, BQ 1 A A2 ∧ BQ 0 B B2 ∧ TW cA q r A2 B2 h2) := by
  have hN := N64 hw hg
  refine Mc_of0 (cc := cL_areAlike) (maxL := 10) (ret := some .boolean) (own := RL) [some (.ref q), some (.ref r), some (.int 1), some (.int 0), some (.int (nI w)), some (.int (nI g)), none, none, none, none] rfl (by decide +kernel) rfl rfl (by exact Nat.le_of_ble_eq_true rfl) rfl ?_
  intro p9 e9 s9 m9 args9 below9 meth9 c9 C hr hz hsz
  refine V_aload_n (i := 0) C dL_areAlike_0 rfl rfl ?_
  refine V_bipush (v := 6) C dL_areAlike_1 (by decide) ?_
  refine V_iload_n (i := 2) C dL_areAlike_3 rfl rfl ?_
  refine V_iconst (v := 0) C dL_areAlike_4 (by decide) ?_
  refine V_ccallS (n := 4) C (ta_edge hlt t) dL_areAlike_5 gL_areAlike_L_does rfl (by decide +kernel) rfl rfl (by exact Nat.le_of_ble_eq_true rfl) ⟨Nat.le_of_ble_eq_true rfl, Nat.le_of_ble_eq_true rfl⟩ ⟨Nat.le_of_ble_eq_true rfl, Nat.le_of_ble_eq_true rfl⟩ hz SZl.moves hsz (fun v9 h9 hr9 => ?_)
  obtain ⟨rfl, t1⟩ := hr9
  refine V_aload_n (i := 1) C dL_areAlike_8 rfl rfl ?_
  refine V_bipush (v := 6) C dL_areAlike_9 (by decide) ?_
  refine V_iload_n (i := 3) C dL_areAlike_11 rfl rfl ?_
  refine V_iconst (v := 0) C dL_areAlike_12 (by decide) ?_
  refine V_ccallS (n := 4) C (tb_edge hlt t1) dL_areAlike_13 gL_areAlike_L_does rfl (by decide +kernel) rfl rfl (by exact Nat.le_of_ble_eq_true rfl) ⟨Nat.le_of_ble_eq_true rfl, Nat.le_of_ble_eq_true rfl⟩ ⟨Nat.le_of_ble_eq_true rfl, Nat.le_of_ble_eq_true rfl⟩ hz SZl.moves hsz (fun v9 h9 hr9 => ?_)
  obtain ⟨rfl, t2⟩ := hr9
  refine V_icmp_ne (tgt := 23) C dL_areAlike_16 (by decide) (fun z9 => absurd z9 (fun z => z hR.edges)) (fun _ => ?_)
  refine V_iconst (v := 1) C dL_areAlike_19 (by decide) ?_
  refine V_goto (tgt := 24) C dL_areAlike_20 (by decide) ?_
  refine V_istore6 C dL_areAlike_24 (by decide) ?_
  refine V_iconst (v := 0) C dL_areAlike_26 (by decide) ?_
  refine V_istore7 C dL_areAlike_27 (by decide) ?_
  refine V_wid (k2 := 8 + 32 * 0) (n2 := 60 + 240 * 0) (by exact Nat.le_of_ble_eq_true rfl) (by exact Nat.le_of_ble_eq_true rfl) ?_
  refine V_forC (fun i => 8 + 32 * i) (fun i => 60 + 240 * i) (w * g) (fun i h4 ls4 => (∃ A2 B2, BQ 1 A A2 ∧ BQ 0 B B2 ∧ TW cA q r A2 B2 h4) ∧ ls4 = [some (.ref q), some (.ref r), some (.int 1), some (.int 0), some (.int (nI w)), some (.int (nI g)), some (.int 1), some (.int (nI i)), none, none]) ?_ ?_ 0 (Nat.zero_le _) ⟨⟨A, B, BQ.rf, BQ.rf, t2⟩, rfl⟩
  · rintro i h4 ls4 hi ⟨⟨A2, B2, qA, qB, t4⟩, rfl⟩ ih
    have hi64 : i < 64 := Nat.lt_of_lt_of_le hi hN
    have hR4 := hR.bq qA qB
    have hx : i % w < w := Nat.mod_lt i hw1
    have hy : i / w < g := k_div hi
    have hx8 : i % w < 2 ^ 31 := by omega
    have e0 := hR4.ofC hw hg hx hy (t := 0) (Or.inl rfl)
    have e2 := hR4.ofC hw hg hx hy (t := 2) (Or.inr (Or.inl rfl))
    have e3 := hR4.ofC hw hg hx hy (t := 3) (Or.inr (Or.inr rfl))
    obtain ⟨e4, b1, b2⟩ := hR4.aims hw hg hx hy
    have hne : ¬ nI w = 0 := nI_ne0 hw1 (by omega)
    refine V_iload C dL_areAlike_29 rfl ?_
    refine V_iload C dL_areAlike_31 rfl ?_
    refine V_iload C dL_areAlike_33 rfl ?_
    refine V_imul C dL_areAlike_35 ?_
    rw [pk_mul]
    refine V_icmp_ge (tgt := 167) C dL_areAlike_36 (by decide) (fun z9 => absurd z9 (nI_ge hi (by omega))) (fun _ => ?_)
    refine V_iload C dL_areAlike_39 rfl ?_
    refine V_if_eq (tgt := 167) C dL_areAlike_41 (by decide) (fun z9 => absurd z9 (by decide)) (fun _ => ?_)
    refine V_iload C dL_areAlike_44 rfl ?_
    refine V_iload C dL_areAlike_46 rfl ?_
    refine V_irem C dL_areAlike_48 hne ?_
    rw [pk_rem (a := i) (d := w) (by omega) hw1 (by omega)]
    refine V_istore8 C dL_areAlike_49 (by decide) ?_
    refine V_iload C dL_areAlike_51 rfl ?_
    refine V_iload C dL_areAlike_53 rfl ?_
    refine V_idiv C dL_areAlike_55 hne ?_
    rw [pk_div (a := i) (d := w) (by omega) hw1 (by omega)]
    refine V_istore9 C dL_areAlike_56 (by decide) ?_
    refine V_aload_n (i := 0) C dL_areAlike_58 rfl rfl ?_
    refine V_iconst (v := 2) C dL_areAlike_59 (by decide) ?_
    refine V_iload_n (i := 2) C dL_areAlike_60 rfl rfl ?_
    refine V_iload C dL_areAlike_61 rfl ?_
    refine V_iload C dL_areAlike_63 rfl ?_
    refine V_iconst (v := 0) C dL_areAlike_65 (by decide) ?_
    refine V_ccallS (n := 6) C (ta_ofCell hlt t4) dL_areAlike_66 gL_areAlike_L_cell rfl (by decide +kernel) rfl rfl (by exact Nat.le_of_ble_eq_true rfl) ⟨by dsimp only [rmk]; omega, by dsimp only [rmk]; omega⟩ ⟨Nat.le_of_ble_eq_true rfl, Nat.le_of_ble_eq_true rfl⟩ hz SZl.moves hsz (fun v9 h9 hr9 => ?_)
    obtain ⟨rfl, t5⟩ := hr9
    refine V_aload_n (i := 1) C dL_areAlike_69 rfl rfl ?_
    refine V_iconst (v := 2) C dL_areAlike_70 (by decide) ?_
    refine V_iload_n (i := 3) C dL_areAlike_71 rfl rfl ?_
    refine V_iload C dL_areAlike_72 rfl ?_
    refine V_iload C dL_areAlike_74 rfl ?_
    refine V_iconst (v := 0) C dL_areAlike_76 (by decide) ?_
    refine V_ccallS (n := 6) C (tb_ofCell hlt t5) dL_areAlike_77 gL_areAlike_L_cell rfl (by decide +kernel) rfl rfl (by exact Nat.le_of_ble_eq_true rfl) ⟨by dsimp only [rmk]; omega, by dsimp only [rmk]; omega⟩ ⟨Nat.le_of_ble_eq_true rfl, Nat.le_of_ble_eq_true rfl⟩ hz SZl.moves hsz (fun v9 h9 hr9 => ?_)
    obtain ⟨rfl, t6⟩ := hr9
    refine V_icmp_ne (tgt := 158) C dL_areAlike_80 (by decide) (fun z9 => absurd z9 (fun z => z e0)) (fun _ => ?_)
    refine V_aload_n (i := 0) C dL_areAlike_83 rfl rfl ?_
    refine V_iconst (v := 2) C dL_areAlike_84 (by decide) ?_
    refine V_iload_n (i := 2) C dL_areAlike_85 rfl rfl ?_
    refine V_iload C dL_areAlike_86 rfl ?_
    refine V_iload C dL_areAlike_88 rfl ?_
    refine V_iconst (v := 2) C dL_areAlike_90 (by decide) ?_
    refine V_ccallS (n := 6) C (ta_ofCell hlt t6) dL_areAlike_91 gL_areAlike_L_cell rfl (by decide +kernel) rfl rfl (by exact Nat.le_of_ble_eq_true rfl) ⟨by dsimp only [rmk]; omega, by dsimp only [rmk]; omega⟩ ⟨Nat.le_of_ble_eq_true rfl, Nat.le_of_ble_eq_true rfl⟩ hz SZl.moves hsz (fun v9 h9 hr9 => ?_)
    obtain ⟨rfl, t7⟩ := hr9
    refine V_aload_n (i := 1) C dL_areAlike_94 rfl rfl ?_
    refine V_iconst (v := 2) C dL_areAlike_95 (by decide) ?_
    refine V_iload_n (i := 3) C dL_areAlike_96 rfl rfl ?_
    refine V_iload C dL_areAlike_97 rfl ?_
    refine V_iload C dL_areAlike_99 rfl ?_
    refine V_iconst (v := 2) C dL_areAlike_101 (by decide) ?_
    refine V_ccallS (n := 6) C (tb_ofCell hlt t7) dL_areAlike_102 gL_areAlike_L_cell rfl (by decide +kernel) rfl rfl (by exact Nat.le_of_ble_eq_true rfl) ⟨by dsimp only [rmk]; omega, by dsimp only [rmk]; omega⟩ ⟨Nat.le_of_ble_eq_true rfl, Nat.le_of_ble_eq_true rfl⟩ hz SZl.moves hsz (fun v9 h9 hr9 => ?_)
    obtain ⟨rfl, t8⟩ := hr9
    refine V_icmp_ne (tgt := 158) C dL_areAlike_105 (by decide) (fun z9 => absurd z9 (fun z => z e2)) (fun _ => ?_)
    refine V_aload_n (i := 0) C dL_areAlike_108 rfl rfl ?_
    refine V_iconst (v := 2) C dL_areAlike_109 (by decide) ?_
    refine V_iload_n (i := 2) C dL_areAlike_110 rfl rfl ?_
    refine V_iload C dL_areAlike_111 rfl ?_
    refine V_iload C dL_areAlike_113 rfl ?_
    refine V_iconst (v := 3) C dL_areAlike_115 (by decide) ?_
    refine V_ccallS (n := 6) C (ta_ofCell hlt t8) dL_areAlike_116 gL_areAlike_L_cell rfl (by decide +kernel) rfl rfl (by exact Nat.le_of_ble_eq_true rfl) ⟨by dsimp only [rmk]; omega, by dsimp only [rmk]; omega⟩ ⟨Nat.le_of_ble_eq_true rfl, Nat.le_of_ble_eq_true rfl⟩ hz SZl.moves hsz (fun v9 h9 hr9 => ?_)
    obtain ⟨rfl, t9⟩ := hr9
    refine V_aload_n (i := 1) C dL_areAlike_119 rfl rfl ?_
    refine V_iconst (v := 2) C dL_areAlike_120 (by decide) ?_
    refine V_iload_n (i := 3) C dL_areAlike_121 rfl rfl ?_
    refine V_iload C dL_areAlike_122 rfl ?_
    refine V_iload C dL_areAlike_124 rfl ?_
    refine V_iconst (v := 3) C dL_areAlike_126 (by decide) ?_
    refine V_ccallS (n := 6) C (tb_ofCell hlt t9) dL_areAlike_127 gL_areAlike_L_cell rfl (by decide +kernel) rfl rfl (by exact Nat.le_of_ble_eq_true rfl) ⟨by dsimp only [rmk]; omega, by dsimp only [rmk]; omega⟩ ⟨Nat.le_of_ble_eq_true rfl, Nat.le_of_ble_eq_true rfl⟩ hz SZl.moves hsz (fun v9 h9 hr9 => ?_)
    obtain ⟨rfl, t10⟩ := hr9
    refine V_icmp_ne (tgt := 158) C dL_areAlike_130 (by decide) (fun z9 => absurd z9 (fun z => z e3)) (fun _ => ?_)
    refine V_aload_n (i := 0) C dL_areAlike_133 rfl rfl ?_
    refine V_iload_n (i := 2) C dL_areAlike_134 rfl rfl ?_
    refine V_iload C dL_areAlike_135 rfl ?_
    refine V_iload C dL_areAlike_137 rfl ?_
    refine V_ccallS (n := 4) C (ta_aimAnew hlt t10) dL_areAlike_139 gL_areAlike_L_aimAnew rfl (by decide +kernel) rfl rfl (by exact Nat.le_of_ble_eq_true rfl) ⟨by dsimp only [rmk]; omega, by dsimp only [rmk]; omega⟩ ⟨Nat.le_of_ble_eq_true rfl, Nat.le_of_ble_eq_true rfl⟩ hz SZl.moves hsz (fun v9 h9 hr9 => ?_)
    obtain ⟨rfl, t11⟩ := hr9
    refine V_aload_n (i := 1) C dL_areAlike_142 rfl rfl ?_
    refine V_iload_n (i := 3) C dL_areAlike_143 rfl rfl ?_
    refine V_iload C dL_areAlike_144 rfl ?_
    refine V_iload C dL_areAlike_146 rfl ?_
    refine V_ccallS (n := 4) C (tb_aimAnew hlt t11) dL_areAlike_148 gL_areAlike_L_aimAnew rfl (by decide +kernel) rfl rfl (by exact Nat.le_of_ble_eq_true rfl) ⟨by dsimp only [rmk]; omega, by dsimp only [rmk]; omega⟩ ⟨Nat.le_of_ble_eq_true rfl, Nat.le_of_ble_eq_true rfl⟩ hz SZl.moves hsz (fun v9 h9 hr9 => ?_)
    obtain ⟨rfl, t12⟩ := hr9
    refine V_icmp_ne (tgt := 158) C dL_areAlike_151 (by decide) (fun z9 => absurd z9 (fun z => z e4)) (fun _ => ?_)
    refine V_iconst (v := 1) C dL_areAlike_154 (by decide) ?_
    refine V_goto (tgt := 159) C dL_areAlike_155 (by decide) ?_
    refine V_istore6 C dL_areAlike_159 (by decide) ?_
    refine V_iinc7 (v := nI (i + 1)) C dL_areAlike_161 (nI_1 _) (by decide) ?_
    refine V_goto (tgt := 29) C dL_areAlike_164 (by decide) ?_
    exact V_wid (k2 := 8 + 32 * (i + 1)) (n2 := 60 + 240 * (i + 1)) (by dsimp only [rmk]; omega) (by dsimp only [rmk]; omega) (V_wk (by simp [lle]) (ih _ _ ⟨⟨_, _, qA.tr b1, qB.tr b2, t12⟩, rfl⟩))
  · rintro h4 ls4 ⟨⟨A2, B2, qA, qB, t4⟩, rfl⟩
    refine V_iload C dL_areAlike_29 rfl ?_
    refine V_iload C dL_areAlike_31 rfl ?_
    refine V_iload C dL_areAlike_33 rfl ?_
    refine V_imul C dL_areAlike_35 ?_
    rw [pk_mul]
    refine V_icmp_ge (tgt := 167) C dL_areAlike_36 (by decide) (fun _ => ?_) (fun z9 => absurd (nI_le (Nat.le_refl _) (by omega)) z9)
    refine V_iload C dL_areAlike_167 rfl ?_
    exact V_zret C dL_areAlike_169 hr rfl ⟨rfl, A2, B2, qA, qB, t4⟩ (by show 8 + 32 * (w * g) ≤ 2056; omega) (by show 60 + 240 * (w * g) ≤ 15420; omega)
end ALIKE
