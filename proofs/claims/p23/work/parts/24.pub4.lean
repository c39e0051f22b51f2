/-! the calls: pass, hour, and those that only tell -/
theorem lfS_inv {c : Nat} {u : Int32} (hc : c < 3) (f : Nat) : ∀ (X : XS) (d : Nat), LI X → LI (lfS c u f X d).1 ∧ xcr (lfS c u f X d).1 = xcr X ∧ (lfS c u f X d).1.1 = X.1 := by
  induction f with
  | zero => intro X d h; exact ⟨h, rfl, rfl⟩
  | succ f ih =>
    intro X d h
    unfold lfS
    split
    · exact ⟨h, rfl, rfl⟩
    · rename_i q hq
      obtain ⟨h1, h2, h3⟩ := ih (lyX X q.1 q.2.1 q.2.2 u (u + rdy (xcr X c))) (d + 1) (h.ly (lyO_in h hc (show lyO X c u = some (q.1, q.2.1, q.2.2) from hq)).2.2.2.2.1)
      exact ⟨h1, h2, h3⟩
def RT (X : XS) : Prop := ∀ c, c < 3 → ∃ f, f ≤ 9 ∧ rrt (xcr X c) = nI f
theorem crS_inv {Z : Nat → Nat → Nat} {ta : Nat → Nat → Option Nat} {c : Nat} {u : Int32} {S : XS × Nat} (hc : c < 3) (h : LI S.1) (hr : RT S.1) (t : tyv Z S.1 ta) : LI (crS u S c).1 ∧ RT (crS u S c).1 ∧ tyv Z (crS u S c).1 ta ∧ (crS u S c).1.1 = S.1.1 := by
  obtain ⟨h1, h2, h3⟩ := lfS_inv (u := u) hc (tN (rrt (xcr S.1 c))) S.1 0 h
  have hl : xnl (lfS c u (tN (rrt (xcr S.1 c))) S.1 0).1 = xnl S.1 := congrArg (fun a => a.1) h3
  have hp : xnp (lfS c u (tN (rrt (xcr S.1 c))) S.1 0).1 = xnp S.1 := congrArg (fun a => a.2.1) h3
  refine ⟨⟨h1.1, h1.2.1, fun c2 hc2 p hpp => ?_⟩, fun c2 hc2 => ?_, fun c2 hc2 => ?_, h3⟩
  · have hpp : rpc (fset (xcr S.1) c (rrt (xcr S.1 c), rdy (xcr S.1 c), rpc (xcr S.1 c), rmt (xcr S.1 c), rtr (xcr S.1 c), rld (xcr S.1 c) + nI (lfS c u (tN (rrt (xcr S.1 c))) S.1 0).2) c2) = some p := hpp
    show p < xnp (lfS c u (tN (rrt (xcr S.1 c))) S.1 0).1
    rw [hp]
    by_cases hcc : c2 = c
    · subst hcc
      rw [fset_s] at hpp
      exact h.2.2 c2 hc2 p hpp
    · rw [fset_n hcc] at hpp
      exact h.2.2 c2 hc2 p hpp
  · show ∃ f, f ≤ 9 ∧ rrt (fset (xcr S.1) c (rrt (xcr S.1 c), rdy (xcr S.1 c), rpc (xcr S.1 c), rmt (xcr S.1 c), rtr (xcr S.1 c), rld (xcr S.1 c) + nI (lfS c u (tN (rrt (xcr S.1 c))) S.1 0).2) c2) = nI f
    by_cases hcc : c2 = c
    · subst hcc
      rw [fset_s]
      exact hr c2 hc2
    · rw [fset_n hcc]
      exact hr c2 hc2
  · show (rtr (fset (xcr S.1) c _ c2)).length ≤ 4 ∧ (∀ b, b ∈ rtr (fset (xcr S.1) c _ c2) → b < xnl (lfS c u (tN (rrt (xcr S.1 c))) S.1 0).1) ∧ ∀ i b, (rtr (fset (xcr S.1) c _ c2))[i]? = some b → ta c2 i = some (Z 1 b)
    rw [hl]
    by_cases hcc : c2 = c
    · subst hcc
      rw [fset_s]
      exact t c2 hc2
    · rw [fset_n hcc]
      exact t c2 hc2
theorem crN_inv {Z : Nat → Nat → Nat} {ta : Nat → Nat → Option Nat} {u : Int32} {S : XS × Nat} (h : LI S.1) (hr : RT S.1) (t : tyv Z S.1 ta) : ∀ c, c ≤ 3 → LI (crN u S c).1 ∧ RT (crN u S c).1 ∧ tyv Z (crN u S c).1 ta ∧ (crN u S c).1.1 = S.1.1 := by
  intro c
  induction c with
  | zero => intro _; exact ⟨h, hr, t, rfl⟩
  | succ c ih =>
    intro hc
    obtain ⟨a1, a2, a3, a4⟩ := ih (by omega)
    obtain ⟨b1, b2, b3, b4⟩ := crS_inv (u := u) (c := c) (by omega) a1 a2 a3
    exact ⟨b1, b2, b3, b4.trans a4⟩
theorem hrS_inv {Z : Nat → Nat → Nat} {ta : Nat → Nat → Option Nat} {S : XS × Nat} (h : LI S.1) (hr : RT S.1) (t : tyv Z S.1 ta) : LI (hrS S).1 ∧ RT (hrS S).1 ∧ tyv Z (hrS S).1 ta ∧ xnw (hrS S).1 = xnw S.1 + 1 := by
  obtain ⟨a1, a2, a3, a4⟩ := crN_inv (u := xnw S.1 + 1) (S := (wnw S.1 (xnw S.1 + 1), S.2)) (Z := Z) (ta := ta) h hr t 3 (by omega)
  exact ⟨a1, a2, a3, congrArg (fun a => a.2.2) a4⟩
theorem psN_inv {Z : Nat → Nat → Nat} {ta : Nat → Nat → Option Nat} {X : XS} (h : LI X) (hr : RT X) (t : tyv Z X ta) (n : Nat) : LI (psN X n).1 ∧ RT (psN X n).1 ∧ tyv Z (psN X n).1 ta := by
  induction n with
  | zero => exact ⟨h, hr, t⟩
  | succ n ih =>
    obtain ⟨a1, a2, a3, -⟩ := hrS_inv ih.1 ih.2.1 ih.2.2
    exact ⟨a1, a2, a3⟩
section PUB4
variable {l : Launch} {D : va_G} {cA : Nat → ClassId} {bs : Nat} {Z : Nat → Nat → Nat} {X : XS} {ta : Nat → Nat → Option Nat} {h : hE} {M : Nat}
set_option maxHeartbeats 4000000 in
set_option maxRecDepth 100000 in
theorem m_edge (hlt : l.stackTraces = false) (r : XR cA Z X ta h) (t : tyv Z X ta) (hI : CI M X) {x : Int32} : Mx l D cA bs SZr yX4_edge wsX4_edge (rmk 9 4 30) [.ref (Z 0 0), .int x] h (Pst cA Z X h (sp_edge X x)) (Psx h (sp_edge X x)) := by
  have hrow := r.row
  by_cases hx : picN X x
  · obtain ⟨k, hk, rfl, ek⟩ := picN_of hI.1.1 hx
    have hpic := r.pic hk
    have hsp : sp_edge X (nI k) = (none, (grS (xwd X k) (xhg X k) (xlo X) (xg X k) (xN X k)).toInt32, X) := by unfold sp_edge; rw [if_pos hx, ek]
    rw [hsp]
    refine Mx_of (cc := cX4_edge) (maxL := 2) (ret := (some .int)) (own := RX4) [some (.ref (Z 0 0)), some (.int (nI k))] rfl (by decide +kernel) rfl rfl (by exact Nat.le_of_ble_eq_true rfl) rfl ?_
    intro p9 e9 s9 m9 args9 below9 meth9 c9 C hr hex hz hsz
    refine V_aload_n (i := 0) C dX4_edge_0 rfl rfl ?_
    refine V_iload_n (i := 1) C dX4_edge_1 rfl rfl ?_
    refine V_callV (n := 1) C (c_needPic1 r hI.1.1 hk) dX4_edge_2 gX4_edge_X4_needPicture rfl (by first | assumption | exact hset_s _ _ _) rfl (by decide +kernel) rfl rfl (by exact Nat.le_of_ble_eq_true rfl) ⟨Nat.le_of_ble_eq_true rfl, Nat.le_of_ble_eq_true rfl⟩ ⟨Nat.le_of_ble_eq_true rfl, Nat.le_of_ble_eq_true rfl⟩ (fun v9 h9 hr9 => ?_)
    obtain ⟨rfl, rfl⟩ := hr9
    refine V_callV (n := 0) C (c_greatest (r.to_pl k) hI.1.1 hk (hI.1.2.1 k hk)) dX4_edge_5 gX4_edge_X3_greatestEdge rfl (by first | assumption | exact hset_s _ _ _) rfl (by decide +kernel) rfl rfl (by exact Nat.le_of_ble_eq_true rfl) ⟨Nat.le_of_ble_eq_true rfl, Nat.le_of_ble_eq_true rfl⟩ ⟨Nat.le_of_ble_eq_true rfl, Nat.le_of_ble_eq_true rfl⟩ (fun v9 h9 hr9 => ?_)
    obtain ⟨rfl, z9⟩ := hr9
    have z9 := z9.symm
    subst z9
    refine V_callS (n := 1) C (c_bitsOf (grS_fbt hI hk _ (Nat.le_refl _))) dX4_edge_8 gX4_edge_X4_bitsOf rfl (by decide +kernel) rfl rfl (by exact Nat.le_of_ble_eq_true rfl) ⟨Nat.le_of_ble_eq_true rfl, Nat.le_of_ble_eq_true rfl⟩ ⟨Nat.le_of_ble_eq_true rfl, Nat.le_of_ble_eq_true rfl⟩ (fun v9 h9 hr9 => ?_)
    obtain ⟨rfl, z9⟩ := hr9
    have z9 := z9.symm
    subst z9
    exact V_x (V_iret C dX4_edge_11 hr ⟨rfl, rfl, Z, ta, r, t, rfl, ffr.rf⟩ (by exact Nat.le_of_ble_eq_true rfl) (by exact Nat.le_of_ble_eq_true rfl))
  · have hsp : sp_edge X x = (some kIO, 0, X) := by unfold sp_edge; rw [if_neg hx]
    rw [hsp]
    refine Mx_of (cc := cX4_edge) (maxL := 2) (ret := (some .int)) (own := RX4) [some (.ref (Z 0 0)), some (.int x)] rfl (by decide +kernel) rfl rfl (by exact Nat.le_of_ble_eq_true rfl) rfl ?_
    intro p9 e9 s9 m9 args9 below9 meth9 c9 C hr hex hz hsz
    refine V_aload_n (i := 0) C dX4_edge_0 rfl rfl ?_
    refine V_iload_n (i := 1) C dX4_edge_1 rfl rfl ?_
    refine V_xcallVg (n := 1) C (c_needPic0 hlt r hI.1.1 hx) dX4_edge_2 gX4_edge_X4_needPicture rfl (by first | assumption | exact hset_s _ _ _) rfl (by decide +kernel) rfl rfl (by exact Nat.le_of_ble_eq_true rfl) ⟨Nat.le_of_ble_eq_true rfl, Nat.le_of_ble_eq_true rfl⟩ ⟨Nat.le_of_ble_eq_true rfl, Nat.le_of_ble_eq_true rfl⟩ (by exact Nat.le_of_ble_eq_true rfl) (by exact Nat.le_of_ble_eq_true rfl) hex hz SZr.moves hsz Psx_of (fun v9 h9 hr9 => ?_)
    exact hr9.elim
set_option maxHeartbeats 4000000 in
set_option maxRecDepth 100000 in
theorem m_aim (hlt : l.stackTraces = false) (r : XR cA Z X ta h) (t : tyv Z X ta) (hI : CI M X) {a b c : Int32} : Mx l D cA bs SZr yX4_aimAnew wsX4_aimAnew (rmk 9 4 30) [.ref (Z 0 0), .int a, .int b, .int c] h (Pst cA Z X h (sp_aim X a b c)) (Psx h (sp_aim X a b c)) := by
  have hrow := r.row
  by_cases hx : celN X a b c
  · obtain ⟨k, i, j, hk, hi, hj, rfl, rfl, rfl, ek, ec⟩ := celN_of hI.1.1 hx
    have hkk := at_lt hi hj
    have hpic := r.pic hk
    have hsp : sp_aim X (nI k) (nI i) (nI j) = (none, (FP.fadd (FP.i2f (cwn (anX X k (j * xwd X k + i) (j * xwd X k + i)))) (cbr (anX X k (j * xwd X k + i) (j * xwd X k + i)))).toInt32, xpl X k (xlo X) (anX X k (j * xwd X k + i))) := by unfold sp_aim; rw [if_pos hx, ek, ec]
    rw [hsp]
    refine Mx_of (cc := cX4_aimAnew) (maxL := 5) (ret := (some .int)) (own := RX4) [some (.ref (Z 0 0)), some (.int (nI k)), some (.int (nI i)), some (.int (nI j)), none] rfl (by decide +kernel) rfl rfl (by exact Nat.le_of_ble_eq_true rfl) rfl ?_
    intro p9 e9 s9 m9 args9 below9 meth9 c9 C hr hex hz hsz
    refine V_aload_n (i := 0) C dX4_aimAnew_0 rfl rfl ?_
    refine V_iload_n (i := 1) C dX4_aimAnew_1 rfl rfl ?_
    refine V_iload_n (i := 2) C dX4_aimAnew_2 rfl rfl ?_
    refine V_iload_n (i := 3) C dX4_aimAnew_3 rfl rfl ?_
    refine V_callV (n := 3) C (c_needCell1 r hI.1.1 hk hi hj) dX4_aimAnew_4 gX4_aimAnew_X4_needCell rfl (by first | assumption | exact hset_s _ _ _) rfl (by decide +kernel) rfl rfl (by exact Nat.le_of_ble_eq_true rfl) ⟨Nat.le_of_ble_eq_true rfl, Nat.le_of_ble_eq_true rfl⟩ ⟨Nat.le_of_ble_eq_true rfl, Nat.le_of_ble_eq_true rfl⟩ (fun v9 h9 hr9 => ?_)
    obtain ⟨rfl, rfl⟩ := hr9
    refine V_astore4 C dX4_aimAnew_7 (by decide) ?_
    refine V_aload_n (i := 0) C dX4_aimAnew_9 rfl rfl ?_
    refine V_iload_n (i := 1) C dX4_aimAnew_10 rfl rfl ?_
    refine V_callV (n := 1) C (c_needPic1 r hI.1.1 hk) dX4_aimAnew_11 gX4_aimAnew_X4_needPicture rfl (by first | assumption | exact hset_s _ _ _) rfl (by decide +kernel) rfl rfl (by exact Nat.le_of_ble_eq_true rfl) ⟨Nat.le_of_ble_eq_true rfl, Nat.le_of_ble_eq_true rfl⟩ ⟨Nat.le_of_ble_eq_true rfl, Nat.le_of_ble_eq_true rfl⟩ (fun v9 h9 hr9 => ?_)
    obtain ⟨rfl, rfl⟩ := hr9
    refine V_aload C dX4_aimAnew_14 rfl ?_
    refine V_callV (n := 1) C (c_aimByNow (r.to_pl k) hI.1.1 hk hkk (hI.1.2.1 k hk) (an_B hI.1 hk)) dX4_aimAnew_16 gX4_aimAnew_X3_aimByNow rfl (by first | assumption | exact hset_s _ _ _) rfl (by decide +kernel) rfl rfl (by exact Nat.le_of_ble_eq_true rfl) ⟨Nat.le_of_ble_eq_true rfl, Nat.le_of_ble_eq_true rfl⟩ ⟨Nat.le_of_ble_eq_true rfl, Nat.le_of_ble_eq_true rfl⟩ (fun v9 h9 hr9 => ?_)
    obtain ⟨rfl, r2, f2⟩ := hr9
    refine V_callS (n := 1) C (c_bitsOf (an_aim hI.1 hk hkk)) dX4_aimAnew_19 gX4_aimAnew_X4_bitsOf rfl (by decide +kernel) rfl rfl (by exact Nat.le_of_ble_eq_true rfl) ⟨Nat.le_of_ble_eq_true rfl, Nat.le_of_ble_eq_true rfl⟩ ⟨Nat.le_of_ble_eq_true rfl, Nat.le_of_ble_eq_true rfl⟩ (fun v9 h9 hr9 => ?_)
    obtain ⟨rfl, z9⟩ := hr9
    have z9 := z9.symm
    subst z9
    exact V_x (V_iret C dX4_aimAnew_22 hr ⟨rfl, rfl, Z, ta, r2, t, rfl, r.ffr f2⟩ (by exact Nat.le_of_ble_eq_true rfl) (by exact Nat.le_of_ble_eq_true rfl))
  · have hsp : sp_aim X a b c = (some kIO, 0, X) := by unfold sp_aim; rw [if_neg hx]
    rw [hsp]
    refine Mx_of (cc := cX4_aimAnew) (maxL := 5) (ret := (some .int)) (own := RX4) [some (.ref (Z 0 0)), some (.int a), some (.int b), some (.int c), none] rfl (by decide +kernel) rfl rfl (by exact Nat.le_of_ble_eq_true rfl) rfl ?_
    intro p9 e9 s9 m9 args9 below9 meth9 c9 C hr hex hz hsz
    refine V_aload_n (i := 0) C dX4_aimAnew_0 rfl rfl ?_
    refine V_iload_n (i := 1) C dX4_aimAnew_1 rfl rfl ?_
    refine V_iload_n (i := 2) C dX4_aimAnew_2 rfl rfl ?_
    refine V_iload_n (i := 3) C dX4_aimAnew_3 rfl rfl ?_
    refine V_xcallVg (n := 3) C (c_needCell0 hlt r hI.1.1 (celN_no hI.1.1 hx)) dX4_aimAnew_4 gX4_aimAnew_X4_needCell rfl (by first | assumption | exact hset_s _ _ _) rfl (by decide +kernel) rfl rfl (by exact Nat.le_of_ble_eq_true rfl) ⟨Nat.le_of_ble_eq_true rfl, Nat.le_of_ble_eq_true rfl⟩ ⟨Nat.le_of_ble_eq_true rfl, Nat.le_of_ble_eq_true rfl⟩ (by exact Nat.le_of_ble_eq_true rfl) (by exact Nat.le_of_ble_eq_true rfl) hex hz SZr.moves hsz Psx_of (fun v9 h9 hr9 => ?_)
    exact hr9.elim
set_option maxHeartbeats 4000000 in
set_option maxRecDepth 100000 in
theorem m_ofCell (hlt : l.stackTraces = false) (r : XR cA Z X ta h) (t : tyv Z X ta) (hI : CI M X) {a b c d : Int32} : Mx l D cA bs SZr yX4_ofCell wsX4_ofCell (rmk 9 4 30) [.ref (Z 0 0), .int a, .int b, .int c, .int d] h (Pst cA Z X h (sp_ofCell X a b c d)) (Psx h (sp_ofCell X a b c d)) := by
  have hrow := r.row
  by_cases hx : celN X a b c
  · obtain ⟨k, i, j, hk, hi, hj, rfl, rfl, rfl, ek, ec⟩ := celN_of hI.1.1 hx
    have hkk := at_lt hi hj
    by_cases hd : okR d 0 4
    · have hsp : sp_ofCell X (nI k) (nI i) (nI j) d = (none, ofcV (xg X k (j * xwd X k + i)) d, X) := by unfold sp_ofCell; rw [if_pos hx, if_pos hd, ek, ec]
      rw [hsp]
      have hce := r.cell hk hkk
      have hcam := (hI.2.1 k hk _ hkk).2.1
      obtain ⟨q, hq, rfl, -⟩ := okR_of (b := 4) (by decide) hd
      have hq5 : q = 0 ∨ q = 1 ∨ q = 2 ∨ q = 3 ∨ q = 4 := by omega
      rcases hq5 with rfl | rfl | rfl | rfl | rfl
      · refine Mx_of (cc := cX4_ofCell) (maxL := 6) (ret := (some .int)) (own := RX4) [some (.ref (Z 0 0)), some (.int (nI k)), some (.int (nI i)), some (.int (nI j)), some (.int (nI 0)), none] rfl (by decide +kernel) rfl rfl (by exact Nat.le_of_ble_eq_true rfl) rfl ?_
        intro p9 e9 s9 m9 args9 below9 meth9 c9 C hr hex hz hsz
        refine V_aload_n (i := 0) C dX4_ofCell_0 rfl rfl ?_
        refine V_iload_n (i := 1) C dX4_ofCell_1 rfl rfl ?_
        refine V_iload_n (i := 2) C dX4_ofCell_2 rfl rfl ?_
        refine V_iload_n (i := 3) C dX4_ofCell_3 rfl rfl ?_
        refine V_callV (n := 3) C (c_needCell1 r hI.1.1 hk hi hj) dX4_ofCell_4 gX4_ofCell_X4_needCell rfl (by first | assumption | exact hset_s _ _ _) rfl (by decide +kernel) rfl rfl (by exact Nat.le_of_ble_eq_true rfl) ⟨Nat.le_of_ble_eq_true rfl, Nat.le_of_ble_eq_true rfl⟩ ⟨Nat.le_of_ble_eq_true rfl, Nat.le_of_ble_eq_true rfl⟩ (fun v9 h9 hr9 => ?_)
        obtain ⟨rfl, rfl⟩ := hr9
        refine V_astore5 C dX4_ofCell_7 (by decide) ?_
        refine V_iload C dX4_ofCell_9 rfl ?_
        refine V_iconst (v := 0) C dX4_ofCell_11 (by decide) ?_
        refine V_iconst (v := 4) C dX4_ofCell_12 (by decide) ?_
        refine V_callS (n := 3) C (c_range1 hd.1 hd.2) dX4_ofCell_13 gX4_ofCell_X4_needRange rfl (by decide +kernel) rfl rfl (by exact Nat.le_of_ble_eq_true rfl) ⟨Nat.le_of_ble_eq_true rfl, Nat.le_of_ble_eq_true rfl⟩ ⟨Nat.le_of_ble_eq_true rfl, Nat.le_of_ble_eq_true rfl⟩ (fun v9 h9 hr9 => ?_)
        obtain ⟨rfl, rfl⟩ := hr9
        refine V_iload C dX4_ofCell_16 rfl ?_
        refine V_tableIn (off := 30) (tgt := 48) C dX4_ofCell_18 (by decide +kernel) (by decide +kernel) (by decide +kernel) (by decide +kernel) ?_
        refine V_aload C dX4_ofCell_48 rfl ?_
        refine V_get (ci := 0) (CN := RX0) (T := TX0) (N := 10) C dX4_ofCell_50 (by first | assumption | exact hset_s _ _ _) rfl 2 (by decide) flX4_ofCell_83 wiX4_ofCell_X0 (by rfl) ?_
        exact V_x (V_iret C dX4_ofCell_53 hr ⟨rfl, rfl, Z, ta, r, t, rfl, ffr.rf⟩ (by exact Nat.le_of_ble_eq_true rfl) (by exact Nat.le_of_ble_eq_true rfl))
      · rcases hb : clt (xg X k (j * xwd X k + i)) with _ | b2
        · rw [cellC_e (d := xg X k (j * xwd X k + i)) rfl hb] at hce
          refine Mx_of (cc := cX4_ofCell) (maxL := 6) (ret := (some .int)) (own := RX4) [some (.ref (Z 0 0)), some (.int (nI k)), some (.int (nI i)), some (.int (nI j)), some (.int (nI 1)), none] rfl (by decide +kernel) rfl rfl (by exact Nat.le_of_ble_eq_true rfl) rfl ?_
          intro p9 e9 s9 m9 args9 below9 meth9 c9 C hr hex hz hsz
          refine V_aload_n (i := 0) C dX4_ofCell_0 rfl rfl ?_
          refine V_iload_n (i := 1) C dX4_ofCell_1 rfl rfl ?_
          refine V_iload_n (i := 2) C dX4_ofCell_2 rfl rfl ?_
          refine V_iload_n (i := 3) C dX4_ofCell_3 rfl rfl ?_
          refine V_callV (n := 3) C (c_needCell1 r hI.1.1 hk hi hj) dX4_ofCell_4 gX4_ofCell_X4_needCell rfl (by first | assumption | exact hset_s _ _ _) rfl (by decide +kernel) rfl rfl (by exact Nat.le_of_ble_eq_true rfl) ⟨Nat.le_of_ble_eq_true rfl, Nat.le_of_ble_eq_true rfl⟩ ⟨Nat.le_of_ble_eq_true rfl, Nat.le_of_ble_eq_true rfl⟩ (fun v9 h9 hr9 => ?_)
          obtain ⟨rfl, rfl⟩ := hr9
          refine V_astore5 C dX4_ofCell_7 (by decide) ?_
          refine V_iload C dX4_ofCell_9 rfl ?_
          refine V_iconst (v := 0) C dX4_ofCell_11 (by decide) ?_
          refine V_iconst (v := 4) C dX4_ofCell_12 (by decide) ?_
          refine V_callS (n := 3) C (c_range1 hd.1 hd.2) dX4_ofCell_13 gX4_ofCell_X4_needRange rfl (by decide +kernel) rfl rfl (by exact Nat.le_of_ble_eq_true rfl) ⟨Nat.le_of_ble_eq_true rfl, Nat.le_of_ble_eq_true rfl⟩ ⟨Nat.le_of_ble_eq_true rfl, Nat.le_of_ble_eq_true rfl⟩ (fun v9 h9 hr9 => ?_)
          obtain ⟨rfl, rfl⟩ := hr9
          refine V_iload C dX4_ofCell_16 rfl ?_
          refine V_tableIn (off := 36) (tgt := 54) C dX4_ofCell_18 (by decide +kernel) (by decide +kernel) (by decide +kernel) (by decide +kernel) ?_
          refine V_aload C dX4_ofCell_54 rfl ?_
          refine V_get (ci := 0) (CN := RX0) (T := TX0) (N := 10) C dX4_ofCell_56 (by first | assumption | exact hset_s _ _ _) rfl 3 (by decide) flX4_ofCell_146 wiX4_ofCell_X0 (by rfl) ?_
          refine V_ifnonnullN C dX4_ofCell_59 ?_
          refine V_iconst (v := (-1)) C dX4_ofCell_62 (by decide) ?_
          refine V_goto (tgt := 74) C dX4_ofCell_63 (by decide) ?_
          exact V_x (V_iret C dX4_ofCell_74 hr ⟨rfl, by show _ = some (Value.int (olI (clt (xg X k (j * xwd X k + i))))); rw [hb]; rfl, Z, ta, r, t, rfl, ffr.rf⟩ (by exact Nat.le_of_ble_eq_true rfl) (by exact Nat.le_of_ble_eq_true rfl))
        · rw [cellC_e (d := xg X k (j * xwd X k + i)) rfl hb] at hce
          have hlot := r.lot (((hI.1.2.1 k hk).1 _ hkk).1 b2 hb)
          refine Mx_of (cc := cX4_ofCell) (maxL := 6) (ret := (some .int)) (own := RX4) [some (.ref (Z 0 0)), some (.int (nI k)), some (.int (nI i)), some (.int (nI j)), some (.int (nI 1)), none] rfl (by decide +kernel) rfl rfl (by exact Nat.le_of_ble_eq_true rfl) rfl ?_
          intro p9 e9 s9 m9 args9 below9 meth9 c9 C hr hex hz hsz
          refine V_aload_n (i := 0) C dX4_ofCell_0 rfl rfl ?_
          refine V_iload_n (i := 1) C dX4_ofCell_1 rfl rfl ?_
          refine V_iload_n (i := 2) C dX4_ofCell_2 rfl rfl ?_
          refine V_iload_n (i := 3) C dX4_ofCell_3 rfl rfl ?_
          refine V_callV (n := 3) C (c_needCell1 r hI.1.1 hk hi hj) dX4_ofCell_4 gX4_ofCell_X4_needCell rfl (by first | assumption | exact hset_s _ _ _) rfl (by decide +kernel) rfl rfl (by exact Nat.le_of_ble_eq_true rfl) ⟨Nat.le_of_ble_eq_true rfl, Nat.le_of_ble_eq_true rfl⟩ ⟨Nat.le_of_ble_eq_true rfl, Nat.le_of_ble_eq_true rfl⟩ (fun v9 h9 hr9 => ?_)
          obtain ⟨rfl, rfl⟩ := hr9
          refine V_astore5 C dX4_ofCell_7 (by decide) ?_
          refine V_iload C dX4_ofCell_9 rfl ?_
          refine V_iconst (v := 0) C dX4_ofCell_11 (by decide) ?_
          refine V_iconst (v := 4) C dX4_ofCell_12 (by decide) ?_
          refine V_callS (n := 3) C (c_range1 hd.1 hd.2) dX4_ofCell_13 gX4_ofCell_X4_needRange rfl (by decide +kernel) rfl rfl (by exact Nat.le_of_ble_eq_true rfl) ⟨Nat.le_of_ble_eq_true rfl, Nat.le_of_ble_eq_true rfl⟩ ⟨Nat.le_of_ble_eq_true rfl, Nat.le_of_ble_eq_true rfl⟩ (fun v9 h9 hr9 => ?_)
          obtain ⟨rfl, rfl⟩ := hr9
          refine V_iload C dX4_ofCell_16 rfl ?_
          refine V_tableIn (off := 36) (tgt := 54) C dX4_ofCell_18 (by decide +kernel) (by decide +kernel) (by decide +kernel) (by decide +kernel) ?_
          refine V_aload C dX4_ofCell_54 rfl ?_
          refine V_get (ci := 0) (CN := RX0) (T := TX0) (N := 10) C dX4_ofCell_56 (by first | assumption | exact hset_s _ _ _) rfl 3 (by decide) flX4_ofCell_146 wiX4_ofCell_X0 (by rfl) ?_
          refine V_ifnonnull (tgt := 66) C dX4_ofCell_59 (by decide) ?_
          refine V_aload C dX4_ofCell_66 rfl ?_
          refine V_get (ci := 0) (CN := RX0) (T := TX0) (N := 10) C dX4_ofCell_68 (by first | assumption | exact hset_s _ _ _) rfl 3 (by decide) flX4_ofCell_146 wiX4_ofCell_X0 (by rfl) ?_
          refine V_get (ci := 2) (CN := RX2) (T := TX2) (N := 7) C dX4_ofCell_71 (by first | assumption | exact hset_s _ _ _) rfl 0 (by decide) flX4_ofCell_150 wiX4_ofCell_X2 (by rfl) ?_
          exact V_x (V_iret C dX4_ofCell_74 hr ⟨rfl, by show _ = some (Value.int (olI (clt (xg X k (j * xwd X k + i))))); rw [hb]; rfl, Z, ta, r, t, rfl, ffr.rf⟩ (by exact Nat.le_of_ble_eq_true rfl) (by exact Nat.le_of_ble_eq_true rfl))
      · refine Mx_of (cc := cX4_ofCell) (maxL := 6) (ret := (some .int)) (own := RX4) [some (.ref (Z 0 0)), some (.int (nI k)), some (.int (nI i)), some (.int (nI j)), some (.int (nI 2)), none] rfl (by decide +kernel) rfl rfl (by exact Nat.le_of_ble_eq_true rfl) rfl ?_
        intro p9 e9 s9 m9 args9 below9 meth9 c9 C hr hex hz hsz
        refine V_aload_n (i := 0) C dX4_ofCell_0 rfl rfl ?_
        refine V_iload_n (i := 1) C dX4_ofCell_1 rfl rfl ?_
        refine V_iload_n (i := 2) C dX4_ofCell_2 rfl rfl ?_
        refine V_iload_n (i := 3) C dX4_ofCell_3 rfl rfl ?_
        refine V_callV (n := 3) C (c_needCell1 r hI.1.1 hk hi hj) dX4_ofCell_4 gX4_ofCell_X4_needCell rfl (by first | assumption | exact hset_s _ _ _) rfl (by decide +kernel) rfl rfl (by exact Nat.le_of_ble_eq_true rfl) ⟨Nat.le_of_ble_eq_true rfl, Nat.le_of_ble_eq_true rfl⟩ ⟨Nat.le_of_ble_eq_true rfl, Nat.le_of_ble_eq_true rfl⟩ (fun v9 h9 hr9 => ?_)
        obtain ⟨rfl, rfl⟩ := hr9
        refine V_astore5 C dX4_ofCell_7 (by decide) ?_
        refine V_iload C dX4_ofCell_9 rfl ?_
        refine V_iconst (v := 0) C dX4_ofCell_11 (by decide) ?_
        refine V_iconst (v := 4) C dX4_ofCell_12 (by decide) ?_
        refine V_callS (n := 3) C (c_range1 hd.1 hd.2) dX4_ofCell_13 gX4_ofCell_X4_needRange rfl (by decide +kernel) rfl rfl (by exact Nat.le_of_ble_eq_true rfl) ⟨Nat.le_of_ble_eq_true rfl, Nat.le_of_ble_eq_true rfl⟩ ⟨Nat.le_of_ble_eq_true rfl, Nat.le_of_ble_eq_true rfl⟩ (fun v9 h9 hr9 => ?_)
        obtain ⟨rfl, rfl⟩ := hr9
        refine V_iload C dX4_ofCell_16 rfl ?_
        refine V_tableIn (off := 57) (tgt := 75) C dX4_ofCell_18 (by decide +kernel) (by decide +kernel) (by decide +kernel) (by decide +kernel) ?_
        refine V_aload C dX4_ofCell_75 rfl ?_
        refine V_get (ci := 0) (CN := RX0) (T := TX0) (N := 10) C dX4_ofCell_77 (by first | assumption | exact hset_s _ _ _) rfl 4 (by decide) flX4_ofCell_80 wiX4_ofCell_X0 (by rfl) ?_
        exact V_x (V_iret C dX4_ofCell_80 hr ⟨rfl, rfl, Z, ta, r, t, rfl, ffr.rf⟩ (by exact Nat.le_of_ble_eq_true rfl) (by exact Nat.le_of_ble_eq_true rfl))
      · refine Mx_of (cc := cX4_ofCell) (maxL := 6) (ret := (some .int)) (own := RX4) [some (.ref (Z 0 0)), some (.int (nI k)), some (.int (nI i)), some (.int (nI j)), some (.int (nI 3)), none] rfl (by decide +kernel) rfl rfl (by exact Nat.le_of_ble_eq_true rfl) rfl ?_
        intro p9 e9 s9 m9 args9 below9 meth9 c9 C hr hex hz hsz
        refine V_aload_n (i := 0) C dX4_ofCell_0 rfl rfl ?_
        refine V_iload_n (i := 1) C dX4_ofCell_1 rfl rfl ?_
        refine V_iload_n (i := 2) C dX4_ofCell_2 rfl rfl ?_
        refine V_iload_n (i := 3) C dX4_ofCell_3 rfl rfl ?_
        refine V_callV (n := 3) C (c_needCell1 r hI.1.1 hk hi hj) dX4_ofCell_4 gX4_ofCell_X4_needCell rfl (by first | assumption | exact hset_s _ _ _) rfl (by decide +kernel) rfl rfl (by exact Nat.le_of_ble_eq_true rfl) ⟨Nat.le_of_ble_eq_true rfl, Nat.le_of_ble_eq_true rfl⟩ ⟨Nat.le_of_ble_eq_true rfl, Nat.le_of_ble_eq_true rfl⟩ (fun v9 h9 hr9 => ?_)
        obtain ⟨rfl, rfl⟩ := hr9
        refine V_astore5 C dX4_ofCell_7 (by decide) ?_
        refine V_iload C dX4_ofCell_9 rfl ?_
        refine V_iconst (v := 0) C dX4_ofCell_11 (by decide) ?_
        refine V_iconst (v := 4) C dX4_ofCell_12 (by decide) ?_
        refine V_callS (n := 3) C (c_range1 hd.1 hd.2) dX4_ofCell_13 gX4_ofCell_X4_needRange rfl (by decide +kernel) rfl rfl (by exact Nat.le_of_ble_eq_true rfl) ⟨Nat.le_of_ble_eq_true rfl, Nat.le_of_ble_eq_true rfl⟩ ⟨Nat.le_of_ble_eq_true rfl, Nat.le_of_ble_eq_true rfl⟩ (fun v9 h9 hr9 => ?_)
        obtain ⟨rfl, rfl⟩ := hr9
        refine V_iload C dX4_ofCell_16 rfl ?_
        refine V_tableIn (off := 63) (tgt := 81) C dX4_ofCell_18 (by decide +kernel) (by decide +kernel) (by decide +kernel) (by decide +kernel) ?_
        refine V_aload C dX4_ofCell_81 rfl ?_
        refine V_get (ci := 0) (CN := RX0) (T := TX0) (N := 10) C dX4_ofCell_83 (by first | assumption | exact hset_s _ _ _) rfl 5 (by decide) flX4_ofCell_153 wiX4_ofCell_X0 (by rfl) ?_
        refine V_callS (n := 1) C (c_bitsOf hcam) dX4_ofCell_86 gX4_ofCell_X4_bitsOf rfl (by decide +kernel) rfl rfl (by exact Nat.le_of_ble_eq_true rfl) ⟨Nat.le_of_ble_eq_true rfl, Nat.le_of_ble_eq_true rfl⟩ ⟨Nat.le_of_ble_eq_true rfl, Nat.le_of_ble_eq_true rfl⟩ (fun v9 h9 hr9 => ?_)
        obtain ⟨rfl, z9⟩ := hr9
        have z9 := z9.symm
        subst z9
        exact V_x (V_iret C dX4_ofCell_89 hr ⟨rfl, rfl, Z, ta, r, t, rfl, ffr.rf⟩ (by exact Nat.le_of_ble_eq_true rfl) (by exact Nat.le_of_ble_eq_true rfl))
      · refine Mx_of (cc := cX4_ofCell) (maxL := 6) (ret := (some .int)) (own := RX4) [some (.ref (Z 0 0)), some (.int (nI k)), some (.int (nI i)), some (.int (nI j)), some (.int (nI 4)), none] rfl (by decide +kernel) rfl rfl (by exact Nat.le_of_ble_eq_true rfl) rfl ?_
        intro p9 e9 s9 m9 args9 below9 meth9 c9 C hr hex hz hsz
        refine V_aload_n (i := 0) C dX4_ofCell_0 rfl rfl ?_
        refine V_iload_n (i := 1) C dX4_ofCell_1 rfl rfl ?_
        refine V_iload_n (i := 2) C dX4_ofCell_2 rfl rfl ?_
        refine V_iload_n (i := 3) C dX4_ofCell_3 rfl rfl ?_
        refine V_callV (n := 3) C (c_needCell1 r hI.1.1 hk hi hj) dX4_ofCell_4 gX4_ofCell_X4_needCell rfl (by first | assumption | exact hset_s _ _ _) rfl (by decide +kernel) rfl rfl (by exact Nat.le_of_ble_eq_true rfl) ⟨Nat.le_of_ble_eq_true rfl, Nat.le_of_ble_eq_true rfl⟩ ⟨Nat.le_of_ble_eq_true rfl, Nat.le_of_ble_eq_true rfl⟩ (fun v9 h9 hr9 => ?_)
        obtain ⟨rfl, rfl⟩ := hr9
        refine V_astore5 C dX4_ofCell_7 (by decide) ?_
        refine V_iload C dX4_ofCell_9 rfl ?_
        refine V_iconst (v := 0) C dX4_ofCell_11 (by decide) ?_
        refine V_iconst (v := 4) C dX4_ofCell_12 (by decide) ?_
        refine V_callS (n := 3) C (c_range1 hd.1 hd.2) dX4_ofCell_13 gX4_ofCell_X4_needRange rfl (by decide +kernel) rfl rfl (by exact Nat.le_of_ble_eq_true rfl) ⟨Nat.le_of_ble_eq_true rfl, Nat.le_of_ble_eq_true rfl⟩ ⟨Nat.le_of_ble_eq_true rfl, Nat.le_of_ble_eq_true rfl⟩ (fun v9 h9 hr9 => ?_)
        obtain ⟨rfl, rfl⟩ := hr9
        refine V_iload C dX4_ofCell_16 rfl ?_
        refine V_tableOut (tgt := 90) C dX4_ofCell_18 (by decide +kernel) (by decide +kernel) ?_
        refine V_aload C dX4_ofCell_90 rfl ?_
        refine V_get (ci := 0) (CN := RX0) (T := TX0) (N := 10) C dX4_ofCell_92 (by first | assumption | exact hset_s _ _ _) rfl 2 (by decide) flX4_ofCell_83 wiX4_ofCell_X0 (by rfl) ?_
        refine V_iconst (v := 2) C dX4_ofCell_95 (by decide) ?_
        refine V_icmp_ne (tgt := 107) C dX4_ofCell_96 (by decide) (fun c96 => ?_) (fun c96 => ?_)
        · have c96 : ¬ (xg X k (j * xwd X k + i)).1 = 2 := c96
          refine V_iconst (v := (-1)) C dX4_ofCell_107 (by decide) ?_
          exact V_x (V_iret C dX4_ofCell_108 hr ⟨rfl, by show _ = some (Value.int (if (xg X k (j * xwd X k + i)).1 = 2 then cla (xg X k (j * xwd X k + i)) else -1)); first | rw [if_pos c96] | rw [if_neg c96], Z, ta, r, t, rfl, ffr.rf⟩ (by exact Nat.le_of_ble_eq_true rfl) (by exact Nat.le_of_ble_eq_true rfl))
        · have c96 : (xg X k (j * xwd X k + i)).1 = 2 := c96
          refine V_aload C dX4_ofCell_99 rfl ?_
          refine V_get (ci := 0) (CN := RX0) (T := TX0) (N := 10) C dX4_ofCell_101 (by first | assumption | exact hset_s _ _ _) rfl 8 (by decide) flX4_ofCell_161 wiX4_ofCell_X0 (by rfl) ?_
          refine V_goto (tgt := 108) C dX4_ofCell_104 (by decide) ?_
          exact V_x (V_iret C dX4_ofCell_108 hr ⟨rfl, by show _ = some (Value.int (if (xg X k (j * xwd X k + i)).1 = 2 then cla (xg X k (j * xwd X k + i)) else -1)); first | rw [if_pos c96] | rw [if_neg c96], Z, ta, r, t, rfl, ffr.rf⟩ (by exact Nat.le_of_ble_eq_true rfl) (by exact Nat.le_of_ble_eq_true rfl))
    · have hsp : sp_ofCell X (nI k) (nI i) (nI j) d = (some kIA, 0, X) := by unfold sp_ofCell; rw [if_pos hx, if_neg hd]
      rw [hsp]
      refine Mx_of (cc := cX4_ofCell) (maxL := 6) (ret := (some .int)) (own := RX4) [some (.ref (Z 0 0)), some (.int (nI k)), some (.int (nI i)), some (.int (nI j)), some (.int d), none] rfl (by decide +kernel) rfl rfl (by exact Nat.le_of_ble_eq_true rfl) rfl ?_
      intro p9 e9 s9 m9 args9 below9 meth9 c9 C hr hex hz hsz
      refine V_aload_n (i := 0) C dX4_ofCell_0 rfl rfl ?_
      refine V_iload_n (i := 1) C dX4_ofCell_1 rfl rfl ?_
      refine V_iload_n (i := 2) C dX4_ofCell_2 rfl rfl ?_
      refine V_iload_n (i := 3) C dX4_ofCell_3 rfl rfl ?_
      refine V_callV (n := 3) C (c_needCell1 r hI.1.1 hk hi hj) dX4_ofCell_4 gX4_ofCell_X4_needCell rfl (by first | assumption | exact hset_s _ _ _) rfl (by decide +kernel) rfl rfl (by exact Nat.le_of_ble_eq_true rfl) ⟨Nat.le_of_ble_eq_true rfl, Nat.le_of_ble_eq_true rfl⟩ ⟨Nat.le_of_ble_eq_true rfl, Nat.le_of_ble_eq_true rfl⟩ (fun v9 h9 hr9 => ?_)
      obtain ⟨rfl, rfl⟩ := hr9
      refine V_astore5 C dX4_ofCell_7 (by decide) ?_
      refine V_iload C dX4_ofCell_9 rfl ?_
      refine V_iconst (v := 0) C dX4_ofCell_11 (by decide) ?_
      refine V_iconst (v := 4) C dX4_ofCell_12 (by decide) ?_
      refine V_xcallSg (n := 3) C (c_range0 hlt hd) dX4_ofCell_13 gX4_ofCell_X4_needRange rfl (by decide +kernel) rfl rfl (by exact Nat.le_of_ble_eq_true rfl) ⟨Nat.le_of_ble_eq_true rfl, Nat.le_of_ble_eq_true rfl⟩ ⟨Nat.le_of_ble_eq_true rfl, Nat.le_of_ble_eq_true rfl⟩ (by exact Nat.le_of_ble_eq_true rfl) (by exact Nat.le_of_ble_eq_true rfl) hex hz SZr.moves hsz Psx_of (fun v9 h9 hr9 => ?_)
      exact hr9.elim
  · have hsp : sp_ofCell X a b c d = (some kIO, 0, X) := by unfold sp_ofCell; rw [if_neg hx]
    rw [hsp]
    refine Mx_of (cc := cX4_ofCell) (maxL := 6) (ret := (some .int)) (own := RX4) [some (.ref (Z 0 0)), some (.int a), some (.int b), some (.int c), some (.int d), none] rfl (by decide +kernel) rfl rfl (by exact Nat.le_of_ble_eq_true rfl) rfl ?_
    intro p9 e9 s9 m9 args9 below9 meth9 c9 C hr hex hz hsz
    refine V_aload_n (i := 0) C dX4_ofCell_0 rfl rfl ?_
    refine V_iload_n (i := 1) C dX4_ofCell_1 rfl rfl ?_
    refine V_iload_n (i := 2) C dX4_ofCell_2 rfl rfl ?_
    refine V_iload_n (i := 3) C dX4_ofCell_3 rfl rfl ?_
    refine V_xcallVg (n := 3) C (c_needCell0 hlt r hI.1.1 (celN_no hI.1.1 hx)) dX4_ofCell_4 gX4_ofCell_X4_needCell rfl (by first | assumption | exact hset_s _ _ _) rfl (by decide +kernel) rfl rfl (by exact Nat.le_of_ble_eq_true rfl) ⟨Nat.le_of_ble_eq_true rfl, Nat.le_of_ble_eq_true rfl⟩ ⟨Nat.le_of_ble_eq_true rfl, Nat.le_of_ble_eq_true rfl⟩ (by exact Nat.le_of_ble_eq_true rfl) (by exact Nat.le_of_ble_eq_true rfl) hex hz SZr.moves hsz Psx_of (fun v9 h9 hr9 => ?_)
    exact hr9.elim
set_option maxHeartbeats 4000000 in
set_option maxRecDepth 100000 in
theorem m_ofLot (hlt : l.stackTraces = false) (r : XR cA Z X ta h) (t : tyv Z X ta) (hI : CI M X) {a d : Int32} : Mx l D cA bs SZr yX4_ofLot wsX4_ofLot (rmk 9 4 30) [.ref (Z 0 0), .int a, .int d] h (Pst cA Z X h (sp_ofLot X a d)) (Psx h (sp_ofLot X a d)) := by
  have hrow := r.row
  by_cases hx : lotN X a
  · obtain ⟨k, hk, rfl, ek⟩ := lotN_of hI.1.1 hx
    have hlot := r.lot hk
    have htn : fbt (ltn (xlo X k)) := ⟨(hI.2.2.1 k hk).1.1.1, fp_nz (hI.2.2.1 k hk).1⟩
    by_cases hd : okR d 0 4
    · have hsp : sp_ofLot X (nI k) d = (none, oflV (xlo X k) d, X) := by unfold sp_ofLot; rw [if_pos hx, if_pos hd, ek]
      rw [hsp]
      obtain ⟨q, hq, rfl, -⟩ := okR_of (b := 4) (by decide) hd
      have hq5 : q = 0 ∨ q = 1 ∨ q = 2 ∨ q = 3 ∨ q = 4 := by omega
      rcases hq5 with rfl | rfl | rfl | rfl | rfl
      · refine Mx_of (cc := cX4_ofLot) (maxL := 4) (ret := (some .int)) (own := RX4) [some (.ref (Z 0 0)), some (.int (nI k)), some (.int (nI 0)), none] rfl (by decide +kernel) rfl rfl (by exact Nat.le_of_ble_eq_true rfl) rfl ?_
        intro p9 e9 s9 m9 args9 below9 meth9 c9 C hr hex hz hsz
        refine V_aload_n (i := 0) C dX4_ofLot_0 rfl rfl ?_
        refine V_iload_n (i := 1) C dX4_ofLot_1 rfl rfl ?_
        refine V_callV (n := 1) C (c_needLot1 r hI.1.1 hk) dX4_ofLot_2 gX4_ofLot_X4_needLot rfl (by first | assumption | exact hset_s _ _ _) rfl (by decide +kernel) rfl rfl (by exact Nat.le_of_ble_eq_true rfl) ⟨Nat.le_of_ble_eq_true rfl, Nat.le_of_ble_eq_true rfl⟩ ⟨Nat.le_of_ble_eq_true rfl, Nat.le_of_ble_eq_true rfl⟩ (fun v9 h9 hr9 => ?_)
        obtain ⟨rfl, rfl⟩ := hr9
        refine V_astore3 C dX4_ofLot_5 (by decide) ?_
        refine V_iload_n (i := 2) C dX4_ofLot_6 rfl rfl ?_
        refine V_iconst (v := 0) C dX4_ofLot_7 (by decide) ?_
        refine V_iconst (v := 4) C dX4_ofLot_8 (by decide) ?_
        refine V_callS (n := 3) C (c_range1 hd.1 hd.2) dX4_ofLot_9 gX4_ofLot_X4_needRange rfl (by decide +kernel) rfl rfl (by exact Nat.le_of_ble_eq_true rfl) ⟨Nat.le_of_ble_eq_true rfl, Nat.le_of_ble_eq_true rfl⟩ ⟨Nat.le_of_ble_eq_true rfl, Nat.le_of_ble_eq_true rfl⟩ (fun v9 h9 hr9 => ?_)
        obtain ⟨rfl, rfl⟩ := hr9
        refine V_iload_n (i := 2) C dX4_ofLot_12 rfl rfl ?_
        refine V_tableIn (off := 31) (tgt := 44) C dX4_ofLot_13 (by decide +kernel) (by decide +kernel) (by decide +kernel) (by decide +kernel) ?_
        refine V_aload_n (i := 3) C dX4_ofLot_44 rfl rfl ?_
        refine V_get (ci := 2) (CN := RX2) (T := TX2) (N := 7) C dX4_ofLot_45 (by first | assumption | exact hset_s _ _ _) rfl 4 (by decide) flX4_ofLot_57 wiX4_ofLot_X2 (by rfl) ?_
        exact V_x (V_iret C dX4_ofLot_48 hr ⟨rfl, rfl, Z, ta, r, t, rfl, ffr.rf⟩ (by exact Nat.le_of_ble_eq_true rfl) (by exact Nat.le_of_ble_eq_true rfl))
      · refine Mx_of (cc := cX4_ofLot) (maxL := 4) (ret := (some .int)) (own := RX4) [some (.ref (Z 0 0)), some (.int (nI k)), some (.int (nI 1)), none] rfl (by decide +kernel) rfl rfl (by exact Nat.le_of_ble_eq_true rfl) rfl ?_
        intro p9 e9 s9 m9 args9 below9 meth9 c9 C hr hex hz hsz
        refine V_aload_n (i := 0) C dX4_ofLot_0 rfl rfl ?_
        refine V_iload_n (i := 1) C dX4_ofLot_1 rfl rfl ?_
        refine V_callV (n := 1) C (c_needLot1 r hI.1.1 hk) dX4_ofLot_2 gX4_ofLot_X4_needLot rfl (by first | assumption | exact hset_s _ _ _) rfl (by decide +kernel) rfl rfl (by exact Nat.le_of_ble_eq_true rfl) ⟨Nat.le_of_ble_eq_true rfl, Nat.le_of_ble_eq_true rfl⟩ ⟨Nat.le_of_ble_eq_true rfl, Nat.le_of_ble_eq_true rfl⟩ (fun v9 h9 hr9 => ?_)
        obtain ⟨rfl, rfl⟩ := hr9
        refine V_astore3 C dX4_ofLot_5 (by decide) ?_
        refine V_iload_n (i := 2) C dX4_ofLot_6 rfl rfl ?_
        refine V_iconst (v := 0) C dX4_ofLot_7 (by decide) ?_
        refine V_iconst (v := 4) C dX4_ofLot_8 (by decide) ?_
        refine V_callS (n := 3) C (c_range1 hd.1 hd.2) dX4_ofLot_9 gX4_ofLot_X4_needRange rfl (by decide +kernel) rfl rfl (by exact Nat.le_of_ble_eq_true rfl) ⟨Nat.le_of_ble_eq_true rfl, Nat.le_of_ble_eq_true rfl⟩ ⟨Nat.le_of_ble_eq_true rfl, Nat.le_of_ble_eq_true rfl⟩ (fun v9 h9 hr9 => ?_)
        obtain ⟨rfl, rfl⟩ := hr9
        refine V_iload_n (i := 2) C dX4_ofLot_12 rfl rfl ?_
        refine V_tableIn (off := 36) (tgt := 49) C dX4_ofLot_13 (by decide +kernel) (by decide +kernel) (by decide +kernel) (by decide +kernel) ?_
        refine V_aload_n (i := 3) C dX4_ofLot_49 rfl rfl ?_
        refine V_get (ci := 2) (CN := RX2) (T := TX2) (N := 7) C dX4_ofLot_50 (by first | assumption | exact hset_s _ _ _) rfl 5 (by decide) flX4_ofLot_172 wiX4_ofLot_X2 (by rfl) ?_
        exact V_x (V_iret C dX4_ofLot_53 hr ⟨rfl, rfl, Z, ta, r, t, rfl, ffr.rf⟩ (by exact Nat.le_of_ble_eq_true rfl) (by exact Nat.le_of_ble_eq_true rfl))
      · refine Mx_of (cc := cX4_ofLot) (maxL := 4) (ret := (some .int)) (own := RX4) [some (.ref (Z 0 0)), some (.int (nI k)), some (.int (nI 2)), none] rfl (by decide +kernel) rfl rfl (by exact Nat.le_of_ble_eq_true rfl) rfl ?_
        intro p9 e9 s9 m9 args9 below9 meth9 c9 C hr hex hz hsz
        refine V_aload_n (i := 0) C dX4_ofLot_0 rfl rfl ?_
        refine V_iload_n (i := 1) C dX4_ofLot_1 rfl rfl ?_
        refine V_callV (n := 1) C (c_needLot1 r hI.1.1 hk) dX4_ofLot_2 gX4_ofLot_X4_needLot rfl (by first | assumption | exact hset_s _ _ _) rfl (by decide +kernel) rfl rfl (by exact Nat.le_of_ble_eq_true rfl) ⟨Nat.le_of_ble_eq_true rfl, Nat.le_of_ble_eq_true rfl⟩ ⟨Nat.le_of_ble_eq_true rfl, Nat.le_of_ble_eq_true rfl⟩ (fun v9 h9 hr9 => ?_)
        obtain ⟨rfl, rfl⟩ := hr9
        refine V_astore3 C dX4_ofLot_5 (by decide) ?_
        refine V_iload_n (i := 2) C dX4_ofLot_6 rfl rfl ?_
        refine V_iconst (v := 0) C dX4_ofLot_7 (by decide) ?_
        refine V_iconst (v := 4) C dX4_ofLot_8 (by decide) ?_
        refine V_callS (n := 3) C (c_range1 hd.1 hd.2) dX4_ofLot_9 gX4_ofLot_X4_needRange rfl (by decide +kernel) rfl rfl (by exact Nat.le_of_ble_eq_true rfl) ⟨Nat.le_of_ble_eq_true rfl, Nat.le_of_ble_eq_true rfl⟩ ⟨Nat.le_of_ble_eq_true rfl, Nat.le_of_ble_eq_true rfl⟩ (fun v9 h9 hr9 => ?_)
        obtain ⟨rfl, rfl⟩ := hr9
        refine V_iload_n (i := 2) C dX4_ofLot_12 rfl rfl ?_
        refine V_tableIn (off := 41) (tgt := 54) C dX4_ofLot_13 (by decide +kernel) (by decide +kernel) (by decide +kernel) (by decide +kernel) ?_
        refine V_aload_n (i := 3) C dX4_ofLot_54 rfl rfl ?_
        refine V_get (ci := 2) (CN := RX2) (T := TX2) (N := 7) C dX4_ofLot_55 (by first | assumption | exact hset_s _ _ _) rfl 6 (by decide) flX4_ofLot_175 wiX4_ofLot_X2 (by rfl) ?_
        exact V_x (V_iret C dX4_ofLot_58 hr ⟨rfl, rfl, Z, ta, r, t, rfl, ffr.rf⟩ (by exact Nat.le_of_ble_eq_true rfl) (by exact Nat.le_of_ble_eq_true rfl))
      · refine Mx_of (cc := cX4_ofLot) (maxL := 4) (ret := (some .int)) (own := RX4) [some (.ref (Z 0 0)), some (.int (nI k)), some (.int (nI 3)), none] rfl (by decide +kernel) rfl rfl (by exact Nat.le_of_ble_eq_true rfl) rfl ?_
        intro p9 e9 s9 m9 args9 below9 meth9 c9 C hr hex hz hsz
        refine V_aload_n (i := 0) C dX4_ofLot_0 rfl rfl ?_
        refine V_iload_n (i := 1) C dX4_ofLot_1 rfl rfl ?_
        refine V_callV (n := 1) C (c_needLot1 r hI.1.1 hk) dX4_ofLot_2 gX4_ofLot_X4_needLot rfl (by first | assumption | exact hset_s _ _ _) rfl (by decide +kernel) rfl rfl (by exact Nat.le_of_ble_eq_true rfl) ⟨Nat.le_of_ble_eq_true rfl, Nat.le_of_ble_eq_true rfl⟩ ⟨Nat.le_of_ble_eq_true rfl, Nat.le_of_ble_eq_true rfl⟩ (fun v9 h9 hr9 => ?_)
        obtain ⟨rfl, rfl⟩ := hr9
        refine V_astore3 C dX4_ofLot_5 (by decide) ?_
        refine V_iload_n (i := 2) C dX4_ofLot_6 rfl rfl ?_
        refine V_iconst (v := 0) C dX4_ofLot_7 (by decide) ?_
        refine V_iconst (v := 4) C dX4_ofLot_8 (by decide) ?_
        refine V_callS (n := 3) C (c_range1 hd.1 hd.2) dX4_ofLot_9 gX4_ofLot_X4_needRange rfl (by decide +kernel) rfl rfl (by exact Nat.le_of_ble_eq_true rfl) ⟨Nat.le_of_ble_eq_true rfl, Nat.le_of_ble_eq_true rfl⟩ ⟨Nat.le_of_ble_eq_true rfl, Nat.le_of_ble_eq_true rfl⟩ (fun v9 h9 hr9 => ?_)
        obtain ⟨rfl, rfl⟩ := hr9
        refine V_iload_n (i := 2) C dX4_ofLot_12 rfl rfl ?_
        refine V_tableIn (off := 46) (tgt := 59) C dX4_ofLot_13 (by decide +kernel) (by decide +kernel) (by decide +kernel) (by decide +kernel) ?_
        refine V_aload_n (i := 3) C dX4_ofLot_59 rfl rfl ?_
        refine V_get (ci := 2) (CN := RX2) (T := TX2) (N := 7) C dX4_ofLot_60 (by first | assumption | exact hset_s _ _ _) rfl 3 (by decide) flX4_ofLot_51 wiX4_ofLot_X2 (by rfl) ?_
        refine V_if_eq (tgt := 70) C dX4_ofLot_63 (by decide) (fun c63 => ?_) (fun c63 => ?_)
        · have c63 : lth (xlo X k) = 0 := c63
          refine V_iconst (v := 0) C dX4_ofLot_70 (by decide) ?_
          exact V_x (V_iret C dX4_ofLot_71 hr ⟨rfl, by show _ = some (Value.int (if lth (xlo X k) = 0 then 0 else 1)); first | rw [if_pos c63] | rw [if_neg c63], Z, ta, r, t, rfl, ffr.rf⟩ (by exact Nat.le_of_ble_eq_true rfl) (by exact Nat.le_of_ble_eq_true rfl))
        · have c63 : ¬ lth (xlo X k) = 0 := c63
          refine V_iconst (v := 1) C dX4_ofLot_66 (by decide) ?_
          refine V_goto (tgt := 71) C dX4_ofLot_67 (by decide) ?_
          exact V_x (V_iret C dX4_ofLot_71 hr ⟨rfl, by show _ = some (Value.int (if lth (xlo X k) = 0 then 0 else 1)); first | rw [if_pos c63] | rw [if_neg c63], Z, ta, r, t, rfl, ffr.rf⟩ (by exact Nat.le_of_ble_eq_true rfl) (by exact Nat.le_of_ble_eq_true rfl))
      · refine Mx_of (cc := cX4_ofLot) (maxL := 4) (ret := (some .int)) (own := RX4) [some (.ref (Z 0 0)), some (.int (nI k)), some (.int (nI 4)), none] rfl (by decide +kernel) rfl rfl (by exact Nat.le_of_ble_eq_true rfl) rfl ?_
        intro p9 e9 s9 m9 args9 below9 meth9 c9 C hr hex hz hsz
        refine V_aload_n (i := 0) C dX4_ofLot_0 rfl rfl ?_
        refine V_iload_n (i := 1) C dX4_ofLot_1 rfl rfl ?_
        refine V_callV (n := 1) C (c_needLot1 r hI.1.1 hk) dX4_ofLot_2 gX4_ofLot_X4_needLot rfl (by first | assumption | exact hset_s _ _ _) rfl (by decide +kernel) rfl rfl (by exact Nat.le_of_ble_eq_true rfl) ⟨Nat.le_of_ble_eq_true rfl, Nat.le_of_ble_eq_true rfl⟩ ⟨Nat.le_of_ble_eq_true rfl, Nat.le_of_ble_eq_true rfl⟩ (fun v9 h9 hr9 => ?_)
        obtain ⟨rfl, rfl⟩ := hr9
        refine V_astore3 C dX4_ofLot_5 (by decide) ?_
        refine V_iload_n (i := 2) C dX4_ofLot_6 rfl rfl ?_
        refine V_iconst (v := 0) C dX4_ofLot_7 (by decide) ?_
        refine V_iconst (v := 4) C dX4_ofLot_8 (by decide) ?_
        refine V_callS (n := 3) C (c_range1 hd.1 hd.2) dX4_ofLot_9 gX4_ofLot_X4_needRange rfl (by decide +kernel) rfl rfl (by exact Nat.le_of_ble_eq_true rfl) ⟨Nat.le_of_ble_eq_true rfl, Nat.le_of_ble_eq_true rfl⟩ ⟨Nat.le_of_ble_eq_true rfl, Nat.le_of_ble_eq_true rfl⟩ (fun v9 h9 hr9 => ?_)
        obtain ⟨rfl, rfl⟩ := hr9
        refine V_iload_n (i := 2) C dX4_ofLot_12 rfl rfl ?_
        refine V_tableOut (tgt := 72) C dX4_ofLot_13 (by decide +kernel) (by decide +kernel) ?_
        refine V_aload_n (i := 3) C dX4_ofLot_72 rfl rfl ?_
        refine V_get (ci := 2) (CN := RX2) (T := TX2) (N := 7) C dX4_ofLot_73 (by first | assumption | exact hset_s _ _ _) rfl 1 (by decide) flX4_ofLot_178 wiX4_ofLot_X2 (by rfl) ?_
        refine V_callS (n := 1) C (c_bitsOf htn) dX4_ofLot_76 gX4_ofLot_X4_bitsOf rfl (by decide +kernel) rfl rfl (by exact Nat.le_of_ble_eq_true rfl) ⟨Nat.le_of_ble_eq_true rfl, Nat.le_of_ble_eq_true rfl⟩ ⟨Nat.le_of_ble_eq_true rfl, Nat.le_of_ble_eq_true rfl⟩ (fun v9 h9 hr9 => ?_)
        obtain ⟨rfl, z9⟩ := hr9
        have z9 := z9.symm
        subst z9
        exact V_x (V_iret C dX4_ofLot_79 hr ⟨rfl, rfl, Z, ta, r, t, rfl, ffr.rf⟩ (by exact Nat.le_of_ble_eq_true rfl) (by exact Nat.le_of_ble_eq_true rfl))
    · have hsp : sp_ofLot X (nI k) d = (some kIA, 0, X) := by unfold sp_ofLot; rw [if_pos hx, if_neg hd]
      rw [hsp]
      refine Mx_of (cc := cX4_ofLot) (maxL := 4) (ret := (some .int)) (own := RX4) [some (.ref (Z 0 0)), some (.int (nI k)), some (.int d), none] rfl (by decide +kernel) rfl rfl (by exact Nat.le_of_ble_eq_true rfl) rfl ?_
      intro p9 e9 s9 m9 args9 below9 meth9 c9 C hr hex hz hsz
      refine V_aload_n (i := 0) C dX4_ofLot_0 rfl rfl ?_
      refine V_iload_n (i := 1) C dX4_ofLot_1 rfl rfl ?_
      refine V_callV (n := 1) C (c_needLot1 r hI.1.1 hk) dX4_ofLot_2 gX4_ofLot_X4_needLot rfl (by first | assumption | exact hset_s _ _ _) rfl (by decide +kernel) rfl rfl (by exact Nat.le_of_ble_eq_true rfl) ⟨Nat.le_of_ble_eq_true rfl, Nat.le_of_ble_eq_true rfl⟩ ⟨Nat.le_of_ble_eq_true rfl, Nat.le_of_ble_eq_true rfl⟩ (fun v9 h9 hr9 => ?_)
      obtain ⟨rfl, rfl⟩ := hr9
      refine V_astore3 C dX4_ofLot_5 (by decide) ?_
      refine V_iload_n (i := 2) C dX4_ofLot_6 rfl rfl ?_
      refine V_iconst (v := 0) C dX4_ofLot_7 (by decide) ?_
      refine V_iconst (v := 4) C dX4_ofLot_8 (by decide) ?_
      refine V_xcallSg (n := 3) C (c_range0 hlt hd) dX4_ofLot_9 gX4_ofLot_X4_needRange rfl (by decide +kernel) rfl rfl (by exact Nat.le_of_ble_eq_true rfl) ⟨Nat.le_of_ble_eq_true rfl, Nat.le_of_ble_eq_true rfl⟩ ⟨Nat.le_of_ble_eq_true rfl, Nat.le_of_ble_eq_true rfl⟩ (by exact Nat.le_of_ble_eq_true rfl) (by exact Nat.le_of_ble_eq_true rfl) hex hz SZr.moves hsz Psx_of (fun v9 h9 hr9 => ?_)
      exact hr9.elim
  · have hsp : sp_ofLot X a d = (some kIO, 0, X) := by unfold sp_ofLot; rw [if_neg hx]
    rw [hsp]
    refine Mx_of (cc := cX4_ofLot) (maxL := 4) (ret := (some .int)) (own := RX4) [some (.ref (Z 0 0)), some (.int a), some (.int d), none] rfl (by decide +kernel) rfl rfl (by exact Nat.le_of_ble_eq_true rfl) rfl ?_
    intro p9 e9 s9 m9 args9 below9 meth9 c9 C hr hex hz hsz
    refine V_aload_n (i := 0) C dX4_ofLot_0 rfl rfl ?_
    refine V_iload_n (i := 1) C dX4_ofLot_1 rfl rfl ?_
    refine V_xcallVg (n := 1) C (c_needLot0 hlt r hI.1.1 hx) dX4_ofLot_2 gX4_ofLot_X4_needLot rfl (by first | assumption | exact hset_s _ _ _) rfl (by decide +kernel) rfl rfl (by exact Nat.le_of_ble_eq_true rfl) ⟨Nat.le_of_ble_eq_true rfl, Nat.le_of_ble_eq_true rfl⟩ ⟨Nat.le_of_ble_eq_true rfl, Nat.le_of_ble_eq_true rfl⟩ (by exact Nat.le_of_ble_eq_true rfl) (by exact Nat.le_of_ble_eq_true rfl) hex hz SZr.moves hsz Psx_of (fun v9 h9 hr9 => ?_)
    exact hr9.elim
end PUB4
