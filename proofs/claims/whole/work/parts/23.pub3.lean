/-! the calls: design, share, send, crew, tray, load, pass, and those that only tell -/
section PUB3
variable {l : Launch} {D : va_G} {cA : Nat → ClassId} {bs : Nat} {Z : Nat → Nat → Nat} {X : XS} {ta : Nat → Nat → Option Nat} {h : hE}
theorem tyv_set (t : tyv Z X ta) {c : Nat} (hc : c < 3) {d : Rw} (hd : rtr d = rtr (xcr X c)) : tyv Z (setR X c d) ta := fun c2 hc2 => by
  show (rtr (fset (xcr X) c d c2)).length ≤ 4 ∧ (∀ b, b ∈ rtr (fset (xcr X) c d c2) → b < xnl X) ∧ ∀ i b, (rtr (fset (xcr X) c d c2))[i]? = some b → ta c2 i = some (Z 1 b)
  by_cases hcc : c2 = c
  · subst hcc
    rw [fset_s, hd]
    exact t c2 hc2
  · rw [fset_n hcc]
    exact t c2 hc2
theorem tyv_nil (t : tyv Z X ta) {c : Nat} (hc : c < 3) {d : Rw} (hd : rtr d = []) : tyv Z (setR X c d) ta := fun c2 hc2 => by
  show (rtr (fset (xcr X) c d c2)).length ≤ 4 ∧ (∀ b, b ∈ rtr (fset (xcr X) c d c2) → b < xnl X) ∧ ∀ i b, (rtr (fset (xcr X) c d c2))[i]? = some b → ta c2 i = some (Z 1 b)
  by_cases hcc : c2 = c
  · subst hcc
    rw [fset_s, hd]
    exact ⟨Nat.zero_le _, fun b hb => absurd hb List.not_mem_nil, fun i b hb => by simp at hb⟩
  · rw [fset_n hcc]
    exact t c2 hc2
set_option maxHeartbeats 4000000 in
set_option maxRecDepth 100000 in
theorem m_design (hlt : l.stackTraces = false) (r : XR cA Z X ta h) (t : tyv Z X ta) (hI : LI X) {x : Int32} : Mx l D cA bs SZr yX4_design wsX4_design (rmk 9 4 30) [.ref (Z 0 0), .int x] h (Pst cA Z h (sp_design X x)) (Psx h (sp_design X x)) := by
  have hrow := r.row
  by_cases hx : picN X x
  · obtain ⟨k, hk, rfl, ek⟩ := picN_of hI.1 hx
    have hpic := r.pic hk
    have hsp : sp_design X (nI k) = (none, nI (cntN (dsX X k).2 1 (xN X k)), xpl X k (dsX X k).1 (dsX X k).2) := by unfold sp_design; rw [if_pos hx, ek]
    rw [hsp]
    refine Mx_of (cc := cX4_design) (maxL := 3) (ret := (some .int)) (own := RX4) [some (.ref (Z 0 0)), some (.int (nI k)), none] rfl (by decide +kernel) rfl rfl (by exact Nat.le_of_ble_eq_true rfl) rfl ?_
    intro p9 e9 s9 m9 args9 below9 meth9 c9 C hr hex hz hsz
    refine V_aload_n (i := 0) C dX4_design_0 rfl rfl ?_
    refine V_iload_n (i := 1) C dX4_design_1 rfl rfl ?_
    refine V_callV (n := 1) C (c_needPic1 r hI.1 hk) dX4_design_2 gX4_design_X4_needPicture rfl (by first | assumption | exact hset_s _ _ _) rfl (by decide +kernel) rfl rfl (by exact Nat.le_of_ble_eq_true rfl) ⟨Nat.le_of_ble_eq_true rfl, Nat.le_of_ble_eq_true rfl⟩ ⟨Nat.le_of_ble_eq_true rfl, Nat.le_of_ble_eq_true rfl⟩ (fun v9 h9 hr9 => ?_)
    obtain ⟨rfl, rfl⟩ := hr9
    refine V_astore2 C dX4_design_5 (by decide) ?_
    refine V_aload_n (i := 2) C dX4_design_6 rfl rfl ?_
    refine V_aload_n (i := 0) C dX4_design_7 rfl rfl ?_
    refine V_get (ci := 4) (CN := RX4) (T := TX4) (N := 6) C dX4_design_8 (by first | assumption | exact hset_s _ _ _) rfl 0 (by decide) flX4_design_11 wiX4_design_X4 (by rfl) ?_
    refine V_callV (n := 1) C (c_designFrom (r.to_pl k) hI.1 hk (hI.2.1 k hk) (ds_B hI hk)) dX4_design_11 gX4_design_X3_designFrom rfl (by first | assumption | exact hset_s _ _ _) rfl (by decide +kernel) rfl rfl (by exact Nat.le_of_ble_eq_true rfl) ⟨Nat.le_of_ble_eq_true rfl, Nat.le_of_ble_eq_true rfl⟩ ⟨Nat.le_of_ble_eq_true rfl, Nat.le_of_ble_eq_true rfl⟩ (fun v9 h9 hr9 => ?_)
    obtain ⟨rfl, r2, f2⟩ := hr9
    have hpic := r2.ppic hk
    refine V_aload_n (i := 2) C dX4_design_14 rfl rfl ?_
    refine V_iconst (v := 1) C dX4_design_15 (by decide) ?_
    refine V_callV (n := 1) C (c_count (kd := 1) r2 hI.1 hk) dX4_design_16 gX4_design_X3_count rfl (by first | assumption | exact hset_s _ _ _) rfl (by decide +kernel) rfl rfl (by exact Nat.le_of_ble_eq_true rfl) ⟨Nat.le_of_ble_eq_true rfl, Nat.le_of_ble_eq_true rfl⟩ ⟨Nat.le_of_ble_eq_true rfl, Nat.le_of_ble_eq_true rfl⟩ (fun v9 h9 hr9 => ?_)
    obtain ⟨rfl, z9⟩ := hr9
    have z9 := z9.symm
    subst z9
    exact V_x (V_iret C dX4_design_19 hr ⟨rfl, rfl, Z, ta, r2, t, rfl, r.ffr f2⟩ (by exact Nat.le_of_ble_eq_true rfl) (by exact Nat.le_of_ble_eq_true rfl))
  · have hsp : sp_design X x = (some kIO, 0, X) := by unfold sp_design; rw [if_neg hx]
    rw [hsp]
    refine Mx_of (cc := cX4_design) (maxL := 3) (ret := (some .int)) (own := RX4) [some (.ref (Z 0 0)), some (.int x), none] rfl (by decide +kernel) rfl rfl (by exact Nat.le_of_ble_eq_true rfl) rfl ?_
    intro p9 e9 s9 m9 args9 below9 meth9 c9 C hr hex hz hsz
    refine V_aload_n (i := 0) C dX4_design_0 rfl rfl ?_
    refine V_iload_n (i := 1) C dX4_design_1 rfl rfl ?_
    refine V_xcallVg (n := 1) C (c_needPic0 hlt r hI.1 hx) dX4_design_2 gX4_design_X4_needPicture rfl (by first | assumption | exact hset_s _ _ _) rfl (by decide +kernel) rfl rfl (by exact Nat.le_of_ble_eq_true rfl) ⟨Nat.le_of_ble_eq_true rfl, Nat.le_of_ble_eq_true rfl⟩ ⟨Nat.le_of_ble_eq_true rfl, Nat.le_of_ble_eq_true rfl⟩ (by exact Nat.le_of_ble_eq_true rfl) (by exact Nat.le_of_ble_eq_true rfl) hex hz SZr.moves hsz Psx_of (fun v9 h9 hr9 => ?_)
    exact hr9.elim
set_option maxHeartbeats 4000000 in
set_option maxRecDepth 100000 in
theorem m_share (hlt : l.stackTraces = false) (r : XR cA Z X ta h) (t : tyv Z X ta) (hI : LI X) {x a b : Int32} : Mx l D cA bs SZr yX4_share wsX4_share (rmk 9 4 30) [.ref (Z 0 0), .int x, .int a, .int b] h (Pst cA Z h (sp_share X x a b)) (Psx h (sp_share X x a b)) := by
  have hrow := r.row
  by_cases hx : picN X x
  · obtain ⟨k, hk, rfl, ek⟩ := picN_of hI.1 hx
    have hpic := r.pic hk
    by_cases ha : lotN X a
    · obtain ⟨i, hi, rfl, ei⟩ := lotN_of hI.1 ha
      by_cases hb : lotN X b
      · obtain ⟨j, hj, rfl, ej⟩ := lotN_of hI.1 hb
        have hnl := hI.1.1
        have hij : nI i = nI j ↔ i = j := nI_eq (by omega) (by omega)
        have hsp : sp_share X (nI k) (nI i) (nI j) = if nI i = nI j then (some kIA, 0, X) else (none, nI (gvX X k i j).2, xpl X k (gvX X k i j).1.1 (gvX X k i j).1.2) := by unfold sp_share; rw [if_pos ⟨hx, ha, hb⟩, ek, ei, ej]
        rw [hsp]
        refine Mx_of (cc := cX4_share) (maxL := 7) (ret := (some .int)) (own := RX4) [some (.ref (Z 0 0)), some (.int (nI k)), some (.int (nI i)), some (.int (nI j)), none, none, none] rfl (by decide +kernel) rfl rfl (by exact Nat.le_of_ble_eq_true rfl) rfl ?_
        intro p9 e9 s9 m9 args9 below9 meth9 c9 C hr hex hz hsz
        refine V_aload_n (i := 0) C dX4_share_0 rfl rfl ?_
        refine V_iload_n (i := 1) C dX4_share_1 rfl rfl ?_
        refine V_callV (n := 1) C (c_needPic1 r hI.1 hk) dX4_share_2 gX4_share_X4_needPicture rfl (by first | assumption | exact hset_s _ _ _) rfl (by decide +kernel) rfl rfl (by exact Nat.le_of_ble_eq_true rfl) ⟨Nat.le_of_ble_eq_true rfl, Nat.le_of_ble_eq_true rfl⟩ ⟨Nat.le_of_ble_eq_true rfl, Nat.le_of_ble_eq_true rfl⟩ (fun v9 h9 hr9 => ?_)
        obtain ⟨rfl, rfl⟩ := hr9
        refine V_astore4 C dX4_share_5 (by decide) ?_
        refine V_aload_n (i := 0) C dX4_share_7 rfl rfl ?_
        refine V_iload_n (i := 2) C dX4_share_8 rfl rfl ?_
        refine V_callV (n := 1) C (c_needLot1 r hI.1 hi) dX4_share_9 gX4_share_X4_needLot rfl (by first | assumption | exact hset_s _ _ _) rfl (by decide +kernel) rfl rfl (by exact Nat.le_of_ble_eq_true rfl) ⟨Nat.le_of_ble_eq_true rfl, Nat.le_of_ble_eq_true rfl⟩ ⟨Nat.le_of_ble_eq_true rfl, Nat.le_of_ble_eq_true rfl⟩ (fun v9 h9 hr9 => ?_)
        obtain ⟨rfl, rfl⟩ := hr9
        refine V_astore5 C dX4_share_12 (by decide) ?_
        refine V_aload_n (i := 0) C dX4_share_14 rfl rfl ?_
        refine V_iload_n (i := 3) C dX4_share_15 rfl rfl ?_
        refine V_callV (n := 1) C (c_needLot1 r hI.1 hj) dX4_share_16 gX4_share_X4_needLot rfl (by first | assumption | exact hset_s _ _ _) rfl (by decide +kernel) rfl rfl (by exact Nat.le_of_ble_eq_true rfl) ⟨Nat.le_of_ble_eq_true rfl, Nat.le_of_ble_eq_true rfl⟩ ⟨Nat.le_of_ble_eq_true rfl, Nat.le_of_ble_eq_true rfl⟩ (fun v9 h9 hr9 => ?_)
        obtain ⟨rfl, rfl⟩ := hr9
        refine V_astore6 C dX4_share_19 (by decide) ?_
        refine V_iload_n (i := 2) C dX4_share_21 rfl rfl ?_
        refine V_iload_n (i := 3) C dX4_share_22 rfl rfl ?_
        refine V_icmp_ne (tgt := 36) C dX4_share_23 (by decide) (fun c23 => ?_) (fun c23 => ?_)
        · rw [if_neg c23]
          refine V_aload C dX4_share_36 rfl ?_
          refine V_aload C dX4_share_38 rfl ?_
          refine V_aload C dX4_share_40 rfl ?_
          refine V_callV (n := 2) C (c_giveOdd (r.to_pl k) hI.1 hk hi hj (fun z => c23 (hij.mpr z)) (hI.2.1 k hk)) dX4_share_42 gX4_share_X3_giveOddCells rfl (by first | assumption | exact hset_s _ _ _) rfl (by decide +kernel) rfl rfl (by exact Nat.le_of_ble_eq_true rfl) ⟨Nat.le_of_ble_eq_true rfl, Nat.le_of_ble_eq_true rfl⟩ ⟨Nat.le_of_ble_eq_true rfl, Nat.le_of_ble_eq_true rfl⟩ (fun v9 h9 hr9 => ?_)
          obtain ⟨rfl, r2, f2⟩ := hr9
          exact V_x (V_iret C dX4_share_45 hr ⟨rfl, rfl, Z, ta, r2, t, rfl, r.ffr f2⟩ (by exact Nat.le_of_ble_eq_true rfl) (by exact Nat.le_of_ble_eq_true rfl))
        · rw [if_pos c23]
          exact V_throw (Post := fun _ _ => True) (cls := "java/lang/IllegalArgumentException") (text := "both lots are the same") (names := ["java/lang/RuntimeException", "java/lang/Exception"]) (ik := 104) (is := 106) (ic := 108) C hlt (by decide +kernel) (by decide +kernel) (by decide +kernel) (by decide +kernel) (zz_hat (Cx_ts C) hsz (by decide +kernel) (by decide +kernel)) (by decide +kernel) hz (hsz.1 _ (List.mem_of_getElem? (i := 9) rfl)) hex dX4_share_26 dX4_share_29 dX4_share_30 dX4_share_32 dX4_share_35 (by exact Nat.le_of_ble_eq_true rfl) (by exact Nat.le_of_ble_eq_true rfl) (by exact Nat.le_of_ble_eq_true rfl) (by exact Nat.le_of_ble_eq_true rfl) ⟨rfl, rfl⟩ (by exact Nat.le_of_ble_eq_true rfl) (by exact Nat.le_of_ble_eq_true rfl)
      · have hsp : sp_share X (nI k) (nI i) b = (some kIO, 0, X) := by unfold sp_share; rw [if_neg (fun z => hb z.2.2)]
        rw [hsp]
        refine Mx_of (cc := cX4_share) (maxL := 7) (ret := (some .int)) (own := RX4) [some (.ref (Z 0 0)), some (.int (nI k)), some (.int (nI i)), some (.int b), none, none, none] rfl (by decide +kernel) rfl rfl (by exact Nat.le_of_ble_eq_true rfl) rfl ?_
        intro p9 e9 s9 m9 args9 below9 meth9 c9 C hr hex hz hsz
        refine V_aload_n (i := 0) C dX4_share_0 rfl rfl ?_
        refine V_iload_n (i := 1) C dX4_share_1 rfl rfl ?_
        refine V_callV (n := 1) C (c_needPic1 r hI.1 hk) dX4_share_2 gX4_share_X4_needPicture rfl (by first | assumption | exact hset_s _ _ _) rfl (by decide +kernel) rfl rfl (by exact Nat.le_of_ble_eq_true rfl) ⟨Nat.le_of_ble_eq_true rfl, Nat.le_of_ble_eq_true rfl⟩ ⟨Nat.le_of_ble_eq_true rfl, Nat.le_of_ble_eq_true rfl⟩ (fun v9 h9 hr9 => ?_)
        obtain ⟨rfl, rfl⟩ := hr9
        refine V_astore4 C dX4_share_5 (by decide) ?_
        refine V_aload_n (i := 0) C dX4_share_7 rfl rfl ?_
        refine V_iload_n (i := 2) C dX4_share_8 rfl rfl ?_
        refine V_callV (n := 1) C (c_needLot1 r hI.1 hi) dX4_share_9 gX4_share_X4_needLot rfl (by first | assumption | exact hset_s _ _ _) rfl (by decide +kernel) rfl rfl (by exact Nat.le_of_ble_eq_true rfl) ⟨Nat.le_of_ble_eq_true rfl, Nat.le_of_ble_eq_true rfl⟩ ⟨Nat.le_of_ble_eq_true rfl, Nat.le_of_ble_eq_true rfl⟩ (fun v9 h9 hr9 => ?_)
        obtain ⟨rfl, rfl⟩ := hr9
        refine V_astore5 C dX4_share_12 (by decide) ?_
        refine V_aload_n (i := 0) C dX4_share_14 rfl rfl ?_
        refine V_iload_n (i := 3) C dX4_share_15 rfl rfl ?_
        refine V_xcallVg (n := 1) C (c_needLot0 hlt r hI.1 hb) dX4_share_16 gX4_share_X4_needLot rfl (by first | assumption | exact hset_s _ _ _) rfl (by decide +kernel) rfl rfl (by exact Nat.le_of_ble_eq_true rfl) ⟨Nat.le_of_ble_eq_true rfl, Nat.le_of_ble_eq_true rfl⟩ ⟨Nat.le_of_ble_eq_true rfl, Nat.le_of_ble_eq_true rfl⟩ (by exact Nat.le_of_ble_eq_true rfl) (by exact Nat.le_of_ble_eq_true rfl) hex hz SZr.moves hsz Psx_of (fun v9 h9 hr9 => ?_)
        exact hr9.elim
    · have hsp : sp_share X (nI k) a b = (some kIO, 0, X) := by unfold sp_share; rw [if_neg (fun z => ha z.2.1)]
      rw [hsp]
      refine Mx_of (cc := cX4_share) (maxL := 7) (ret := (some .int)) (own := RX4) [some (.ref (Z 0 0)), some (.int (nI k)), some (.int a), some (.int b), none, none, none] rfl (by decide +kernel) rfl rfl (by exact Nat.le_of_ble_eq_true rfl) rfl ?_
      intro p9 e9 s9 m9 args9 below9 meth9 c9 C hr hex hz hsz
      refine V_aload_n (i := 0) C dX4_share_0 rfl rfl ?_
      refine V_iload_n (i := 1) C dX4_share_1 rfl rfl ?_
      refine V_callV (n := 1) C (c_needPic1 r hI.1 hk) dX4_share_2 gX4_share_X4_needPicture rfl (by first | assumption | exact hset_s _ _ _) rfl (by decide +kernel) rfl rfl (by exact Nat.le_of_ble_eq_true rfl) ⟨Nat.le_of_ble_eq_true rfl, Nat.le_of_ble_eq_true rfl⟩ ⟨Nat.le_of_ble_eq_true rfl, Nat.le_of_ble_eq_true rfl⟩ (fun v9 h9 hr9 => ?_)
      obtain ⟨rfl, rfl⟩ := hr9
      refine V_astore4 C dX4_share_5 (by decide) ?_
      refine V_aload_n (i := 0) C dX4_share_7 rfl rfl ?_
      refine V_iload_n (i := 2) C dX4_share_8 rfl rfl ?_
      refine V_xcallVg (n := 1) C (c_needLot0 hlt r hI.1 ha) dX4_share_9 gX4_share_X4_needLot rfl (by first | assumption | exact hset_s _ _ _) rfl (by decide +kernel) rfl rfl (by exact Nat.le_of_ble_eq_true rfl) ⟨Nat.le_of_ble_eq_true rfl, Nat.le_of_ble_eq_true rfl⟩ ⟨Nat.le_of_ble_eq_true rfl, Nat.le_of_ble_eq_true rfl⟩ (by exact Nat.le_of_ble_eq_true rfl) (by exact Nat.le_of_ble_eq_true rfl) hex hz SZr.moves hsz Psx_of (fun v9 h9 hr9 => ?_)
      exact hr9.elim
  · have hsp : sp_share X x a b = (some kIO, 0, X) := by unfold sp_share; rw [if_neg (fun z => hx z.1)]
    rw [hsp]
    refine Mx_of (cc := cX4_share) (maxL := 7) (ret := (some .int)) (own := RX4) [some (.ref (Z 0 0)), some (.int x), some (.int a), some (.int b), none, none, none] rfl (by decide +kernel) rfl rfl (by exact Nat.le_of_ble_eq_true rfl) rfl ?_
    intro p9 e9 s9 m9 args9 below9 meth9 c9 C hr hex hz hsz
    refine V_aload_n (i := 0) C dX4_share_0 rfl rfl ?_
    refine V_iload_n (i := 1) C dX4_share_1 rfl rfl ?_
    refine V_xcallVg (n := 1) C (c_needPic0 hlt r hI.1 hx) dX4_share_2 gX4_share_X4_needPicture rfl (by first | assumption | exact hset_s _ _ _) rfl (by decide +kernel) rfl rfl (by exact Nat.le_of_ble_eq_true rfl) ⟨Nat.le_of_ble_eq_true rfl, Nat.le_of_ble_eq_true rfl⟩ ⟨Nat.le_of_ble_eq_true rfl, Nat.le_of_ble_eq_true rfl⟩ (by exact Nat.le_of_ble_eq_true rfl) (by exact Nat.le_of_ble_eq_true rfl) hex hz SZr.moves hsz Psx_of (fun v9 h9 hr9 => ?_)
    exact hr9.elim
set_option maxHeartbeats 4000000 in
set_option maxRecDepth 100000 in
theorem m_send (hlt : l.stackTraces = false) (r : XR cA Z X ta h) (t : tyv Z X ta) (hI : LI X) {c x : Int32} : Mx l D cA bs SZr yX4_send wsX4_send (rmk 9 4 30) [.ref (Z 0 0), .int c, .int x] h (Pst cA Z h (sp_send X c x)) (Psx h (sp_send X c x)) := by
  have hrow := r.row
  by_cases hc : crewN c
  · obtain ⟨k, hk, rfl, ek⟩ := crewN_of hc
    have hcr := r.crew0 hk
    by_cases hm : x = -1
    · subst hm
      have hsp : sp_send X (nI k) (-1) = (none, olI (rpc (xcr X k)), setR X k (rrt (xcr X k), rdy (xcr X k), none, rmt (xcr X k), rtr (xcr X k), rld (xcr X k))) := by unfold sp_send; rw [if_pos ⟨hc, Or.inl rfl⟩, if_pos rfl, ek]
      rw [hsp]
      refine Mx_of (cc := cX4_send) (maxL := 6) (ret := (some .int)) (own := RX4) [some (.ref (Z 0 0)), some (.int (nI k)), some (.int (-1)), none, none, none] rfl (by decide +kernel) rfl rfl (by exact Nat.le_of_ble_eq_true rfl) rfl ?_
      intro p9 e9 s9 m9 args9 below9 meth9 c9 C hr hex hz hsz
      refine V_aload_n (i := 0) C dX4_send_0 rfl rfl ?_
      refine V_iload_n (i := 1) C dX4_send_1 rfl rfl ?_
      refine V_callV (n := 1) C (c_needCrew1 r hk) dX4_send_2 gX4_send_X4_needCrew rfl (by first | assumption | exact hset_s _ _ _) rfl (by decide +kernel) rfl rfl (by exact Nat.le_of_ble_eq_true rfl) ⟨Nat.le_of_ble_eq_true rfl, Nat.le_of_ble_eq_true rfl⟩ ⟨Nat.le_of_ble_eq_true rfl, Nat.le_of_ble_eq_true rfl⟩ (fun v9 h9 hr9 => ?_)
      obtain ⟨rfl, rfl⟩ := hr9
      refine V_astore3 C dX4_send_5 (by decide) ?_
      refine V_iload_n (i := 2) C dX4_send_6 rfl rfl ?_
      refine V_iconst (v := (-1)) C dX4_send_7 (by decide) ?_
      refine V_icmp_ne (tgt := 15) C dX4_send_8 (by decide) (fun z9 => absurd rfl z9) (fun _ => ?_)
      refine V_null C dX4_send_11 ?_
      refine V_goto (tgt := 20) C dX4_send_12 (by decide) ?_
      refine V_astoreN4 C dX4_send_20 (by decide) ?_
      refine V_aload_n (i := 3) C dX4_send_22 rfl rfl ?_
      refine V_callV (n := 0) C (c_pictureNumber r hk (hI.2.2 k hk)) dX4_send_23 gX4_send_X1_pictureNumber rfl (by first | assumption | exact hset_s _ _ _) rfl (by decide +kernel) rfl rfl (by exact Nat.le_of_ble_eq_true rfl) ⟨Nat.le_of_ble_eq_true rfl, Nat.le_of_ble_eq_true rfl⟩ ⟨Nat.le_of_ble_eq_true rfl, Nat.le_of_ble_eq_true rfl⟩ (fun v9 h9 hr9 => ?_)
      obtain ⟨rfl, z9⟩ := hr9
      have z9 := z9.symm
      subst z9
      refine V_istore5 C dX4_send_26 (by decide) ?_
      refine V_aload_n (i := 3) C dX4_send_28 rfl rfl ?_
      refine V_aloadN C dX4_send_29 rfl ?_
      refine V_put (ci := 1) (CN := RX1) (T := TX1) (N := 7) (ty := (tyX1 2)) C dX4_send_31 (by first | assumption | exact hset_s _ _ _) rfl tyX1 tyX1_ok nmX1 2 (by decide) flX4_send_120 wiX4_send_X1 rfl (tyX1_ok 2 (by decide)) (by rfl) (by rfl) (by exact Nat.le_of_ble_eq_true rfl) ?_
      refine V_iload C dX4_send_34 rfl ?_
      exact V_x (V_iret C dX4_send_36 hr ⟨rfl, rfl, Z, ta, r.setCrew hk (rrt (xcr X k), rdy (xcr X k), none, rmt (xcr X k), rtr (xcr X k), rld (xcr X k)), tyv_set t hk rfl, rfl, r.ffr (hfr.st (a := 4) (i := k) hk)⟩ (by exact Nat.le_of_ble_eq_true rfl) (by exact Nat.le_of_ble_eq_true rfl))
    · by_cases hx : picN X x
      · obtain ⟨q, hq, rfl, eq⟩ := picN_of hI.1 hx
        have hpic := r.pic hq
        have hsp : sp_send X (nI k) (nI q) = (none, olI (rpc (xcr X k)), setR X k (rrt (xcr X k), rdy (xcr X k), some q, rmt (xcr X k), rtr (xcr X k), rld (xcr X k))) := by unfold sp_send; rw [if_pos ⟨hc, Or.inr hx⟩, if_neg hm, ek, eq]
        rw [hsp]
        refine Mx_of (cc := cX4_send) (maxL := 6) (ret := (some .int)) (own := RX4) [some (.ref (Z 0 0)), some (.int (nI k)), some (.int (nI q)), none, none, none] rfl (by decide +kernel) rfl rfl (by exact Nat.le_of_ble_eq_true rfl) rfl ?_
        intro p9 e9 s9 m9 args9 below9 meth9 c9 C hr hex hz hsz
        refine V_aload_n (i := 0) C dX4_send_0 rfl rfl ?_
        refine V_iload_n (i := 1) C dX4_send_1 rfl rfl ?_
        refine V_callV (n := 1) C (c_needCrew1 r hk) dX4_send_2 gX4_send_X4_needCrew rfl (by first | assumption | exact hset_s _ _ _) rfl (by decide +kernel) rfl rfl (by exact Nat.le_of_ble_eq_true rfl) ⟨Nat.le_of_ble_eq_true rfl, Nat.le_of_ble_eq_true rfl⟩ ⟨Nat.le_of_ble_eq_true rfl, Nat.le_of_ble_eq_true rfl⟩ (fun v9 h9 hr9 => ?_)
        obtain ⟨rfl, rfl⟩ := hr9
        refine V_astore3 C dX4_send_5 (by decide) ?_
        refine V_iload_n (i := 2) C dX4_send_6 rfl rfl ?_
        refine V_iconst (v := (-1)) C dX4_send_7 (by decide) ?_
        refine V_icmp_ne (tgt := 15) C dX4_send_8 (by decide) (fun _ => ?_) (fun z9 => absurd z9 hm)
        refine V_aload_n (i := 0) C dX4_send_15 rfl rfl ?_
        refine V_iload_n (i := 2) C dX4_send_16 rfl rfl ?_
        refine V_callV (n := 1) C (c_needPic1 r hI.1 hq) dX4_send_17 gX4_send_X4_needPicture rfl (by first | assumption | exact hset_s _ _ _) rfl (by decide +kernel) rfl rfl (by exact Nat.le_of_ble_eq_true rfl) ⟨Nat.le_of_ble_eq_true rfl, Nat.le_of_ble_eq_true rfl⟩ ⟨Nat.le_of_ble_eq_true rfl, Nat.le_of_ble_eq_true rfl⟩ (fun v9 h9 hr9 => ?_)
        obtain ⟨rfl, rfl⟩ := hr9
        refine V_astore4 C dX4_send_20 (by decide) ?_
        refine V_aload_n (i := 3) C dX4_send_22 rfl rfl ?_
        refine V_callV (n := 0) C (c_pictureNumber r hk (hI.2.2 k hk)) dX4_send_23 gX4_send_X1_pictureNumber rfl (by first | assumption | exact hset_s _ _ _) rfl (by decide +kernel) rfl rfl (by exact Nat.le_of_ble_eq_true rfl) ⟨Nat.le_of_ble_eq_true rfl, Nat.le_of_ble_eq_true rfl⟩ ⟨Nat.le_of_ble_eq_true rfl, Nat.le_of_ble_eq_true rfl⟩ (fun v9 h9 hr9 => ?_)
        obtain ⟨rfl, z9⟩ := hr9
        have z9 := z9.symm
        subst z9
        refine V_istore5 C dX4_send_26 (by decide) ?_
        refine V_aload_n (i := 3) C dX4_send_28 rfl rfl ?_
        refine V_aload C dX4_send_29 rfl ?_
        refine V_put (ci := 1) (CN := RX1) (T := TX1) (N := 7) (ty := (tyX1 2)) C dX4_send_31 (by first | assumption | exact hset_s _ _ _) rfl tyX1 tyX1_ok nmX1 2 (by decide) flX4_send_120 wiX4_send_X1 rfl (tyX1_ok 2 (by decide)) (by rfl) (by rfl) (by exact Nat.le_of_ble_eq_true rfl) ?_
        refine V_iload C dX4_send_34 rfl ?_
        exact V_x (V_iret C dX4_send_36 hr ⟨rfl, rfl, Z, ta, r.setCrew hk (rrt (xcr X k), rdy (xcr X k), some q, rmt (xcr X k), rtr (xcr X k), rld (xcr X k)), tyv_set t hk rfl, rfl, r.ffr (hfr.st (a := 4) (i := k) hk)⟩ (by exact Nat.le_of_ble_eq_true rfl) (by exact Nat.le_of_ble_eq_true rfl))
      · have hsp : sp_send X (nI k) x = (some kIO, 0, X) := by unfold sp_send; rw [if_neg (fun z => z.2.elim hm hx)]
        rw [hsp]
        refine Mx_of (cc := cX4_send) (maxL := 6) (ret := (some .int)) (own := RX4) [some (.ref (Z 0 0)), some (.int (nI k)), some (.int x), none, none, none] rfl (by decide +kernel) rfl rfl (by exact Nat.le_of_ble_eq_true rfl) rfl ?_
        intro p9 e9 s9 m9 args9 below9 meth9 c9 C hr hex hz hsz
        refine V_aload_n (i := 0) C dX4_send_0 rfl rfl ?_
        refine V_iload_n (i := 1) C dX4_send_1 rfl rfl ?_
        refine V_callV (n := 1) C (c_needCrew1 r hk) dX4_send_2 gX4_send_X4_needCrew rfl (by first | assumption | exact hset_s _ _ _) rfl (by decide +kernel) rfl rfl (by exact Nat.le_of_ble_eq_true rfl) ⟨Nat.le_of_ble_eq_true rfl, Nat.le_of_ble_eq_true rfl⟩ ⟨Nat.le_of_ble_eq_true rfl, Nat.le_of_ble_eq_true rfl⟩ (fun v9 h9 hr9 => ?_)
        obtain ⟨rfl, rfl⟩ := hr9
        refine V_astore3 C dX4_send_5 (by decide) ?_
        refine V_iload_n (i := 2) C dX4_send_6 rfl rfl ?_
        refine V_iconst (v := (-1)) C dX4_send_7 (by decide) ?_
        refine V_icmp_ne (tgt := 15) C dX4_send_8 (by decide) (fun _ => ?_) (fun z9 => absurd z9 hm)
        refine V_aload_n (i := 0) C dX4_send_15 rfl rfl ?_
        refine V_iload_n (i := 2) C dX4_send_16 rfl rfl ?_
        refine V_xcallVg (n := 1) C (c_needPic0 hlt r hI.1 hx) dX4_send_17 gX4_send_X4_needPicture rfl (by first | assumption | exact hset_s _ _ _) rfl (by decide +kernel) rfl rfl (by exact Nat.le_of_ble_eq_true rfl) ⟨Nat.le_of_ble_eq_true rfl, Nat.le_of_ble_eq_true rfl⟩ ⟨Nat.le_of_ble_eq_true rfl, Nat.le_of_ble_eq_true rfl⟩ (by exact Nat.le_of_ble_eq_true rfl) (by exact Nat.le_of_ble_eq_true rfl) hex hz SZr.moves hsz Psx_of (fun v9 h9 hr9 => ?_)
        exact hr9.elim
  · have hsp : sp_send X c x = (some kIO, 0, X) := by unfold sp_send; rw [if_neg (fun z => hc z.1)]
    rw [hsp]
    refine Mx_of (cc := cX4_send) (maxL := 6) (ret := (some .int)) (own := RX4) [some (.ref (Z 0 0)), some (.int c), some (.int x), none, none, none] rfl (by decide +kernel) rfl rfl (by exact Nat.le_of_ble_eq_true rfl) rfl ?_
    intro p9 e9 s9 m9 args9 below9 meth9 c9 C hr hex hz hsz
    refine V_aload_n (i := 0) C dX4_send_0 rfl rfl ?_
    refine V_iload_n (i := 1) C dX4_send_1 rfl rfl ?_
    refine V_xcallVg (n := 1) C (c_needCrew0 hlt r hc) dX4_send_2 gX4_send_X4_needCrew rfl (by first | assumption | exact hset_s _ _ _) rfl (by decide +kernel) rfl rfl (by exact Nat.le_of_ble_eq_true rfl) ⟨Nat.le_of_ble_eq_true rfl, Nat.le_of_ble_eq_true rfl⟩ ⟨Nat.le_of_ble_eq_true rfl, Nat.le_of_ble_eq_true rfl⟩ (by exact Nat.le_of_ble_eq_true rfl) (by exact Nat.le_of_ble_eq_true rfl) hex hz SZr.moves hsz Psx_of (fun v9 h9 hr9 => ?_)
    exact hr9.elim
set_option maxHeartbeats 4000000 in
set_option maxRecDepth 100000 in
theorem m_crew (hlt : l.stackTraces = false) (r : XR cA Z X ta h) (t : tyv Z X ta) (hI : LI X) {c a b : Int32} : Mx l D cA bs SZr yX4_crew wsX4_crew (rmk 9 4 30) [.ref (Z 0 0), .int c, .int a, .int b] h (Pst cA Z h (sp_crew X c a b)) (Psx h (sp_crew X c a b)) := by
  have hrow := r.row
  by_cases hc : crewN c
  · obtain ⟨k, hk, rfl, ek⟩ := crewN_of hc
    have hcr := r.crew0 hk
    by_cases ha : okR a 1 9
    · by_cases hb : okR b 0 9
      · have hsp : sp_crew X (nI k) a b = (none, rrt (xcr X k), setR X k (a, b, rpc (xcr X k), rmt (xcr X k), rtr (xcr X k), rld (xcr X k))) := by unfold sp_crew; rw [if_pos hc, if_pos ⟨ha, hb⟩, ek]
        rw [hsp]
        refine Mx_of (cc := cX4_crew) (maxL := 6) (ret := (some .int)) (own := RX4) [some (.ref (Z 0 0)), some (.int (nI k)), some (.int a), some (.int b), none, none] rfl (by decide +kernel) rfl rfl (by exact Nat.le_of_ble_eq_true rfl) rfl ?_
        intro p9 e9 s9 m9 args9 below9 meth9 c9 C hr hex hz hsz
        refine V_aload_n (i := 0) C dX4_crew_0 rfl rfl ?_
        refine V_iload_n (i := 1) C dX4_crew_1 rfl rfl ?_
        refine V_callV (n := 1) C (c_needCrew1 r hk) dX4_crew_2 gX4_crew_X4_needCrew rfl (by first | assumption | exact hset_s _ _ _) rfl (by decide +kernel) rfl rfl (by exact Nat.le_of_ble_eq_true rfl) ⟨Nat.le_of_ble_eq_true rfl, Nat.le_of_ble_eq_true rfl⟩ ⟨Nat.le_of_ble_eq_true rfl, Nat.le_of_ble_eq_true rfl⟩ (fun v9 h9 hr9 => ?_)
        obtain ⟨rfl, rfl⟩ := hr9
        refine V_astore4 C dX4_crew_5 (by decide) ?_
        refine V_iload_n (i := 2) C dX4_crew_7 rfl rfl ?_
        refine V_iconst (v := 1) C dX4_crew_8 (by decide) ?_
        refine V_bipush (v := 9) C dX4_crew_9 (by decide) ?_
        refine V_callS (n := 3) C (c_range1 ha.1 ha.2) dX4_crew_11 gX4_crew_X4_needRange rfl (by decide +kernel) rfl rfl (by exact Nat.le_of_ble_eq_true rfl) ⟨Nat.le_of_ble_eq_true rfl, Nat.le_of_ble_eq_true rfl⟩ ⟨Nat.le_of_ble_eq_true rfl, Nat.le_of_ble_eq_true rfl⟩ (fun v9 h9 hr9 => ?_)
        obtain ⟨rfl, rfl⟩ := hr9
        refine V_iload_n (i := 3) C dX4_crew_14 rfl rfl ?_
        refine V_iconst (v := 0) C dX4_crew_15 (by decide) ?_
        refine V_bipush (v := 9) C dX4_crew_16 (by decide) ?_
        refine V_callS (n := 3) C (c_range1 hb.1 hb.2) dX4_crew_18 gX4_crew_X4_needRange rfl (by decide +kernel) rfl rfl (by exact Nat.le_of_ble_eq_true rfl) ⟨Nat.le_of_ble_eq_true rfl, Nat.le_of_ble_eq_true rfl⟩ ⟨Nat.le_of_ble_eq_true rfl, Nat.le_of_ble_eq_true rfl⟩ (fun v9 h9 hr9 => ?_)
        obtain ⟨rfl, rfl⟩ := hr9
        refine V_aload C dX4_crew_21 rfl ?_
        refine V_get (ci := 1) (CN := RX1) (T := TX1) (N := 7) C dX4_crew_23 (by first | assumption | exact hset_s _ _ _) rfl 0 (by decide) flX4_crew_124 wiX4_crew_X1 (by rfl) ?_
        refine V_istore5 C dX4_crew_26 (by decide) ?_
        refine V_aload C dX4_crew_28 rfl ?_
        refine V_iload_n (i := 2) C dX4_crew_30 rfl rfl ?_
        refine V_put (ci := 1) (CN := RX1) (T := TX1) (N := 7) (ty := (tyX1 0)) C dX4_crew_31 (by first | assumption | exact hset_s _ _ _) rfl tyX1 tyX1_ok nmX1 0 (by decide) flX4_crew_124 wiX4_crew_X1 rfl (tyX1_ok 0 (by decide)) (by rfl) (by rfl) (by exact Nat.le_of_ble_eq_true rfl) ?_
        refine V_aload C dX4_crew_34 rfl ?_
        refine V_iload_n (i := 3) C dX4_crew_36 rfl rfl ?_
        refine V_put (ci := 1) (CN := RX1) (T := TX1) (N := 7) (ty := (tyX1 1)) C dX4_crew_37 (by first | assumption | exact hset_s _ _ _) rfl tyX1 tyX1_ok nmX1 1 (by decide) flX4_crew_127 wiX4_crew_X1 rfl (tyX1_ok 1 (by decide)) (by rfl) (by rfl) (by exact Nat.le_of_ble_eq_true rfl) ?_
        rw [hset_hset]
        refine V_iload C dX4_crew_40 rfl ?_
        exact V_x (V_iret C dX4_crew_42 hr ⟨rfl, rfl, Z, ta, r.setCrew hk (a, b, rpc (xcr X k), rmt (xcr X k), rtr (xcr X k), rld (xcr X k)), tyv_set t hk rfl, rfl, r.ffr (hfr.st (a := 4) (i := k) hk)⟩ (by exact Nat.le_of_ble_eq_true rfl) (by exact Nat.le_of_ble_eq_true rfl))
      · have hsp : sp_crew X (nI k) a b = (some kIA, 0, X) := by unfold sp_crew; rw [if_pos hc, if_neg (fun z => hb z.2)]
        rw [hsp]
        refine Mx_of (cc := cX4_crew) (maxL := 6) (ret := (some .int)) (own := RX4) [some (.ref (Z 0 0)), some (.int (nI k)), some (.int a), some (.int b), none, none] rfl (by decide +kernel) rfl rfl (by exact Nat.le_of_ble_eq_true rfl) rfl ?_
        intro p9 e9 s9 m9 args9 below9 meth9 c9 C hr hex hz hsz
        refine V_aload_n (i := 0) C dX4_crew_0 rfl rfl ?_
        refine V_iload_n (i := 1) C dX4_crew_1 rfl rfl ?_
        refine V_callV (n := 1) C (c_needCrew1 r hk) dX4_crew_2 gX4_crew_X4_needCrew rfl (by first | assumption | exact hset_s _ _ _) rfl (by decide +kernel) rfl rfl (by exact Nat.le_of_ble_eq_true rfl) ⟨Nat.le_of_ble_eq_true rfl, Nat.le_of_ble_eq_true rfl⟩ ⟨Nat.le_of_ble_eq_true rfl, Nat.le_of_ble_eq_true rfl⟩ (fun v9 h9 hr9 => ?_)
        obtain ⟨rfl, rfl⟩ := hr9
        refine V_astore4 C dX4_crew_5 (by decide) ?_
        refine V_iload_n (i := 2) C dX4_crew_7 rfl rfl ?_
        refine V_iconst (v := 1) C dX4_crew_8 (by decide) ?_
        refine V_bipush (v := 9) C dX4_crew_9 (by decide) ?_
        refine V_callS (n := 3) C (c_range1 ha.1 ha.2) dX4_crew_11 gX4_crew_X4_needRange rfl (by decide +kernel) rfl rfl (by exact Nat.le_of_ble_eq_true rfl) ⟨Nat.le_of_ble_eq_true rfl, Nat.le_of_ble_eq_true rfl⟩ ⟨Nat.le_of_ble_eq_true rfl, Nat.le_of_ble_eq_true rfl⟩ (fun v9 h9 hr9 => ?_)
        obtain ⟨rfl, rfl⟩ := hr9
        refine V_iload_n (i := 3) C dX4_crew_14 rfl rfl ?_
        refine V_iconst (v := 0) C dX4_crew_15 (by decide) ?_
        refine V_bipush (v := 9) C dX4_crew_16 (by decide) ?_
        refine V_xcallSg (n := 3) C (c_range0 hlt hb) dX4_crew_18 gX4_crew_X4_needRange rfl (by decide +kernel) rfl rfl (by exact Nat.le_of_ble_eq_true rfl) ⟨Nat.le_of_ble_eq_true rfl, Nat.le_of_ble_eq_true rfl⟩ ⟨Nat.le_of_ble_eq_true rfl, Nat.le_of_ble_eq_true rfl⟩ (by exact Nat.le_of_ble_eq_true rfl) (by exact Nat.le_of_ble_eq_true rfl) hex hz SZr.moves hsz Psx_of (fun v9 h9 hr9 => ?_)
        exact hr9.elim
    · have hsp : sp_crew X (nI k) a b = (some kIA, 0, X) := by unfold sp_crew; rw [if_pos hc, if_neg (fun z => ha z.1)]
      rw [hsp]
      refine Mx_of (cc := cX4_crew) (maxL := 6) (ret := (some .int)) (own := RX4) [some (.ref (Z 0 0)), some (.int (nI k)), some (.int a), some (.int b), none, none] rfl (by decide +kernel) rfl rfl (by exact Nat.le_of_ble_eq_true rfl) rfl ?_
      intro p9 e9 s9 m9 args9 below9 meth9 c9 C hr hex hz hsz
      refine V_aload_n (i := 0) C dX4_crew_0 rfl rfl ?_
      refine V_iload_n (i := 1) C dX4_crew_1 rfl rfl ?_
      refine V_callV (n := 1) C (c_needCrew1 r hk) dX4_crew_2 gX4_crew_X4_needCrew rfl (by first | assumption | exact hset_s _ _ _) rfl (by decide +kernel) rfl rfl (by exact Nat.le_of_ble_eq_true rfl) ⟨Nat.le_of_ble_eq_true rfl, Nat.le_of_ble_eq_true rfl⟩ ⟨Nat.le_of_ble_eq_true rfl, Nat.le_of_ble_eq_true rfl⟩ (fun v9 h9 hr9 => ?_)
      obtain ⟨rfl, rfl⟩ := hr9
      refine V_astore4 C dX4_crew_5 (by decide) ?_
      refine V_iload_n (i := 2) C dX4_crew_7 rfl rfl ?_
      refine V_iconst (v := 1) C dX4_crew_8 (by decide) ?_
      refine V_bipush (v := 9) C dX4_crew_9 (by decide) ?_
      refine V_xcallSg (n := 3) C (c_range0 hlt ha) dX4_crew_11 gX4_crew_X4_needRange rfl (by decide +kernel) rfl rfl (by exact Nat.le_of_ble_eq_true rfl) ⟨Nat.le_of_ble_eq_true rfl, Nat.le_of_ble_eq_true rfl⟩ ⟨Nat.le_of_ble_eq_true rfl, Nat.le_of_ble_eq_true rfl⟩ (by exact Nat.le_of_ble_eq_true rfl) (by exact Nat.le_of_ble_eq_true rfl) hex hz SZr.moves hsz Psx_of (fun v9 h9 hr9 => ?_)
      exact hr9.elim
  · have hsp : sp_crew X c a b = (some kIO, 0, X) := by unfold sp_crew; rw [if_neg hc]
    rw [hsp]
    refine Mx_of (cc := cX4_crew) (maxL := 6) (ret := (some .int)) (own := RX4) [some (.ref (Z 0 0)), some (.int c), some (.int a), some (.int b), none, none] rfl (by decide +kernel) rfl rfl (by exact Nat.le_of_ble_eq_true rfl) rfl ?_
    intro p9 e9 s9 m9 args9 below9 meth9 c9 C hr hex hz hsz
    refine V_aload_n (i := 0) C dX4_crew_0 rfl rfl ?_
    refine V_iload_n (i := 1) C dX4_crew_1 rfl rfl ?_
    refine V_xcallVg (n := 1) C (c_needCrew0 hlt r hc) dX4_crew_2 gX4_crew_X4_needCrew rfl (by first | assumption | exact hset_s _ _ _) rfl (by decide +kernel) rfl rfl (by exact Nat.le_of_ble_eq_true rfl) ⟨Nat.le_of_ble_eq_true rfl, Nat.le_of_ble_eq_true rfl⟩ ⟨Nat.le_of_ble_eq_true rfl, Nat.le_of_ble_eq_true rfl⟩ (by exact Nat.le_of_ble_eq_true rfl) (by exact Nat.le_of_ble_eq_true rfl) hex hz SZr.moves hsz Psx_of (fun v9 h9 hr9 => ?_)
    exact hr9.elim
set_option maxHeartbeats 4000000 in
set_option maxRecDepth 100000 in
theorem m_tray (hlt : l.stackTraces = false) (r : XR cA Z X ta h) (t : tyv Z X ta) (hI : LI X) {c a : Int32} : Mx l D cA bs SZr yX4_tray wsX4_tray (rmk 9 4 30) [.ref (Z 0 0), .int c, .int a] h (Pst cA Z h (sp_tray X c a)) (Psx h (sp_tray X c a)) := by
  have hrow := r.row
  by_cases hc : crewN c
  · obtain ⟨k, hk, rfl, ek⟩ := crewN_of hc
    have hcr := r.crew0 hk
    by_cases ha : okR a 0 1
    · have hsp : sp_tray X (nI k) a = (none, nI (rtr (xcr X k)).length, setR X k (rrt (xcr X k), rdy (xcr X k), rpc (xcr X k), a, [], rld (xcr X k))) := by unfold sp_tray; rw [if_pos hc, if_pos ha, ek]
      rw [hsp]
      refine Mx_of (cc := cX4_tray) (maxL := 5) (ret := (some .int)) (own := RX4) [some (.ref (Z 0 0)), some (.int (nI k)), some (.int a), none, none] rfl (by decide +kernel) rfl rfl (by exact Nat.le_of_ble_eq_true rfl) rfl ?_
      intro p9 e9 s9 m9 args9 below9 meth9 c9 C hr hex hz hsz
      refine V_aload_n (i := 0) C dX4_tray_0 rfl rfl ?_
      refine V_iload_n (i := 1) C dX4_tray_1 rfl rfl ?_
      refine V_callV (n := 1) C (c_needCrew1 r hk) dX4_tray_2 gX4_tray_X4_needCrew rfl (by first | assumption | exact hset_s _ _ _) rfl (by decide +kernel) rfl rfl (by exact Nat.le_of_ble_eq_true rfl) ⟨Nat.le_of_ble_eq_true rfl, Nat.le_of_ble_eq_true rfl⟩ ⟨Nat.le_of_ble_eq_true rfl, Nat.le_of_ble_eq_true rfl⟩ (fun v9 h9 hr9 => ?_)
      obtain ⟨rfl, rfl⟩ := hr9
      refine V_astore3 C dX4_tray_5 (by decide) ?_
      refine V_iload_n (i := 2) C dX4_tray_6 rfl rfl ?_
      refine V_iconst (v := 0) C dX4_tray_7 (by decide) ?_
      refine V_iconst (v := 1) C dX4_tray_8 (by decide) ?_
      refine V_callS (n := 3) C (c_range1 ha.1 ha.2) dX4_tray_9 gX4_tray_X4_needRange rfl (by decide +kernel) rfl rfl (by exact Nat.le_of_ble_eq_true rfl) ⟨Nat.le_of_ble_eq_true rfl, Nat.le_of_ble_eq_true rfl⟩ ⟨Nat.le_of_ble_eq_true rfl, Nat.le_of_ble_eq_true rfl⟩ (fun v9 h9 hr9 => ?_)
      obtain ⟨rfl, rfl⟩ := hr9
      refine V_aload_n (i := 3) C dX4_tray_12 rfl rfl ?_
      refine V_get (ci := 1) (CN := RX1) (T := TX1) (N := 7) C dX4_tray_13 (by first | assumption | exact hset_s _ _ _) rfl 5 (by decide) flX4_tray_130 wiX4_tray_X1 (by rfl) ?_
      refine V_istore4 C dX4_tray_16 (by decide) ?_
      refine V_aload_n (i := 3) C dX4_tray_18 rfl rfl ?_
      refine V_iload_n (i := 2) C dX4_tray_19 rfl rfl ?_
      refine V_put (ci := 1) (CN := RX1) (T := TX1) (N := 7) (ty := (tyX1 3)) C dX4_tray_20 (by first | assumption | exact hset_s _ _ _) rfl tyX1 tyX1_ok nmX1 3 (by decide) flX4_tray_133 wiX4_tray_X1 rfl (tyX1_ok 3 (by decide)) (by rfl) (by rfl) (by exact Nat.le_of_ble_eq_true rfl) ?_
      refine V_aload_n (i := 3) C dX4_tray_23 rfl rfl ?_
      refine V_iconst (v := 0) C dX4_tray_24 (by decide) ?_
      refine V_put (ci := 1) (CN := RX1) (T := TX1) (N := 7) (ty := (tyX1 5)) C dX4_tray_25 (by first | assumption | exact hset_s _ _ _) rfl tyX1 tyX1_ok nmX1 5 (by decide) flX4_tray_130 wiX4_tray_X1 rfl (tyX1_ok 5 (by decide)) (by rfl) (by rfl) (by exact Nat.le_of_ble_eq_true rfl) ?_
      rw [hset_hset]
      refine V_iload C dX4_tray_28 rfl ?_
      exact V_x (V_iret C dX4_tray_30 hr ⟨rfl, rfl, Z, ta, r.setCrew hk (rrt (xcr X k), rdy (xcr X k), rpc (xcr X k), a, [], rld (xcr X k)), tyv_nil t hk rfl, rfl, r.ffr (hfr.st (a := 4) (i := k) hk)⟩ (by exact Nat.le_of_ble_eq_true rfl) (by exact Nat.le_of_ble_eq_true rfl))
    · have hsp : sp_tray X (nI k) a = (some kIA, 0, X) := by unfold sp_tray; rw [if_pos hc, if_neg ha]
      rw [hsp]
      refine Mx_of (cc := cX4_tray) (maxL := 5) (ret := (some .int)) (own := RX4) [some (.ref (Z 0 0)), some (.int (nI k)), some (.int a), none, none] rfl (by decide +kernel) rfl rfl (by exact Nat.le_of_ble_eq_true rfl) rfl ?_
      intro p9 e9 s9 m9 args9 below9 meth9 c9 C hr hex hz hsz
      refine V_aload_n (i := 0) C dX4_tray_0 rfl rfl ?_
      refine V_iload_n (i := 1) C dX4_tray_1 rfl rfl ?_
      refine V_callV (n := 1) C (c_needCrew1 r hk) dX4_tray_2 gX4_tray_X4_needCrew rfl (by first | assumption | exact hset_s _ _ _) rfl (by decide +kernel) rfl rfl (by exact Nat.le_of_ble_eq_true rfl) ⟨Nat.le_of_ble_eq_true rfl, Nat.le_of_ble_eq_true rfl⟩ ⟨Nat.le_of_ble_eq_true rfl, Nat.le_of_ble_eq_true rfl⟩ (fun v9 h9 hr9 => ?_)
      obtain ⟨rfl, rfl⟩ := hr9
      refine V_astore3 C dX4_tray_5 (by decide) ?_
      refine V_iload_n (i := 2) C dX4_tray_6 rfl rfl ?_
      refine V_iconst (v := 0) C dX4_tray_7 (by decide) ?_
      refine V_iconst (v := 1) C dX4_tray_8 (by decide) ?_
      refine V_xcallSg (n := 3) C (c_range0 hlt ha) dX4_tray_9 gX4_tray_X4_needRange rfl (by decide +kernel) rfl rfl (by exact Nat.le_of_ble_eq_true rfl) ⟨Nat.le_of_ble_eq_true rfl, Nat.le_of_ble_eq_true rfl⟩ ⟨Nat.le_of_ble_eq_true rfl, Nat.le_of_ble_eq_true rfl⟩ (by exact Nat.le_of_ble_eq_true rfl) (by exact Nat.le_of_ble_eq_true rfl) hex hz SZr.moves hsz Psx_of (fun v9 h9 hr9 => ?_)
      exact hr9.elim
  · have hsp : sp_tray X c a = (some kIO, 0, X) := by unfold sp_tray; rw [if_neg hc]
    rw [hsp]
    refine Mx_of (cc := cX4_tray) (maxL := 5) (ret := (some .int)) (own := RX4) [some (.ref (Z 0 0)), some (.int c), some (.int a), none, none] rfl (by decide +kernel) rfl rfl (by exact Nat.le_of_ble_eq_true rfl) rfl ?_
    intro p9 e9 s9 m9 args9 below9 meth9 c9 C hr hex hz hsz
    refine V_aload_n (i := 0) C dX4_tray_0 rfl rfl ?_
    refine V_iload_n (i := 1) C dX4_tray_1 rfl rfl ?_
    refine V_xcallVg (n := 1) C (c_needCrew0 hlt r hc) dX4_tray_2 gX4_tray_X4_needCrew rfl (by first | assumption | exact hset_s _ _ _) rfl (by decide +kernel) rfl rfl (by exact Nat.le_of_ble_eq_true rfl) ⟨Nat.le_of_ble_eq_true rfl, Nat.le_of_ble_eq_true rfl⟩ ⟨Nat.le_of_ble_eq_true rfl, Nat.le_of_ble_eq_true rfl⟩ (by exact Nat.le_of_ble_eq_true rfl) (by exact Nat.le_of_ble_eq_true rfl) hex hz SZr.moves hsz Psx_of (fun v9 h9 hr9 => ?_)
    exact hr9.elim
set_option maxHeartbeats 4000000 in
set_option maxRecDepth 100000 in
theorem m_load (hlt : l.stackTraces = false) (r : XR cA Z X ta h) (t : tyv Z X ta) (hI : LI X) {c a : Int32} : Mx l D cA bs SZr yX4_load wsX4_load (rmk 9 4 30) [.ref (Z 0 0), .int c, .int a] h (Pst cA Z h (sp_load X c a)) (Psx h (sp_load X c a)) := by
  have hrow := r.row
  by_cases hc : crewN c
  · obtain ⟨k, hk, rfl, ek⟩ := crewN_of hc
    have hcr := r.crew0 hk
    by_cases ha : lotN X a
    · obtain ⟨i, hi, rfl, ei⟩ := lotN_of hI.1 ha
      have hsp : sp_load X (nI k) (nI i) = if i ∈ rtr (xcr X k) then (none, 1, X) else if lmt (xlo X i) = rmt (xcr X k) ∧ (rtr (xcr X k)).length < 4 then (none, 1, ldX X k i) else (none, 0, X) := by unfold sp_load; rw [if_pos ⟨hc, ha⟩, ek, ei]
      rw [hsp]
      refine Mx_of (cc := cX4_load) (maxL := 4) (ret := (some .boolean)) (own := RX4) [some (.ref (Z 0 0)), some (.int (nI k)), some (.int (nI i)), none] rfl (by decide +kernel) rfl rfl (by exact Nat.le_of_ble_eq_true rfl) rfl ?_
      intro p9 e9 s9 m9 args9 below9 meth9 c9 C hr hex hz hsz
      refine V_aload_n (i := 0) C dX4_load_0 rfl rfl ?_
      refine V_iload_n (i := 1) C dX4_load_1 rfl rfl ?_
      refine V_callV (n := 1) C (c_needCrew1 r hk) dX4_load_2 gX4_load_X4_needCrew rfl (by first | assumption | exact hset_s _ _ _) rfl (by decide +kernel) rfl rfl (by exact Nat.le_of_ble_eq_true rfl) ⟨Nat.le_of_ble_eq_true rfl, Nat.le_of_ble_eq_true rfl⟩ ⟨Nat.le_of_ble_eq_true rfl, Nat.le_of_ble_eq_true rfl⟩ (fun v9 h9 hr9 => ?_)
      obtain ⟨rfl, rfl⟩ := hr9
      refine V_astore3 C dX4_load_5 (by decide) ?_
      refine V_aload_n (i := 3) C dX4_load_6 rfl rfl ?_
      refine V_aload_n (i := 0) C dX4_load_7 rfl rfl ?_
      refine V_iload_n (i := 2) C dX4_load_8 rfl rfl ?_
      refine V_callV (n := 1) C (c_needLot1 r hI.1 hi) dX4_load_9 gX4_load_X4_needLot rfl (by first | assumption | exact hset_s _ _ _) rfl (by decide +kernel) rfl rfl (by exact Nat.le_of_ble_eq_true rfl) ⟨Nat.le_of_ble_eq_true rfl, Nat.le_of_ble_eq_true rfl⟩ ⟨Nat.le_of_ble_eq_true rfl, Nat.le_of_ble_eq_true rfl⟩ (fun v9 h9 hr9 => ?_)
      obtain ⟨rfl, rfl⟩ := hr9
      refine V_callV (n := 1) C (c_takeOnTray r hk hi t) dX4_load_12 gX4_load_X1_takeOnTray rfl (by first | assumption | exact hset_s _ _ _) rfl (by decide +kernel) rfl rfl (by exact Nat.le_of_ble_eq_true rfl) ⟨Nat.le_of_ble_eq_true rfl, Nat.le_of_ble_eq_true rfl⟩ ⟨Nat.le_of_ble_eq_true rfl, Nat.le_of_ble_eq_true rfl⟩ (fun v9 h9 hr9 => ?_)
      rcases hr9 with ⟨⟨h1, rfl⟩ | ⟨h1, h2, rfl⟩, z9⟩ | ⟨h1, h2, rfl, ta2, r2, t2, f2⟩
      · exact V_x (V_zret C dX4_load_15 hr (by rfl) ⟨by rw [if_pos h1], by rw [if_pos h1], Z, ta, by rw [if_pos h1, z9]; exact r, by rw [if_pos h1]; exact t, rfl, by rw [z9]; exact ffr.rf⟩ (by exact Nat.le_of_ble_eq_true rfl) (by exact Nat.le_of_ble_eq_true rfl))
      · exact V_x (V_zret C dX4_load_15 hr (by rfl) ⟨by rw [if_neg h1, if_neg h2], by rw [if_neg h1, if_neg h2], Z, ta, by rw [if_neg h1, if_neg h2, z9]; exact r, by rw [if_neg h1, if_neg h2]; exact t, rfl, by rw [z9]; exact ffr.rf⟩ (by exact Nat.le_of_ble_eq_true rfl) (by exact Nat.le_of_ble_eq_true rfl))
      · exact V_x (V_zret C dX4_load_15 hr (by rfl) ⟨by rw [if_neg h1, if_pos h2], by rw [if_neg h1, if_pos h2], Z, ta2, by rw [if_neg h1, if_pos h2]; exact r2, by rw [if_neg h1, if_pos h2]; exact t2, rfl, r.ffr f2⟩ (by exact Nat.le_of_ble_eq_true rfl) (by exact Nat.le_of_ble_eq_true rfl))
    · have hsp : sp_load X (nI k) a = (some kIO, 0, X) := by unfold sp_load; rw [if_neg (fun z => ha z.2)]
      rw [hsp]
      refine Mx_of (cc := cX4_load) (maxL := 4) (ret := (some .boolean)) (own := RX4) [some (.ref (Z 0 0)), some (.int (nI k)), some (.int a), none] rfl (by decide +kernel) rfl rfl (by exact Nat.le_of_ble_eq_true rfl) rfl ?_
      intro p9 e9 s9 m9 args9 below9 meth9 c9 C hr hex hz hsz
      refine V_aload_n (i := 0) C dX4_load_0 rfl rfl ?_
      refine V_iload_n (i := 1) C dX4_load_1 rfl rfl ?_
      refine V_callV (n := 1) C (c_needCrew1 r hk) dX4_load_2 gX4_load_X4_needCrew rfl (by first | assumption | exact hset_s _ _ _) rfl (by decide +kernel) rfl rfl (by exact Nat.le_of_ble_eq_true rfl) ⟨Nat.le_of_ble_eq_true rfl, Nat.le_of_ble_eq_true rfl⟩ ⟨Nat.le_of_ble_eq_true rfl, Nat.le_of_ble_eq_true rfl⟩ (fun v9 h9 hr9 => ?_)
      obtain ⟨rfl, rfl⟩ := hr9
      refine V_astore3 C dX4_load_5 (by decide) ?_
      refine V_aload_n (i := 3) C dX4_load_6 rfl rfl ?_
      refine V_aload_n (i := 0) C dX4_load_7 rfl rfl ?_
      refine V_iload_n (i := 2) C dX4_load_8 rfl rfl ?_
      refine V_xcallVg (n := 1) C (c_needLot0 hlt r hI.1 ha) dX4_load_9 gX4_load_X4_needLot rfl (by first | assumption | exact hset_s _ _ _) rfl (by decide +kernel) rfl rfl (by exact Nat.le_of_ble_eq_true rfl) ⟨Nat.le_of_ble_eq_true rfl, Nat.le_of_ble_eq_true rfl⟩ ⟨Nat.le_of_ble_eq_true rfl, Nat.le_of_ble_eq_true rfl⟩ (by exact Nat.le_of_ble_eq_true rfl) (by exact Nat.le_of_ble_eq_true rfl) hex hz SZr.moves hsz Psx_of (fun v9 h9 hr9 => ?_)
      exact hr9.elim
  · have hsp : sp_load X c a = (some kIO, 0, X) := by unfold sp_load; rw [if_neg (fun z => hc z.1)]
    rw [hsp]
    refine Mx_of (cc := cX4_load) (maxL := 4) (ret := (some .boolean)) (own := RX4) [some (.ref (Z 0 0)), some (.int c), some (.int a), none] rfl (by decide +kernel) rfl rfl (by exact Nat.le_of_ble_eq_true rfl) rfl ?_
    intro p9 e9 s9 m9 args9 below9 meth9 c9 C hr hex hz hsz
    refine V_aload_n (i := 0) C dX4_load_0 rfl rfl ?_
    refine V_iload_n (i := 1) C dX4_load_1 rfl rfl ?_
    refine V_xcallVg (n := 1) C (c_needCrew0 hlt r hc) dX4_load_2 gX4_load_X4_needCrew rfl (by first | assumption | exact hset_s _ _ _) rfl (by decide +kernel) rfl rfl (by exact Nat.le_of_ble_eq_true rfl) ⟨Nat.le_of_ble_eq_true rfl, Nat.le_of_ble_eq_true rfl⟩ ⟨Nat.le_of_ble_eq_true rfl, Nat.le_of_ble_eq_true rfl⟩ (by exact Nat.le_of_ble_eq_true rfl) (by exact Nat.le_of_ble_eq_true rfl) hex hz SZr.moves hsz Psx_of (fun v9 h9 hr9 => ?_)
    exact hr9.elim
end PUB3
