/-! the calls: design, share, send, crew, tray, load, pass, and those that only tell -/
section PUB3
variable {l : Launch} {D : va_G} {cA : Nat → ClassId} {bs : Nat} {Z : Nat → Nat → Nat} {X : XS} {ta : Nat → Nat → Option Nat} {h : hE}
theorem tyv_set (t : tyv Z X ta) {c : Nat} (hc : c < 3) {d : Rw} (hd : rtr d = rtr (xcr X c)) : tyv Z (setR X c d) ta := fun c2 hc2 => by
  show (rtr (fset (xcr X) c d c2)).length ≤ 4 ∧ (∀ b, b ∈ rtr (fset (xcr X) c d c2) → b < xnl X) ∧ ∀ i b, (rtr (fset (xcr X) c d c2))[i]? = some b → ta c2 i = some (Z 1 b)
  by_cases hcc : c2 = c
  · subst hcc
    rw [fset_s, hd]
    exact t c2 hc2
  · rw [fset_n hcc]
    exact t c2 hc2
theorem tyv_nil (t : tyv Z X ta) {c : Nat} (hc : c < 3) {d : Rw} (hd : rtr d = []) : tyv Z (setR X c d) ta := fun c2 hc2 => by
  show (rtr (fset (xcr X) c d c2)).length ≤ 4 ∧ (∀ b, b ∈ rtr (fset (xcr X) c d c2) → b < xnl X) ∧ ∀ i b, (rtr (fset (xcr X) c d c2))[i]? = some b → ta c2 i = some (Z 1 b)
  by_cases hcc : c2 = c
  · subst hcc
    rw [fset_s, hd]
    exact ⟨Nat.zero_le _, fun b hb => absurd hb List.not_mem_nil, fun i b hb => by simp at hb⟩
  · rw [fset_n hcc]
    exact t c2 hc2
set_option maxHeartbeats 4000000 in
set_option maxRecDepth 100000 in
theorem m_design (hlt : l.stackTraces = false) (r : XR cA Z X ta h) (t : tyv Z X ta) (hI : LI X) {x : Int32} : Mx l D cA bs SZr yX4_design wsX4_design (rmk 9 4 30) [.ref (Z 0 0), .int x] h (Pst cA Z X h (sp_design X x)) (Psx h (sp_design X x)) := by
  have hrow := r.row
  by_cases hx : picN X x
  · obtain ⟨k, hk, rfl, ek⟩ := picN_of hI.1 hx
    have hpic := r.pic hk
    have hsp : sp_design X (nI k) = (none, nI (cntN (dsX X k).2 1 (xN X k)), xpl X k (dsX X k).1 (dsX X k).2) := by unfold sp_design; rw [if_pos hx, ek]
    rw [hsp]
    refine Mx_of (cc := cX4_design) (maxL := 3) (ret := (some .int)) (own := RX4) [some (.ref (Z 0 0)), some (.int (nI k)), none] rfl (by decide +kernel) rfl rfl (by exact Nat.le_of_ble_eq_true rfl) rfl ?_
    intro p9 e9 s9 m9 args9 below9 meth9 c9 C hr hex hz hsz
    refine V_aload_n (i := 0) C dX4_design_0 rfl rfl ?_
    refine V_iload_n (i := 1) C dX4_design_1 rfl rfl ?_
    refine V_callV (n := 1) C (c_needPic1 r hI.1 hk) dX4_design_2 gX4_design_X4_needPicture rfl (by first | assumption | exact hset_s _ _ _) rfl (by decide +kernel) rfl rfl (by exact Nat.le_of_ble_eq_true rfl) ⟨Nat.le_of_ble_eq_true rfl, Nat.le_of_ble_eq_true rfl⟩ ⟨Nat.le_of_ble_eq_true rfl, Nat.le_of_ble_eq_true rfl⟩ (fun v9 h9 hr9 => ?_)
    obtain ⟨rfl, rfl⟩ := hr9
    refine V_astore2 C dX4_design_5 (by decide) ?_
    refine V_aload_n (i := 2) C dX4_design_6 rfl rfl ?_
    refine V_aload_n (i := 0) C dX4_design_7 rfl rfl ?_
    refine V_get (ci := 4) (CN := RX4) (T := TX4) (N := 6) C dX4_design_8 (by first | assumption | exact hset_s _ _ _) rfl 0 (by decide) flX4_design_11 wiX4_design_X4 (by rfl) ?_
    refine V_callV (n := 1) C (c_designFrom (r.to_pl k) hI.1 hk (hI.2.1 k hk) (ds_B hI hk)) dX4_design_11 gX4_design_X3_designFrom rfl (by first | assumption | exact hset_s _ _ _) rfl (by decide +kernel) rfl rfl (by exact Nat.le_of_ble_eq_true rfl) ⟨Nat.le_of_ble_eq_true rfl, Nat.le_of_ble_eq_true rfl⟩ ⟨Nat.le_of_ble_eq_true rfl, Nat.le_of_ble_eq_true rfl⟩ (fun v9 h9 hr9 => ?_)
    obtain ⟨rfl, r2, f2⟩ := hr9
    have hpic := r2.ppic hk
    refine V_aload_n (i := 2) C dX4_design_14 rfl rfl ?_
    refine V_iconst (v := 1) C dX4_design_15 (by decide) ?_
    refine V_callV (n := 1) C (c_count (kd := 1) r2 hI.1 hk) dX4_design_16 gX4_design_X3_count rfl (by first | assumption | exact hset_s _ _ _) rfl (by decide +kernel) rfl rfl (by exact Nat.le_of_ble_eq_true rfl) ⟨Nat.le_of_ble_eq_true rfl, Nat.le_of_ble_eq_true rfl⟩ ⟨Nat.le_of_ble_eq_true rfl, Nat.le_of_ble_eq_true rfl⟩ (fun v9 h9 hr9 => ?_)
    obtain ⟨rfl, z9⟩ := hr9
    have z9 := z9.symm
    subst z9
    exact V_x (V_iret C dX4_design_19 hr ⟨rfl, rfl, Z, ta, r2, t, rfl, r.ffr f2⟩ (by exact Nat.le_of_ble_eq_true rfl) (by exact Nat.le_of_ble_eq_true rfl))
  · have hsp : sp_design X x = (some kIO, 0, X) := by unfold sp_design; rw [if_neg hx]
    rw [hsp]
    refine Mx_of (cc := cX4_design) (maxL := 3) (ret := (some .int)) (own := RX4) [some (.ref (Z 0 0)), some (.int x), none] rfl (by decide +kernel) rfl rfl (by exact Nat.le_of_ble_eq_true rfl) rfl ?_
    intro p9 e9 s9 m9 args9 below9 meth9 c9 C hr hex hz hsz
    refine V_aload_n (i := 0) C dX4_design_0 rfl rfl ?_
    refine V_iload_n (i := 1) C dX4_design_1 rfl rfl ?_
    refine V_xcallVg (n := 1) C (c_needPic0 hlt r hI.1 hx) dX4_design_2 gX4_design_X4_needPicture rfl (by first | assumption | exact hset_s _ _ _) rfl (by decide +kernel) rfl rfl (by exact Nat.le_of_ble_eq_true rfl) ⟨Nat.le_of_ble_eq_true rfl, Nat.le_of_ble_eq_true rfl⟩ ⟨Nat.le_of_ble_eq_true rfl, Nat.le_of_ble_eq_true rfl⟩ (by exact Nat.le_of_ble_eq_true rfl) (by exact Nat.le_of_ble_eq_true rfl) hex hz SZr.moves hsz Psx_of (fun v9 h9 hr9 => ?_)
    exact hr9.elim
set_option maxHeartbeats 4000000 in
set_option maxRecDepth 100000 in
theorem m_share (hlt : l.stackTraces = false) (r : XR cA Z X ta h) (t : tyv Z X ta) (hI : LI X) {x a b : Int32} : Mx l D cA bs SZr yX4_share wsX4_share (rmk 9 4 30) [.ref (Z 0 0), .int x, .int a, .int b] h (Pst cA Z X h (sp_share X x a b)) (Psx h (sp_share X x a b)) := by
  have hrow := r.row
  by_cases hx : picN X x
  · obtain ⟨k, hk, rfl, ek⟩ := picN_of hI.1 hx
    have hpic := r.pic hk
    by_cases ha : lotN X a
    · obtain ⟨i, hi, rfl, ei⟩ := lotN_of hI.1 ha
      by_cases hb : lotN X b
      · obtain ⟨j, hj, rfl, ej⟩ := lotN_of hI.1 hb
        have hnl := hI.1.1
        have hij : nI i = nI j ↔ i = j := nI_eq (by omega) (by omega)
        have hsp : sp_share X (nI k) (nI i) (nI j) = if nI i = nI j then (some kIA, 0, X) else (none, nI (gvX X k i j).2, xpl X k (gvX X k i j).1.1 (gvX X k i j).1.2) := by unfold sp_share; rw [if_pos ⟨hx, ha, hb⟩, ek, ei, ej]
        rw [hsp]
        refine Mx_of (cc := cX4_share) (maxL := 7) (ret := (some .int)) (own := RX4) [some (.ref (Z 0 0)), some (.int (nI k)), some (.int (nI i)), some (.int (nI j)), none, none, none] rfl (by decide +kernel) rfl rfl (by exact Nat.le_of_ble_eq_true rfl) rfl ?_
        intro p9 e9 s9 m9 args9 below9 meth9 c9 C hr hex hz hsz
        refine V_aload_n (i := 0) C dX4_share_0 rfl rfl ?_
        refine V_iload_n (i := 1) C dX4_share_1 rfl rfl ?_
        refine V_callV (n := 1) C (c_needPic1 r hI.1 hk) dX4_share_2 gX4_share_X4_needPicture rfl (by first | assumption | exact hset_s _ _ _) rfl (by decide +kernel) rfl rfl (by exact Nat.le_of_ble_eq_true rfl) ⟨Nat.le_of_ble_eq_true rfl, Nat.le_of_ble_eq_true rfl⟩ ⟨Nat.le_of_ble_eq_true rfl, Nat.le_of_ble_eq_true rfl⟩ (fun v9 h9 hr9 => ?_)
        obtain ⟨rfl, rfl⟩ := hr9
        refine V_astore4 C dX4_share_5 (by decide) ?_
        refine V_aload_n (i := 0) C dX4_share_7 rfl rfl ?_
        refine V_iload_n (i := 2) C dX4_share_8 rfl rfl ?_
        refine V_callV (n := 1) C (c_needLot1 r hI.1 hi) dX4_share_9 gX4_share_X4_needLot rfl (by first | assumption | exact hset_s _ _ _) rfl (by decide +kernel) rfl rfl (by exact Nat.le_of_ble_eq_true rfl) ⟨Nat.le_of_ble_eq_true rfl, Nat.le_of_ble_eq_true rfl⟩ ⟨Nat.le_of_ble_eq_true rfl, Nat.le_of_ble_eq_true rfl⟩ (fun v9 h9 hr9 => ?_)
        obtain ⟨rfl, rfl⟩ := hr9
        refine V_astore5 C dX4_share_12 (by decide) ?_
        refine V_aload_n (i := 0) C dX4_share_14 rfl rfl ?_
        refine V_iload_n (i := 3) C dX4_share_15 rfl rfl ?_
        refine V_callV (n := 1) C (c_needLot1 r hI.1 hj) dX4_share_16 gX4_share_X4_needLot rfl (by first | assumption | exact hset_s _ _ _) rfl (by decide +kernel) rfl rfl (by exact Nat.le_of_ble_eq_true rfl) ⟨Nat.le_of_ble_eq_true rfl, Nat.le_of_ble_eq_true rfl⟩ ⟨Nat.le_of_ble_eq_true rfl, Nat.le_of_ble_eq_true rfl⟩ (fun v9 h9 hr9 => ?_)
        obtain ⟨rfl, rfl⟩ := hr9
        refine V_astore6 C dX4_share_19 (by decide) ?_
        refine V_iload_n (i := 2) C dX4_share_21 rfl rfl ?_
        refine V_iload_n (i := 3) C dX4_share_22 rfl rfl ?_
        refine V_icmp_ne (tgt := 36) C dX4_share_23 (by decide) (fun c23 => ?_) (fun c23 => ?_)
        · rw [if_neg c23]
          refine V_aload C dX4_share_36 rfl ?_
          refine V_aload C dX4_share_38 rfl ?_
          refine V_aload C dX4_share_40 rfl ?_
          refine V_callV (n := 2) C (c_giveOdd (r.to_pl k) hI.1 hk hi hj (fun z => c23 (hij.mpr z)) (hI.2.1 k hk)) dX4_share_42 gX4_share_X3_giveOddCells rfl (by first | assumption | exact hset_s _ _ _) rfl (by decide +kernel) rfl rfl (by exact Nat.le_of_ble_eq_true rfl) ⟨Nat.le_of_ble_eq_true rfl, Nat.le_of_ble_eq_true rfl⟩ ⟨Nat.le_of_ble_eq_true rfl, Nat.le_of_ble_eq_true rfl⟩ (fun v9 h9 hr9 => ?_)
          obtain ⟨rfl, r2, f2⟩ := hr9
          exact V_x (V_iret C dX4_share_45 hr ⟨rfl, rfl, Z, ta, r2, t, rfl, r.ffr f2⟩ (by exact Nat.le_of_ble_eq_true rfl) (by exact Nat.le_of_ble_eq_true rfl))
        · rw [if_pos c23]
          exact V_throw (Post := fun _ _ => True) (cls := "java/lang/IllegalArgumentException") (text := "both lots are the same") (names := ["java/lang/RuntimeException", "java/lang/Exception"]) (ik := 104) (is := 106) (ic := 108) C hlt (by decide +kernel) (by decide +kernel) (by decide +kernel) (by decide +kernel) (zz_hat (Cx_ts C) hsz (by decide +kernel) (by decide +kernel)) (by decide +kernel) hz (hsz.1 _ (List.mem_of_getElem? (i := 9) rfl)) hex dX4_share_26 dX4_share_29 dX4_share_30 dX4_share_32 dX4_share_35 (by exact Nat.le_of_ble_eq_true rfl) (by exact Nat.le_of_ble_eq_true rfl) (by exact Nat.le_of_ble_eq_true rfl) (by exact Nat.le_of_ble_eq_true rfl) ⟨rfl, rfl⟩ (by exact Nat.le_of_ble_eq_true rfl) (by exact Nat.le_of_ble_eq_true rfl)
      · have hsp : sp_share X (nI k) (nI i) b = (some kIO, 0, X) := by unfold sp_share; rw [if_neg (fun z => hb z.2.2)]
        rw [hsp]
        refine Mx_of (cc := cX4_share) (maxL := 7) (ret := (some .int)) (own := RX4) [some (.ref (Z 0 0)), some (.int (nI k)), some (.int (nI i)), some (.int b), none, none, none] rfl (by decide +kernel) rfl rfl (by exact Nat.le_of_ble_eq_true rfl) rfl ?_
        intro p9 e9 s9 m9 args9 below9 meth9 c9 C hr hex hz hsz
        refine V_aload_n (i := 0) C dX4_share_0 rfl rfl ?_
        refine V_iload_n (i := 1) C dX4_share_1 rfl rfl ?_
        refine V_callV (n := 1) C (c_needPic1 r hI.1 hk) dX4_share_2 gX4_share_X4_needPicture rfl (by first | assumption | exact hset_s _ _ _) rfl (by decide +kernel) rfl rfl (by exact Nat.le_of_ble_eq_true rfl) ⟨Nat.le_of_ble_eq_true rfl, Nat.le_of_ble_eq_true rfl⟩ ⟨Nat.le_of_ble_eq_true rfl, Nat.le_of_ble_eq_true rfl⟩ (fun v9 h9 hr9 => ?_)
        obtain ⟨rfl, rfl⟩ := hr9
        refine V_astore4 C dX4_share_5 (by decide) ?_
        refine V_aload_n (i := 0) C dX4_share_7 rfl rfl ?_
        refine V_iload_n (i := 2) C dX4_share_8 rfl rfl ?_
        refine V_callV (n := 1) C (c_needLot1 r hI.1 hi) dX4_share_9 gX4_share_X4_needLot rfl (by first | assumption | exact hset_s _ _ _) rfl (by decide +kernel) rfl rfl (by exact Nat.le_of_ble_eq_true rfl) ⟨Nat.le_of_ble_eq_true rfl, Nat.le_of_ble_eq_true rfl⟩ ⟨Nat.le_of_ble_eq_true rfl, Nat.le_of_ble_eq_true rfl⟩ (fun v9 h9 hr9 => ?_)
        obtain ⟨rfl, rfl⟩ := hr9
        refine V_astore5 C dX4_share_12 (by decide) ?_
        refine V_aload_n (i := 0) C dX4_share_14 rfl rfl ?_
        refine V_iload_n (i := 3) C dX4_share_15 rfl rfl ?_
        refine V_xcallVg (n := 1) C (c_needLot0 hlt r hI.1 hb) dX4_share_16 gX4_share_X4_needLot rfl (by first | assumption | exact hset_s _ _ _) rfl (by decide +kernel) rfl rfl (by exact Nat.le_of_ble_eq_true rfl) ⟨Nat.le_of_ble_eq_true rfl, Nat.le_of_ble_eq_true rfl⟩ ⟨Nat.le_of_ble_eq_true rfl, Nat.le_of_ble_eq_true rfl⟩ (by exact Nat.le_of_ble_eq_true rfl) (by exact Nat.le_of_ble_eq_true rfl) hex hz SZr.moves hsz Psx_of (fun v9 h9 hr9 => ?_)
        exact hr9.elim
    · have hsp : sp_share X (nI k) a b = (some kIO, 0, X) := by unfold sp_share; rw [if_neg (fun z => ha z.2.1)]
      rw [hsp]
      refine Mx_of (cc := cX4_share) (maxL := 7) (ret := (some .int)) (own := RX4) [some (.ref (Z 0 0)), some (.int (nI k)), some (.int a), some (.int b), none, none, none] rfl (by decide +kernel) rfl rfl (by exact Nat.le_of_ble_eq_true rfl) rfl ?_
      intro p9 e9 s9 m9 args9 below9 meth9 c9 C hr hex hz hsz
      refine V_aload_n (i := 0) C dX4_share_0 rfl rfl ?_
      refine V_iload_n (i := 1) C dX4_share_1 rfl rfl ?_
      refine V_callV (n := 1) C (c_needPic1 r hI.1 hk) dX4_share_2 gX4_share_X4_needPicture rfl (by first | assumption | exact hset_s _ _ _) rfl (by decide +kernel) rfl rfl (by exact Nat.le_of_ble_eq_true rfl) ⟨Nat.le_of_ble_eq_true rfl, Nat.le_of_ble_eq_true rfl⟩ ⟨Nat.le_of_ble_eq_true rfl, Nat.le_of_ble_eq_true rfl⟩ (fun v9 h9 hr9 => ?_)
      obtain ⟨rfl, rfl⟩ := hr9
      refine V_astore4 C dX4_share_5 (by decide) ?_
      refine V_aload_n (i := 0) C dX4_share_7 rfl rfl ?_
      refine V_iload_n (i := 2) C dX4_share_8 rfl rfl ?_
      refine V_xcallVg (n := 1) C (c_needLot0 hlt r hI.1 ha) dX4_share_9 gX4_share_X4_needLot rfl (by first | assumption | exact hset_s _ _ _) rfl (by decide +kernel) rfl rfl (by exact Nat.le_of_ble_eq_true rfl) ⟨Nat.le_of_ble_eq_true rfl, Nat.le_of_ble_eq_true rfl⟩ ⟨Nat.le_of_ble_eq_true rfl, Nat.le_of_ble_eq_true rfl⟩ (by exact Nat.le_of_ble_eq_true rfl) (by exact Nat.le_of_ble_eq_true rfl) hex hz SZr.moves hsz Psx_of (fun v9 h9 hr9 => ?_)
      exact hr9.elim
  · have hsp : sp_share X x a b = (some kIO, 0, X) := by unfold sp_share; rw [if_neg (fun z => hx z.1)]
    rw [hsp]
    refine Mx_of (cc := cX4_share) (maxL := 7) (ret := (some .int)) (own := RX4) [some (.ref (Z 0 0)), some (.int x), some (.int a), some (.int b), none, none, none] rfl (by decide +kernel) rfl rfl (by exact Nat.le_of_ble_eq_true rfl) rfl ?_
    intro p9 e9 s9 m9 args9 below9 meth9 c9 C hr hex hz hsz
    refine V_aload_n (i := 0) C dX4_share_0 rfl rfl ?_
    refine V_iload_n (i := 1) C dX4_share_1 rfl rfl ?_
    refine V_xcallVg (n := 1) C (c_needPic0 hlt r hI.1 hx) dX4_share_2 gX4_share_X4_needPicture rfl (by first | assumption | exact hset_s _ _ _) rfl (by decide +kernel) rfl rfl (by exact Nat.le_of_ble_eq_true rfl) ⟨Nat.le_of_ble_eq_true rfl, Nat.le_of_ble_eq_true rfl⟩ ⟨Nat.le_of_ble_eq_true rfl, Nat.le_of_ble_eq_true rfl⟩ (by exact Nat.le_of_ble_eq_true rfl) (by exact Nat.le_of_ble_eq_true rfl) hex hz SZr.moves hsz Psx_of (fun v9 h9 hr9 => ?_)
    exact hr9.elim
end PUB3
