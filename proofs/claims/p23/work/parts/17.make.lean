/-! what calls need; constructors -/
theorem Cx_ts {p : Program} {s : State} {m : MethodId} {meth : Method} {c : Code} {cc : ByteArray} {nL : Nat} {args : Array Value} {Ts : List Cond} {own : String} {D : va_G} {cA : Nat → ClassId} {bs : Nat} (C : Cx p s m meth c cc nL args Ts own D cA bs) : ∀ w ∈ Ts, w.before args s = true := by
  obtain ⟨⟨hx, hb, hml, hown, hts⟩, -⟩ := C
  exact hts
/-- n, a number below N -/
theorem nI_in2 {x : Int32} {N : Nat} (hN : N < 2 ^ 31) (h1 : 0 ≤ x) (h2 : x < nI N) : ∃ k, k < N ∧ x = nI k := by
  refine vp_in_of (vp_in_iff.mpr ⟨?_, ?_⟩) hN
  · have := Int32.le_iff_toInt_le.mp h1
    simpa using this
  · have := Int32.lt_iff_toInt_lt.mp h2
    rwa [nI_toInt hN] at this
def kIO : String := "java/lang/IndexOutOfBoundsException"
def kIA : String := "java/lang/IllegalArgumentException"
def kIS : String := "java/lang/IllegalStateException"
section NEED
variable {l : Launch} {D : va_G} {cA : Nat → ClassId} {bs : Nat} {Z : Nat → Nat → Nat} {X : XS} {ta : Nat → Nat → Option Nat} {h : hE} {x a b : Int32}
set_option maxHeartbeats 4000000 in
set_option maxRecDepth 100000 in
theorem c_range1 (h1 : a ≤ x) (h2 : x ≤ b) : Mt l D cA bs yX4_needRange wsX4_needRange (rmk 0 0 0) [.int x, .int a, .int b] h (fun v h2 => v = none ∧ h2 = h) := by
  refine Mt_of (cc := cX4_needRange) (maxL := 3) (ret := (none)) (own := RX4) [some (.int x), some (.int a), some (.int b)] rfl (by decide +kernel) rfl rfl (by exact Nat.le_of_ble_eq_true rfl) rfl ?_
  intro p9 e9 s9 m9 args9 below9 meth9 c9 C hr hnm
  refine V_iload_n (i := 0) C dX4_needRange_0 rfl rfl ?_
  refine V_iload_n (i := 1) C dX4_needRange_1 rfl rfl ?_
  refine V_icmp_lt (tgt := 10) C dX4_needRange_2 (by decide) (fun z9 => absurd z9 (Int32.not_lt.mpr h1)) (fun _ => ?_)
  refine V_iload_n (i := 0) C dX4_needRange_5 rfl rfl ?_
  refine V_iload_n (i := 2) C dX4_needRange_6 rfl rfl ?_
  refine V_icmp_le (tgt := 20) C dX4_needRange_7 (by decide) (fun _ => ?_) (fun z9 => absurd h2 z9)
  exact V_vret C dX4_needRange_20 hr ⟨rfl, rfl⟩ (by exact Nat.le_of_ble_eq_true rfl) (by exact Nat.le_of_ble_eq_true rfl)
set_option maxHeartbeats 4000000 in
set_option maxRecDepth 100000 in
theorem c_range0 (hlt : l.stackTraces = false) (h0 : ¬ (a ≤ x ∧ x ≤ b)) : Mx l D cA bs SZr yX4_needRange wsX4_needRange (rmk 7 1 6) [.int x, .int a, .int b] h (fun _ _ => False) (fun E h2 => E = kIA ∧ h2 = h) := by
  refine Mx_of (cc := cX4_needRange) (maxL := 3) (ret := (none)) (own := RX4) [some (.int x), some (.int a), some (.int b)] rfl (by decide +kernel) rfl rfl (by exact Nat.le_of_ble_eq_true rfl) rfl ?_
  intro p9 e9 s9 m9 args9 below9 meth9 c9 C hr hex hz hsz
  refine V_iload_n (i := 0) C dX4_needRange_0 rfl rfl ?_
  refine V_iload_n (i := 1) C dX4_needRange_1 rfl rfl ?_
  refine V_icmp_lt (tgt := 10) C dX4_needRange_2 (by decide) (fun c2 => ?_) (fun c2 => ?_)
  · exact V_throw (Post := fun _ _ => True) (cls := "java/lang/IllegalArgumentException") (text := "out of range") (names := ["java/lang/RuntimeException", "java/lang/Exception"]) (ik := 104) (is := 182) (ic := 108) C hlt (by decide +kernel) (by decide +kernel) (by decide +kernel) (by decide +kernel) (zz_hat (Cx_ts C) hsz (by decide +kernel) (by decide +kernel)) (by decide +kernel) hz (hsz.1 _ (List.mem_of_getElem? (i := 0) rfl)) hex dX4_needRange_10 dX4_needRange_13 dX4_needRange_14 dX4_needRange_16 dX4_needRange_19 (by exact Nat.le_of_ble_eq_true rfl) (by exact Nat.le_of_ble_eq_true rfl) (by exact Nat.le_of_ble_eq_true rfl) (by exact Nat.le_of_ble_eq_true rfl) ⟨rfl, rfl⟩ (by exact Nat.le_of_ble_eq_true rfl) (by exact Nat.le_of_ble_eq_true rfl)
  · refine V_iload_n (i := 0) C dX4_needRange_5 rfl rfl ?_
    refine V_iload_n (i := 2) C dX4_needRange_6 rfl rfl ?_
    refine V_icmp_le (tgt := 20) C dX4_needRange_7 (by decide) (fun c7 => ?_) (fun c7 => ?_)
    · exact absurd ⟨Int32.not_lt.mp c2, c7⟩ h0
    · exact V_throw (Post := fun _ _ => True) (cls := "java/lang/IllegalArgumentException") (text := "out of range") (names := ["java/lang/RuntimeException", "java/lang/Exception"]) (ik := 104) (is := 182) (ic := 108) C hlt (by decide +kernel) (by decide +kernel) (by decide +kernel) (by decide +kernel) (zz_hat (Cx_ts C) hsz (by decide +kernel) (by decide +kernel)) (by decide +kernel) hz (hsz.1 _ (List.mem_of_getElem? (i := 0) rfl)) hex dX4_needRange_10 dX4_needRange_13 dX4_needRange_14 dX4_needRange_16 dX4_needRange_19 (by exact Nat.le_of_ble_eq_true rfl) (by exact Nat.le_of_ble_eq_true rfl) (by exact Nat.le_of_ble_eq_true rfl) (by exact Nat.le_of_ble_eq_true rfl) ⟨rfl, rfl⟩ (by exact Nat.le_of_ble_eq_true rfl) (by exact Nat.le_of_ble_eq_true rfl)
set_option maxHeartbeats 4000000 in
set_option maxRecDepth 100000 in
theorem c_needLot1 {k : Nat} (r : XR cA Z X ta h) (hd : xdim X) (hk : k < xnl X) : Mt l D cA bs yX4_needLot wsX4_needLot (rmk 0 0 0) [.ref (Z 0 0), .int (nI k)] h (fun v h2 => v = some (.ref (Z 1 k)) ∧ h2 = h) := by
  have hrow := r.row
  have hls := r.lots
  have hnl := hd.1
  refine Mt_of (cc := cX4_needLot) (maxL := 3) (ret := (some (.object "TesseraeRow$Lot"))) (own := RX4) [some (.ref (Z 0 0)), some (.int (nI k)), none] rfl (by decide +kernel) rfl rfl (by exact Nat.le_of_ble_eq_true rfl) rfl ?_
  intro p9 e9 s9 m9 args9 below9 meth9 c9 C hr hnm
  refine V_iload_n (i := 1) C dX4_needLot_0 rfl rfl ?_
  refine V_if_lt (tgt := 22) C dX4_needLot_1 (by decide) (fun z9 => absurd z9 (nI_pos (by omega))) (fun _ => ?_)
  refine V_iload_n (i := 1) C dX4_needLot_4 rfl rfl ?_
  refine V_aload_n (i := 0) C dX4_needLot_5 rfl rfl ?_
  refine V_get (ci := 4) (CN := RX4) (T := TX4) (N := 6) C dX4_needLot_6 (by first | assumption | exact hset_s _ _ _) rfl 0 (by decide) flX4_needLot_11 wiX4_needLot_X4 (by rfl) ?_
  refine V_alen C dX4_needLot_9 (by first | assumption | exact hset_s _ _ _) (by rfl) (by rfl) ?_
  refine V_icmp_ge (tgt := 22) C dX4_needLot_10 (by decide) (fun z9 => absurd z9 (nI_ge (b := 12) (by omega) (by decide))) (fun _ => ?_)
  refine V_aload_n (i := 0) C dX4_needLot_13 rfl rfl ?_
  refine V_get (ci := 4) (CN := RX4) (T := TX4) (N := 6) C dX4_needLot_14 (by first | assumption | exact hset_s _ _ _) rfl 0 (by decide) flX4_needLot_11 wiX4_needLot_X4 (by rfl) ?_
  refine V_iload_n (i := 1) C dX4_needLot_17 rfl rfl ?_
  refine V_aaldS C dX4_needLot_18 (by first | assumption | exact hset_s _ _ _) (by rfl) rfl (by omega) (by decide) (if_pos hk) ?_
  refine V_goto (tgt := 23) C dX4_needLot_19 (by decide) ?_
  refine V_astore2 C dX4_needLot_23 (by decide) ?_
  refine V_aload_n (i := 2) C dX4_needLot_24 rfl rfl ?_
  refine V_ifnonnull (tgt := 38) C dX4_needLot_25 (by decide) ?_
  refine V_aload_n (i := 2) C dX4_needLot_38 rfl rfl ?_
  exact V_aret C dX4_needLot_39 hr (Or.inl ⟨_, rfl⟩) (by first | exact Or.inl rfl | exact Or.inr ⟨_, rfl⟩) ⟨rfl, rfl⟩ (by exact Nat.le_of_ble_eq_true rfl) (by exact Nat.le_of_ble_eq_true rfl)
set_option maxHeartbeats 4000000 in
set_option maxRecDepth 100000 in
theorem c_needLot0 (hlt : l.stackTraces = false) (r : XR cA Z X ta h) (hd : xdim X) (h0 : ¬ (0 ≤ x ∧ x < nI (xnl X))) : Mx l D cA bs SZr yX4_needLot wsX4_needLot (rmk 7 1 6) [.ref (Z 0 0), .int x] h (fun _ _ => False) (fun E h2 => E = kIO ∧ h2 = h) := by
  have hrow := r.row
  have hls := r.lots
  have hnl := hd.1
  refine Mx_of (cc := cX4_needLot) (maxL := 3) (ret := (some (.object "TesseraeRow$Lot"))) (own := RX4) [some (.ref (Z 0 0)), some (.int x), none] rfl (by decide +kernel) rfl rfl (by exact Nat.le_of_ble_eq_true rfl) rfl ?_
  intro p9 e9 s9 m9 args9 below9 meth9 c9 C hr hex hz hsz
  refine V_iload_n (i := 1) C dX4_needLot_0 rfl rfl ?_
  refine V_if_lt (tgt := 22) C dX4_needLot_1 (by decide) (fun c1 => ?_) (fun c1 => ?_)
  · refine V_null C dX4_needLot_22 ?_
    refine V_astoreN2 C dX4_needLot_23 (by decide) ?_
    refine V_aload_nN (i := 2) C dX4_needLot_24 rfl rfl ?_
    refine V_ifnonnullN C dX4_needLot_25 ?_
    exact V_throw (Post := fun _ _ => True) (cls := "java/lang/IndexOutOfBoundsException") (text := "no such lot") (names := ["java/lang/RuntimeException", "java/lang/Exception"]) (ik := 184) (is := 186) (ic := 188) C hlt (by decide +kernel) (by decide +kernel) (by decide +kernel) (by decide +kernel) (zz_hat (Cx_ts C) hsz (by decide +kernel) (by decide +kernel)) (by decide +kernel) hz (hsz.1 _ (List.mem_of_getElem? (i := 2) rfl)) hex dX4_needLot_28 dX4_needLot_31 dX4_needLot_32 dX4_needLot_34 dX4_needLot_37 (by exact Nat.le_of_ble_eq_true rfl) (by exact Nat.le_of_ble_eq_true rfl) (by exact Nat.le_of_ble_eq_true rfl) (by exact Nat.le_of_ble_eq_true rfl) ⟨rfl, rfl⟩ (by exact Nat.le_of_ble_eq_true rfl) (by exact Nat.le_of_ble_eq_true rfl)
  · refine V_iload_n (i := 1) C dX4_needLot_4 rfl rfl ?_
    refine V_aload_n (i := 0) C dX4_needLot_5 rfl rfl ?_
    refine V_get (ci := 4) (CN := RX4) (T := TX4) (N := 6) C dX4_needLot_6 (by first | assumption | exact hset_s _ _ _) rfl 0 (by decide) flX4_needLot_11 wiX4_needLot_X4 (by rfl) ?_
    refine V_alen C dX4_needLot_9 (by first | assumption | exact hset_s _ _ _) (by rfl) (by rfl) ?_
    refine V_icmp_ge (tgt := 22) C dX4_needLot_10 (by decide) (fun c10 => ?_) (fun c10 => ?_)
    · have c10 : nI 12 ≤ x := c10
      refine V_null C dX4_needLot_22 ?_
      refine V_astoreN2 C dX4_needLot_23 (by decide) ?_
      refine V_aload_nN (i := 2) C dX4_needLot_24 rfl rfl ?_
      refine V_ifnonnullN C dX4_needLot_25 ?_
      exact V_throw (Post := fun _ _ => True) (cls := "java/lang/IndexOutOfBoundsException") (text := "no such lot") (names := ["java/lang/RuntimeException", "java/lang/Exception"]) (ik := 184) (is := 186) (ic := 188) C hlt (by decide +kernel) (by decide +kernel) (by decide +kernel) (by decide +kernel) (zz_hat (Cx_ts C) hsz (by decide +kernel) (by decide +kernel)) (by decide +kernel) hz (hsz.1 _ (List.mem_of_getElem? (i := 2) rfl)) hex dX4_needLot_28 dX4_needLot_31 dX4_needLot_32 dX4_needLot_34 dX4_needLot_37 (by exact Nat.le_of_ble_eq_true rfl) (by exact Nat.le_of_ble_eq_true rfl) (by exact Nat.le_of_ble_eq_true rfl) (by exact Nat.le_of_ble_eq_true rfl) ⟨rfl, rfl⟩ (by exact Nat.le_of_ble_eq_true rfl) (by exact Nat.le_of_ble_eq_true rfl)
    · obtain ⟨k, hk, rfl⟩ := nI_in2 (N := 12) (by decide) (Int32.not_lt.mp c1) (Int32.not_le.mp c10)
      have hkn : ¬ k < xnl X := fun z => h0 ⟨nI_pos' (by omega), nI_lt z (by omega)⟩
      refine V_aload_n (i := 0) C dX4_needLot_13 rfl rfl ?_
      refine V_get (ci := 4) (CN := RX4) (T := TX4) (N := 6) C dX4_needLot_14 (by first | assumption | exact hset_s _ _ _) rfl 0 (by decide) flX4_needLot_11 wiX4_needLot_X4 (by rfl) ?_
      refine V_iload_n (i := 1) C dX4_needLot_17 rfl rfl ?_
      refine V_aaldN C dX4_needLot_18 (by first | assumption | exact hset_s _ _ _) (by rfl) rfl hk (by decide) (if_neg hkn) ?_
      refine V_goto (tgt := 23) C dX4_needLot_19 (by decide) ?_
      refine V_astoreN2 C dX4_needLot_23 (by decide) ?_
      refine V_aload_nN (i := 2) C dX4_needLot_24 rfl rfl ?_
      refine V_ifnonnullN C dX4_needLot_25 ?_
      exact V_throw (Post := fun _ _ => True) (cls := "java/lang/IndexOutOfBoundsException") (text := "no such lot") (names := ["java/lang/RuntimeException", "java/lang/Exception"]) (ik := 184) (is := 186) (ic := 188) C hlt (by decide +kernel) (by decide +kernel) (by decide +kernel) (by decide +kernel) (zz_hat (Cx_ts C) hsz (by decide +kernel) (by decide +kernel)) (by decide +kernel) hz (hsz.1 _ (List.mem_of_getElem? (i := 2) rfl)) hex dX4_needLot_28 dX4_needLot_31 dX4_needLot_32 dX4_needLot_34 dX4_needLot_37 (by exact Nat.le_of_ble_eq_true rfl) (by exact Nat.le_of_ble_eq_true rfl) (by exact Nat.le_of_ble_eq_true rfl) (by exact Nat.le_of_ble_eq_true rfl) ⟨rfl, rfl⟩ (by exact Nat.le_of_ble_eq_true rfl) (by exact Nat.le_of_ble_eq_true rfl)
set_option maxHeartbeats 4000000 in
set_option maxRecDepth 100000 in
theorem c_needPic1 {k : Nat} (r : XR cA Z X ta h) (hd : xdim X) (hk : k < xnp X) : Mt l D cA bs yX4_needPicture wsX4_needPicture (rmk 0 0 0) [.ref (Z 0 0), .int (nI k)] h (fun v h2 => v = some (.ref (Z 2 k)) ∧ h2 = h) := by
  have hrow := r.row
  have hls := r.pics
  have hnl := hd.2.1
  refine Mt_of (cc := cX4_needPicture) (maxL := 3) (ret := (some (.object "TesseraeRow$Picture"))) (own := RX4) [some (.ref (Z 0 0)), some (.int (nI k)), none] rfl (by decide +kernel) rfl rfl (by exact Nat.le_of_ble_eq_true rfl) rfl ?_
  intro p9 e9 s9 m9 args9 below9 meth9 c9 C hr hnm
  refine V_iload_n (i := 1) C dX4_needPicture_0 rfl rfl ?_
  refine V_if_lt (tgt := 22) C dX4_needPicture_1 (by decide) (fun z9 => absurd z9 (nI_pos (by omega))) (fun _ => ?_)
  refine V_iload_n (i := 1) C dX4_needPicture_4 rfl rfl ?_
  refine V_aload_n (i := 0) C dX4_needPicture_5 rfl rfl ?_
  refine V_get (ci := 4) (CN := RX4) (T := TX4) (N := 6) C dX4_needPicture_6 (by first | assumption | exact hset_s _ _ _) rfl 1 (by decide) flX4_needPicture_17 wiX4_needPicture_X4 (by rfl) ?_
  refine V_alen C dX4_needPicture_9 (by first | assumption | exact hset_s _ _ _) (by rfl) (by rfl) ?_
  refine V_icmp_ge (tgt := 22) C dX4_needPicture_10 (by decide) (fun z9 => absurd z9 (nI_ge (b := 5) (by omega) (by decide))) (fun _ => ?_)
  refine V_aload_n (i := 0) C dX4_needPicture_13 rfl rfl ?_
  refine V_get (ci := 4) (CN := RX4) (T := TX4) (N := 6) C dX4_needPicture_14 (by first | assumption | exact hset_s _ _ _) rfl 1 (by decide) flX4_needPicture_17 wiX4_needPicture_X4 (by rfl) ?_
  refine V_iload_n (i := 1) C dX4_needPicture_17 rfl rfl ?_
  refine V_aaldS C dX4_needPicture_18 (by first | assumption | exact hset_s _ _ _) (by rfl) rfl (by omega) (by decide) (if_pos hk) ?_
  refine V_goto (tgt := 23) C dX4_needPicture_19 (by decide) ?_
  refine V_astore2 C dX4_needPicture_23 (by decide) ?_
  refine V_aload_n (i := 2) C dX4_needPicture_24 rfl rfl ?_
  refine V_ifnonnull (tgt := 38) C dX4_needPicture_25 (by decide) ?_
  refine V_aload_n (i := 2) C dX4_needPicture_38 rfl rfl ?_
  exact V_aret C dX4_needPicture_39 hr (Or.inl ⟨_, rfl⟩) (by first | exact Or.inl rfl | exact Or.inr ⟨_, rfl⟩) ⟨rfl, rfl⟩ (by exact Nat.le_of_ble_eq_true rfl) (by exact Nat.le_of_ble_eq_true rfl)
set_option maxHeartbeats 4000000 in
set_option maxRecDepth 100000 in
theorem c_needPic0 (hlt : l.stackTraces = false) (r : XR cA Z X ta h) (hd : xdim X) (h0 : ¬ (0 ≤ x ∧ x < nI (xnp X))) : Mx l D cA bs SZr yX4_needPicture wsX4_needPicture (rmk 7 1 6) [.ref (Z 0 0), .int x] h (fun _ _ => False) (fun E h2 => E = kIO ∧ h2 = h) := by
  have hrow := r.row
  have hls := r.pics
  have hnl := hd.2.1
  refine Mx_of (cc := cX4_needPicture) (maxL := 3) (ret := (some (.object "TesseraeRow$Picture"))) (own := RX4) [some (.ref (Z 0 0)), some (.int x), none] rfl (by decide +kernel) rfl rfl (by exact Nat.le_of_ble_eq_true rfl) rfl ?_
  intro p9 e9 s9 m9 args9 below9 meth9 c9 C hr hex hz hsz
  refine V_iload_n (i := 1) C dX4_needPicture_0 rfl rfl ?_
  refine V_if_lt (tgt := 22) C dX4_needPicture_1 (by decide) (fun c1 => ?_) (fun c1 => ?_)
  · refine V_null C dX4_needPicture_22 ?_
    refine V_astoreN2 C dX4_needPicture_23 (by decide) ?_
    refine V_aload_nN (i := 2) C dX4_needPicture_24 rfl rfl ?_
    refine V_ifnonnullN C dX4_needPicture_25 ?_
    exact V_throw (Post := fun _ _ => True) (cls := "java/lang/IndexOutOfBoundsException") (text := "no such picture") (names := ["java/lang/RuntimeException", "java/lang/Exception"]) (ik := 184) (is := 189) (ic := 188) C hlt (by decide +kernel) (by decide +kernel) (by decide +kernel) (by decide +kernel) (zz_hat (Cx_ts C) hsz (by decide +kernel) (by decide +kernel)) (by decide +kernel) hz (hsz.1 _ (List.mem_of_getElem? (i := 5) rfl)) hex dX4_needPicture_28 dX4_needPicture_31 dX4_needPicture_32 dX4_needPicture_34 dX4_needPicture_37 (by exact Nat.le_of_ble_eq_true rfl) (by exact Nat.le_of_ble_eq_true rfl) (by exact Nat.le_of_ble_eq_true rfl) (by exact Nat.le_of_ble_eq_true rfl) ⟨rfl, rfl⟩ (by exact Nat.le_of_ble_eq_true rfl) (by exact Nat.le_of_ble_eq_true rfl)
  · refine V_iload_n (i := 1) C dX4_needPicture_4 rfl rfl ?_
    refine V_aload_n (i := 0) C dX4_needPicture_5 rfl rfl ?_
    refine V_get (ci := 4) (CN := RX4) (T := TX4) (N := 6) C dX4_needPicture_6 (by first | assumption | exact hset_s _ _ _) rfl 1 (by decide) flX4_needPicture_17 wiX4_needPicture_X4 (by rfl) ?_
    refine V_alen C dX4_needPicture_9 (by first | assumption | exact hset_s _ _ _) (by rfl) (by rfl) ?_
    refine V_icmp_ge (tgt := 22) C dX4_needPicture_10 (by decide) (fun c10 => ?_) (fun c10 => ?_)
    · have c10 : nI 5 ≤ x := c10
      refine V_null C dX4_needPicture_22 ?_
      refine V_astoreN2 C dX4_needPicture_23 (by decide) ?_
      refine V_aload_nN (i := 2) C dX4_needPicture_24 rfl rfl ?_
      refine V_ifnonnullN C dX4_needPicture_25 ?_
      exact V_throw (Post := fun _ _ => True) (cls := "java/lang/IndexOutOfBoundsException") (text := "no such picture") (names := ["java/lang/RuntimeException", "java/lang/Exception"]) (ik := 184) (is := 189) (ic := 188) C hlt (by decide +kernel) (by decide +kernel) (by decide +kernel) (by decide +kernel) (zz_hat (Cx_ts C) hsz (by decide +kernel) (by decide +kernel)) (by decide +kernel) hz (hsz.1 _ (List.mem_of_getElem? (i := 5) rfl)) hex dX4_needPicture_28 dX4_needPicture_31 dX4_needPicture_32 dX4_needPicture_34 dX4_needPicture_37 (by exact Nat.le_of_ble_eq_true rfl) (by exact Nat.le_of_ble_eq_true rfl) (by exact Nat.le_of_ble_eq_true rfl) (by exact Nat.le_of_ble_eq_true rfl) ⟨rfl, rfl⟩ (by exact Nat.le_of_ble_eq_true rfl) (by exact Nat.le_of_ble_eq_true rfl)
    · obtain ⟨k, hk, rfl⟩ := nI_in2 (N := 5) (by decide) (Int32.not_lt.mp c1) (Int32.not_le.mp c10)
      have hkn : ¬ k < xnp X := fun z => h0 ⟨nI_pos' (by omega), nI_lt z (by omega)⟩
      refine V_aload_n (i := 0) C dX4_needPicture_13 rfl rfl ?_
      refine V_get (ci := 4) (CN := RX4) (T := TX4) (N := 6) C dX4_needPicture_14 (by first | assumption | exact hset_s _ _ _) rfl 1 (by decide) flX4_needPicture_17 wiX4_needPicture_X4 (by rfl) ?_
      refine V_iload_n (i := 1) C dX4_needPicture_17 rfl rfl ?_
      refine V_aaldN C dX4_needPicture_18 (by first | assumption | exact hset_s _ _ _) (by rfl) rfl hk (by decide) (if_neg hkn) ?_
      refine V_goto (tgt := 23) C dX4_needPicture_19 (by decide) ?_
      refine V_astoreN2 C dX4_needPicture_23 (by decide) ?_
      refine V_aload_nN (i := 2) C dX4_needPicture_24 rfl rfl ?_
      refine V_ifnonnullN C dX4_needPicture_25 ?_
      exact V_throw (Post := fun _ _ => True) (cls := "java/lang/IndexOutOfBoundsException") (text := "no such picture") (names := ["java/lang/RuntimeException", "java/lang/Exception"]) (ik := 184) (is := 189) (ic := 188) C hlt (by decide +kernel) (by decide +kernel) (by decide +kernel) (by decide +kernel) (zz_hat (Cx_ts C) hsz (by decide +kernel) (by decide +kernel)) (by decide +kernel) hz (hsz.1 _ (List.mem_of_getElem? (i := 5) rfl)) hex dX4_needPicture_28 dX4_needPicture_31 dX4_needPicture_32 dX4_needPicture_34 dX4_needPicture_37 (by exact Nat.le_of_ble_eq_true rfl) (by exact Nat.le_of_ble_eq_true rfl) (by exact Nat.le_of_ble_eq_true rfl) (by exact Nat.le_of_ble_eq_true rfl) ⟨rfl, rfl⟩ (by exact Nat.le_of_ble_eq_true rfl) (by exact Nat.le_of_ble_eq_true rfl)
set_option maxHeartbeats 4000000 in
set_option maxRecDepth 100000 in
theorem c_needCrew1 {k : Nat} (r : XR cA Z X ta h) (hk : k < 3) : Mt l D cA bs yX4_needCrew wsX4_needCrew (rmk 0 0 0) [.ref (Z 0 0), .int (nI k)] h (fun v h2 => v = some (.ref (Z 4 k)) ∧ h2 = h) := by
  have hrow := r.row
  have hls := r.crews
  refine Mt_of (cc := cX4_needCrew) (maxL := 3) (ret := (some (.object "TesseraeRow$Crew"))) (own := RX4) [some (.ref (Z 0 0)), some (.int (nI k)), none] rfl (by decide +kernel) rfl rfl (by exact Nat.le_of_ble_eq_true rfl) rfl ?_
  intro p9 e9 s9 m9 args9 below9 meth9 c9 C hr hnm
  refine V_iload_n (i := 1) C dX4_needCrew_0 rfl rfl ?_
  refine V_if_lt (tgt := 22) C dX4_needCrew_1 (by decide) (fun z9 => absurd z9 (nI_pos (by omega))) (fun _ => ?_)
  refine V_iload_n (i := 1) C dX4_needCrew_4 rfl rfl ?_
  refine V_aload_n (i := 0) C dX4_needCrew_5 rfl rfl ?_
  refine V_get (ci := 4) (CN := RX4) (T := TX4) (N := 6) C dX4_needCrew_6 (by first | assumption | exact hset_s _ _ _) rfl 2 (by decide) flX4_needCrew_23 wiX4_needCrew_X4 (by rfl) ?_
  refine V_alen C dX4_needCrew_9 (by first | assumption | exact hset_s _ _ _) (by rfl) (by rfl) ?_
  refine V_icmp_ge (tgt := 22) C dX4_needCrew_10 (by decide) (fun z9 => absurd z9 (nI_ge (b := 3) (by omega) (by decide))) (fun _ => ?_)
  refine V_aload_n (i := 0) C dX4_needCrew_13 rfl rfl ?_
  refine V_get (ci := 4) (CN := RX4) (T := TX4) (N := 6) C dX4_needCrew_14 (by first | assumption | exact hset_s _ _ _) rfl 2 (by decide) flX4_needCrew_23 wiX4_needCrew_X4 (by rfl) ?_
  refine V_iload_n (i := 1) C dX4_needCrew_17 rfl rfl ?_
  refine V_aaldS C dX4_needCrew_18 (by first | assumption | exact hset_s _ _ _) (by rfl) rfl (by omega) (by decide) (if_pos hk) ?_
  refine V_goto (tgt := 23) C dX4_needCrew_19 (by decide) ?_
  refine V_astore2 C dX4_needCrew_23 (by decide) ?_
  refine V_aload_n (i := 2) C dX4_needCrew_24 rfl rfl ?_
  refine V_ifnonnull (tgt := 38) C dX4_needCrew_25 (by decide) ?_
  refine V_aload_n (i := 2) C dX4_needCrew_38 rfl rfl ?_
  exact V_aret C dX4_needCrew_39 hr (Or.inl ⟨_, rfl⟩) (by first | exact Or.inl rfl | exact Or.inr ⟨_, rfl⟩) ⟨rfl, rfl⟩ (by exact Nat.le_of_ble_eq_true rfl) (by exact Nat.le_of_ble_eq_true rfl)
set_option maxHeartbeats 4000000 in
set_option maxRecDepth 100000 in
theorem c_needCrew0 (hlt : l.stackTraces = false) (r : XR cA Z X ta h) (h0 : ¬ (0 ≤ x ∧ x < nI 3)) : Mx l D cA bs SZr yX4_needCrew wsX4_needCrew (rmk 7 1 6) [.ref (Z 0 0), .int x] h (fun _ _ => False) (fun E h2 => E = kIO ∧ h2 = h) := by
  have hrow := r.row
  have hls := r.crews
  refine Mx_of (cc := cX4_needCrew) (maxL := 3) (ret := (some (.object "TesseraeRow$Crew"))) (own := RX4) [some (.ref (Z 0 0)), some (.int x), none] rfl (by decide +kernel) rfl rfl (by exact Nat.le_of_ble_eq_true rfl) rfl ?_
  intro p9 e9 s9 m9 args9 below9 meth9 c9 C hr hex hz hsz
  refine V_iload_n (i := 1) C dX4_needCrew_0 rfl rfl ?_
  refine V_if_lt (tgt := 22) C dX4_needCrew_1 (by decide) (fun c1 => ?_) (fun c1 => ?_)
  · refine V_null C dX4_needCrew_22 ?_
    refine V_astoreN2 C dX4_needCrew_23 (by decide) ?_
    refine V_aload_nN (i := 2) C dX4_needCrew_24 rfl rfl ?_
    refine V_ifnonnullN C dX4_needCrew_25 ?_
    exact V_throw (Post := fun _ _ => True) (cls := "java/lang/IndexOutOfBoundsException") (text := "no such crew") (names := ["java/lang/RuntimeException", "java/lang/Exception"]) (ik := 184) (is := 197) (ic := 188) C hlt (by decide +kernel) (by decide +kernel) (by decide +kernel) (by decide +kernel) (zz_hat (Cx_ts C) hsz (by decide +kernel) (by decide +kernel)) (by decide +kernel) hz (hsz.1 _ (List.mem_of_getElem? (i := 10) rfl)) hex dX4_needCrew_28 dX4_needCrew_31 dX4_needCrew_32 dX4_needCrew_34 dX4_needCrew_37 (by exact Nat.le_of_ble_eq_true rfl) (by exact Nat.le_of_ble_eq_true rfl) (by exact Nat.le_of_ble_eq_true rfl) (by exact Nat.le_of_ble_eq_true rfl) ⟨rfl, rfl⟩ (by exact Nat.le_of_ble_eq_true rfl) (by exact Nat.le_of_ble_eq_true rfl)
  · refine V_iload_n (i := 1) C dX4_needCrew_4 rfl rfl ?_
    refine V_aload_n (i := 0) C dX4_needCrew_5 rfl rfl ?_
    refine V_get (ci := 4) (CN := RX4) (T := TX4) (N := 6) C dX4_needCrew_6 (by first | assumption | exact hset_s _ _ _) rfl 2 (by decide) flX4_needCrew_23 wiX4_needCrew_X4 (by rfl) ?_
    refine V_alen C dX4_needCrew_9 (by first | assumption | exact hset_s _ _ _) (by rfl) (by rfl) ?_
    refine V_icmp_ge (tgt := 22) C dX4_needCrew_10 (by decide) (fun c10 => ?_) (fun c10 => ?_)
    · have c10 : nI 3 ≤ x := c10
      refine V_null C dX4_needCrew_22 ?_
      refine V_astoreN2 C dX4_needCrew_23 (by decide) ?_
      refine V_aload_nN (i := 2) C dX4_needCrew_24 rfl rfl ?_
      refine V_ifnonnullN C dX4_needCrew_25 ?_
      exact V_throw (Post := fun _ _ => True) (cls := "java/lang/IndexOutOfBoundsException") (text := "no such crew") (names := ["java/lang/RuntimeException", "java/lang/Exception"]) (ik := 184) (is := 197) (ic := 188) C hlt (by decide +kernel) (by decide +kernel) (by decide +kernel) (by decide +kernel) (zz_hat (Cx_ts C) hsz (by decide +kernel) (by decide +kernel)) (by decide +kernel) hz (hsz.1 _ (List.mem_of_getElem? (i := 10) rfl)) hex dX4_needCrew_28 dX4_needCrew_31 dX4_needCrew_32 dX4_needCrew_34 dX4_needCrew_37 (by exact Nat.le_of_ble_eq_true rfl) (by exact Nat.le_of_ble_eq_true rfl) (by exact Nat.le_of_ble_eq_true rfl) (by exact Nat.le_of_ble_eq_true rfl) ⟨rfl, rfl⟩ (by exact Nat.le_of_ble_eq_true rfl) (by exact Nat.le_of_ble_eq_true rfl)
    · exact absurd ⟨Int32.not_lt.mp c1, Int32.not_le.mp c10⟩ h0
set_option maxHeartbeats 4000000 in
set_option maxRecDepth 100000 in
theorem c_needCell1 {k i j : Nat} (r : XR cA Z X ta h) (hd : xdim X) (hk : k < xnp X) (hi : i < xwd X k) (hj : j < xhg X k) : Mt l D cA bs yX4_needCell wsX4_needCell (rmk 1 0 0) [.ref (Z 0 0), .int (nI k), .int (nI i), .int (nI j)] h (fun v h2 => v = some (.ref (Z (k + 6) (j * xwd X k + i))) ∧ h2 = h) := by
  have hrow := r.row
  have hpic := r.pic hk
  refine Mt_of (cc := cX4_needCell) (maxL := 5) (ret := (some (.object "TesseraeRow$Cell"))) (own := RX4) [some (.ref (Z 0 0)), some (.int (nI k)), some (.int (nI i)), some (.int (nI j)), none] rfl (by decide +kernel) rfl rfl (by exact Nat.le_of_ble_eq_true rfl) rfl ?_
  intro p9 e9 s9 m9 args9 below9 meth9 c9 C hr hnm
  refine V_aload_n (i := 0) C dX4_needCell_0 rfl rfl ?_
  refine V_iload_n (i := 1) C dX4_needCell_1 rfl rfl ?_
  refine V_callV (n := 1) C (c_needPic1 r hd hk) dX4_needCell_2 gX4_needCell_X4_needPicture rfl (by first | assumption | exact hset_s _ _ _) rfl (by decide +kernel) rfl rfl (by exact Nat.le_of_ble_eq_true rfl) ⟨Nat.le_of_ble_eq_true rfl, Nat.le_of_ble_eq_true rfl⟩ ⟨Nat.le_of_ble_eq_true rfl, Nat.le_of_ble_eq_true rfl⟩ (fun v9 h9 hr9 => ?_)
  obtain ⟨rfl, rfl⟩ := hr9
  refine V_iload_n (i := 2) C dX4_needCell_5 rfl rfl ?_
  refine V_iload_n (i := 3) C dX4_needCell_6 rfl rfl ?_
  refine V_callV (n := 2) C (c_cellAt1 (r.to_pl k) hd hk hi hj) dX4_needCell_7 gX4_needCell_X3_cellAt rfl (by first | assumption | exact hset_s _ _ _) rfl (by decide +kernel) rfl rfl (by exact Nat.le_of_ble_eq_true rfl) ⟨Nat.le_of_ble_eq_true rfl, Nat.le_of_ble_eq_true rfl⟩ ⟨Nat.le_of_ble_eq_true rfl, Nat.le_of_ble_eq_true rfl⟩ (fun v9 h9 hr9 => ?_)
  obtain ⟨rfl, rfl⟩ := hr9
  refine V_astore4 C dX4_needCell_10 (by decide) ?_
  refine V_aload C dX4_needCell_12 rfl ?_
  refine V_ifnonnull (tgt := 27) C dX4_needCell_14 (by decide) ?_
  refine V_aload C dX4_needCell_27 rfl ?_
  exact V_aret C dX4_needCell_29 hr (Or.inl ⟨_, rfl⟩) (by first | exact Or.inl rfl | exact Or.inr ⟨_, rfl⟩) ⟨rfl, rfl⟩ (by exact Nat.le_of_ble_eq_true rfl) (by exact Nat.le_of_ble_eq_true rfl)
set_option maxHeartbeats 4000000 in
set_option maxRecDepth 100000 in
theorem c_needCell0 {y z : Int32} (hlt : l.stackTraces = false) (r : XR cA Z X ta h) (hd : xdim X) (h0 : ∀ k, k < xnp X → x = nI k → ¬ isAt (xwd X k) (xhg X k) y z) : Mx l D cA bs SZr yX4_needCell wsX4_needCell (rmk 8 1 6) [.ref (Z 0 0), .int x, .int y, .int z] h (fun _ _ => False) (fun E h2 => E = kIO ∧ h2 = h) := by
  have hrow := r.row
  by_cases hp : 0 ≤ x ∧ x < nI (xnp X)
  · obtain ⟨k, hk, rfl⟩ := nI_in2 (by have := hd.2.1; omega) hp.1 hp.2
    have hpic := r.pic hk
    refine Mx_of (cc := cX4_needCell) (maxL := 5) (ret := (some (.object "TesseraeRow$Cell"))) (own := RX4) [some (.ref (Z 0 0)), some (.int (nI k)), some (.int y), some (.int z), none] rfl (by decide +kernel) rfl rfl (by exact Nat.le_of_ble_eq_true rfl) rfl ?_
    intro p9 e9 s9 m9 args9 below9 meth9 c9 C hr hex hz hsz
    refine V_aload_n (i := 0) C dX4_needCell_0 rfl rfl ?_
    refine V_iload_n (i := 1) C dX4_needCell_1 rfl rfl ?_
    refine V_callV (n := 1) C (c_needPic1 r hd hk) dX4_needCell_2 gX4_needCell_X4_needPicture rfl (by first | assumption | exact hset_s _ _ _) rfl (by decide +kernel) rfl rfl (by exact Nat.le_of_ble_eq_true rfl) ⟨Nat.le_of_ble_eq_true rfl, Nat.le_of_ble_eq_true rfl⟩ ⟨Nat.le_of_ble_eq_true rfl, Nat.le_of_ble_eq_true rfl⟩ (fun v9 h9 hr9 => ?_)
    obtain ⟨rfl, rfl⟩ := hr9
    refine V_iload_n (i := 2) C dX4_needCell_5 rfl rfl ?_
    refine V_iload_n (i := 3) C dX4_needCell_6 rfl rfl ?_
    refine V_callV (n := 2) C (c_cellAt0 (r.to_pl k) hk (h0 k hk rfl)) dX4_needCell_7 gX4_needCell_X3_cellAt rfl (by first | assumption | exact hset_s _ _ _) rfl (by decide +kernel) rfl rfl (by exact Nat.le_of_ble_eq_true rfl) ⟨Nat.le_of_ble_eq_true rfl, Nat.le_of_ble_eq_true rfl⟩ ⟨Nat.le_of_ble_eq_true rfl, Nat.le_of_ble_eq_true rfl⟩ (fun v9 h9 hr9 => ?_)
    obtain ⟨rfl, rfl⟩ := hr9
    refine V_astoreN4 C dX4_needCell_10 (by decide) ?_
    refine V_aloadN C dX4_needCell_12 rfl ?_
    refine V_ifnonnullN C dX4_needCell_14 ?_
    exact V_throw (Post := fun _ _ => True) (cls := "java/lang/IndexOutOfBoundsException") (text := "no such cell") (names := ["java/lang/RuntimeException", "java/lang/Exception"]) (ik := 184) (is := 195) (ic := 188) C hlt (by decide +kernel) (by decide +kernel) (by decide +kernel) (by decide +kernel) (zz_hat (Cx_ts C) hsz (by decide +kernel) (by decide +kernel)) (by decide +kernel) hz (hsz.1 _ (List.mem_of_getElem? (i := 6) rfl)) hex dX4_needCell_17 dX4_needCell_20 dX4_needCell_21 dX4_needCell_23 dX4_needCell_26 (by exact Nat.le_of_ble_eq_true rfl) (by exact Nat.le_of_ble_eq_true rfl) (by exact Nat.le_of_ble_eq_true rfl) (by exact Nat.le_of_ble_eq_true rfl) ⟨rfl, rfl⟩ (by exact Nat.le_of_ble_eq_true rfl) (by exact Nat.le_of_ble_eq_true rfl)
  · refine Mx_of (cc := cX4_needCell) (maxL := 5) (ret := (some (.object "TesseraeRow$Cell"))) (own := RX4) [some (.ref (Z 0 0)), some (.int x), some (.int y), some (.int z), none] rfl (by decide +kernel) rfl rfl (by exact Nat.le_of_ble_eq_true rfl) rfl ?_
    intro p9 e9 s9 m9 args9 below9 meth9 c9 C hr hex hz hsz
    refine V_aload_n (i := 0) C dX4_needCell_0 rfl rfl ?_
    refine V_iload_n (i := 1) C dX4_needCell_1 rfl rfl ?_
    refine V_xcallVg (n := 1) C (c_needPic0 hlt r hd hp) dX4_needCell_2 gX4_needCell_X4_needPicture rfl (by first | assumption | exact hset_s _ _ _) rfl (by decide +kernel) rfl rfl (by exact Nat.le_of_ble_eq_true rfl) ⟨Nat.le_of_ble_eq_true rfl, Nat.le_of_ble_eq_true rfl⟩ ⟨Nat.le_of_ble_eq_true rfl, Nat.le_of_ble_eq_true rfl⟩ (by exact Nat.le_of_ble_eq_true rfl) (by exact Nat.le_of_ble_eq_true rfl) hex hz SZr.moves hsz (fun _ _ z => z) (fun v9 h9 hr9 => ?_)
    exact hr9.elim
end NEED
