/-! Crew: the tray, the next stone, laying -/
theorem Mt_post {l : Launch} {D : va_G} {cA : Nat → ClassId} {bs : Nat} {y : MethodName} {ws : List Cond} {rm : Room} {as : List Value} {h : hE} {P1 P2 : Option Value → hE → Prop} (h1 : Mt l D cA bs y ws rm as h P1) (hp : ∀ (v : Option Value) (h2 : hE), P1 v h2 → P2 v h2) : Mt l D cA bs y ws rm as h P2 := fun p e a b c s m args below hf ha hP hk => by
  obtain ⟨n, o, z1, z2, z3, ⟨⟨v, h2, e1, e2, e3, e4⟩, e5⟩, e6⟩ := h1 p e a b c s m args below hf ha hP hk
  exact ⟨n, o, z1, z2, z3, ⟨⟨v, h2, e1, hp v h2 e2, e3, e4⟩, e5⟩, e6⟩
abbrev rrt (d : Rw) : Int32 := d.1
abbrev rdy (d : Rw) : Int32 := d.2.1
abbrev rpc (d : Rw) : Option Nat := d.2.2.1
abbrev rmt (d : Rw) : Int32 := d.2.2.2.1
abbrev rtr (d : Rw) : List Nat := d.2.2.2.2.1
abbrev rld (d : Rw) : Int32 := d.2.2.2.2.2
/-- the trays' arrays hold the lots -/
def tyv (Z : Nat → Nat → Nat) (X : XS) (ta : Nat → Nat → Option Nat) : Prop := ∀ c, c < 3 → (rtr (xcr X c)).length ≤ 4 ∧ (∀ b, b ∈ rtr (xcr X c) → b < xnl X) ∧ ∀ i b, (rtr (xcr X c))[i]? = some b → ta c i = some (Z 1 b)
def olI (o : Option Nat) : Int32 := match o with
  | none => -1
  | some p => nI p
def fuN (G : Nat → Cd) : Nat → Option Nat
  | 0 => none
  | n + 1 => match fuN G n with
    | some k => some k
    | none => if dn (G n) then none else some n
theorem fuN_s {G : Nat → Cd} {n k : Nat} (hk : k < n) (hu : ¬ dn (G k)) (hd : ∀ j, j < k → dn (G j)) : fuN G n = some k := by
  have h0 : ∀ n, n ≤ k → fuN G n = none := by
    intro n
    induction n with
    | zero => intro _; rfl
    | succ n ih =>
      intro hn
      unfold fuN
      rw [ih (by omega)]
      exact if_pos (hd n (by omega))
  induction n with
  | zero => omega
  | succ n ih =>
    unfold fuN
    by_cases hkn : k < n
    · rw [ih hkn]
    · have : n = k := by omega
      subst this
      rw [h0 n (Nat.le_refl _)]
      exact if_neg hu
theorem fuN_n {G : Nat → Cd} {n : Nat} (hd : ∀ j, j < n → dn (G j)) : fuN G n = none := by
  induction n with
  | zero => rfl
  | succ n ih =>
    unfold fuN
    rw [ih (fun j hj => hd j (by omega))]
    exact if_pos (hd n (by omega))
def dryB (G : Nat → Cd) (o : Option Nat) (u : Int32) : Bool := match o with
  | none => true
  | some j => decide (cdr (G j) ≤ u)
theorem dryB_iff {G : Nat → Cd} {o : Option Nat} {u : Int32} : dryV G o u ↔ dryB G o u = true := by
  unfold dryV dryB
  cases o with
  | none => exact ⟨fun _ => rfl, fun _ j z => by cases z⟩
  | some j => exact ⟨fun z => decide_eq_true (z j rfl), fun z i e => by cases e; exact of_decide_eq_true z⟩
/-- the cell that the crew lays next, with its picture and its lot -/
def lyO (X : XS) (c : Nat) (u : Int32) : Option (Nat × Nat × Nat) := match rpc (xcr X c) with
  | none => none
  | some p => match fuN (xg X p) (xN X p) with
    | none => none
    | some k => if (xg X p k).1 = 1 then (match clt (xg X p k) with
      | none => none
      | some b => if b ∈ rtr (xcr X c) ∧ (k / xwd X p = 0 ∨ dryB (xg X p) (ltS (xg X p) (k / xwd X p - 1) (xwd X p) (xwd X p)) u = true) then some (p, k, b) else none) else none
def cdL (d : Cd) (u v : Int32) : Cd := (2, d.2.1, d.2.2.1, d.2.2.2.1, d.2.2.2.2.1, d.2.2.2.2.2.1, u, v)
def lql (d : Ld) (q m : Int32) : Ld := (d.1, d.2.1, d.2.2.1, d.2.2.2.1, q, m)
def lyX (X : XS) (p k b : Nat) (u v : Int32) : XS := xpl X p (fset (xlo X) b (lql (xlo X b) (lpm (xlo X b) - 1) (lld (xlo X b) + 1))) (fset (xg X p) k (cdL (xg X p k) u v))
def lfS (c : Nat) (u : Int32) : Nat → XS → Nat → XS × Nat
  | 0, X, d => (X, d)
  | f + 1, X, d => match lyO X c u with
    | none => (X, d)
    | some q => lfS c u f (lyX X q.1 q.2.1 q.2.2 u (u + rdy (xcr X c))) (d + 1)
/-- what laying needs of the world -/
def LI (X : XS) : Prop := xdim X ∧ (∀ p, p < xnp X → PI (xnl X) (xN X p) (xlo X) (xg X p)) ∧ ∀ c, c < 3 → ∀ p, rpc (xcr X c) = some p → p < xnp X
theorem lyO_in {X : XS} {c p k b : Nat} {u : Int32} (hI : LI X) (hc : c < 3) (h : lyO X c u = some (p, k, b)) : p < xnp X ∧ k < xN X p ∧ b < xnl X ∧ (xg X p k).1 = 1 ∧ clt (xg X p k) = some b ∧ rpc (xcr X c) = some p ∧ (∀ j, j < k → dn (xg X p j)) := by
  unfold lyO at h
  split at h
  · cases h
  · rename_i p2 hp2
    have hp := hI.2.2 c hc p2 hp2
    split at h
    · cases h
    · rename_i k2 hk2
      have hk : k2 < xN X p2 ∧ ∀ j, j < k2 → dn (xg X p2 j) := by
        have : ∀ n, fuN (xg X p2) n = some k2 → k2 < n ∧ ∀ j, j < k2 → dn (xg X p2 j) := by
          intro n
          have h0 : ∀ m, fuN (xg X p2) m = none → ∀ j, j < m → dn (xg X p2 j) := by
            intro m
            induction m with
            | zero => intro _ j hj; omega
            | succ m ih =>
              intro hm j hj
              unfold fuN at hm
              split at hm
              · cases hm
              · rename_i hm2
                split at hm
                · rename_i hd
                  by_cases hjm : j < m
                  · exact ih hm2 j hjm
                  · rw [show j = m by omega]
                    exact hd
                · cases hm
          induction n with
          | zero => intro z; cases z
          | succ n ih =>
            intro z
            unfold fuN at z
            split at z
            · rename_i k3 hk3
              cases z
              exact ⟨Nat.lt_succ_of_lt (ih hk3).1, (ih hk3).2⟩
            · rename_i hk3
              split at z
              · cases z
              · cases z
                exact ⟨Nat.lt_succ_self _, h0 _ hk3⟩
        exact this _ hk2
      split at h
      · rename_i h1
        split at h
        · cases h
        · rename_i b2 hb2
          split at h
          · cases h
            exact ⟨hp, hk.1, ((hI.2.1 p hp).1 k hk.1).1 b hb2, h1, hb2, hp2, hk.2⟩
          · cases h
      · cases h
theorem xN_pl (X : XS) (p q : Nat) (L : Nat → Ld) (G : Nat → Cd) : xN (xpl X p L G) q = xN X q := rfl
theorem PI.setL2 {n N : Nat} {L : Nat → Ld} {G : Nat → Cd} (h : PI n N L G) {b : Nat} {d : Ld} (hd : ltn d = ltn (L b)) : PI n N (fset L b d) G := h.setL hd
theorem LI.ly {X : XS} {p k b : Nat} {u v : Int32} (h : LI X) (hk : clt (xg X p k) = some b) : LI (lyX X p k b u v) := by
  refine ⟨h.1, fun q hq => ?_, h.2.2⟩
  have h1 := h.2.1 q hq
  show PI (xnl X) (xN X q) (fset (xlo X) b _) (fset (xg X) p (fset (xg X p) k (cdL (xg X p k) u v)) q)
  refine PI.setL (L := xlo X) (b := b) ?_ rfl
  by_cases hpq : q = p
  · subst hpq
    rw [fset_s]
    refine ⟨fun j hj => ?_, h1.2⟩
    unfold fset
    split
    · rename_i e
      subst e
      exact ⟨(h1.1 j hj).1, fun z => absurd (show (2 : Int32) = 1 from z) (by decide), (h1.1 j hj).2.2⟩
    · exact h1.1 j hj
  · rw [fset_n hpq]
    exact h1
theorem lfS_le {c : Nat} {u : Int32} (f : Nat) (X : XS) (d : Nat) : (lfS c u f X d).2 ≤ d + f := by
  induction f generalizing X d with
  | zero => exact Nat.le_refl _
  | succ f ih =>
    unfold lfS
    split
    · exact Nat.le_add_right _ _
    · refine Nat.le_trans (ih _ _) (by omega)
section CREW
variable {l : Launch} {D : va_G} {cA : Nat → ClassId} {bs : Nat} {Z : Nat → Nat → Nat} {X : XS} {ta : Nat → Nat → Option Nat} {h : hE}
theorem XR.crew0 (r : XR cA Z X ta h) {c : Nat} (hc : c < 3) : h (Z 4 c) = some (crewO (rrt (xcr X c)) (rdy (xcr X c)) ((rpc (xcr X c)).map (Z 2)) (rmt (xcr X c)) (Z 5 c) (nI (rtr (xcr X c)).length) (rld (xcr X c))) := r.crew hc
theorem XR.crewE (r : XR cA Z X ta h) {c : Nat} (hc : c < 3) {o : Option Nat} (ho : rpc (xcr X c) = o) : h (Z 4 c) = some (crewO (rrt (xcr X c)) (rdy (xcr X c)) (o.map (Z 2)) (rmt (xcr X c)) (Z 5 c) (nI (rtr (xcr X c)).length) (rld (xcr X c))) := ho ▸ r.crew0 hc
theorem XR.to_pl (r : XR cA Z X ta h) (p : Nat) : XR cA Z (xpl X p (xlo X) (xg X p)) ta h := by rw [xpl_id]; exact r
theorem XR.linj0 (r : XR cA Z X ta h) {i j : Nat} (hi : i < xnl X) (hj : j < xnl X) (hz : Z 1 i = Z 1 j) : i = j := (r.2 1 i 1 j hi hj hz).2
set_option maxHeartbeats 4000000 in
set_option maxRecDepth 100000 in
theorem c_pictureNumber {c : Nat} (r : XR cA Z X ta h) (hc : c < 3) (hp : ∀ p, rpc (xcr X c) = some p → p < xnp X) : Mt l D cA bs yX1_pictureNumber wsX1_pictureNumber (rmk 0 0 0) [.ref (Z 4 c)] h (fun v h2 => v = some (.int (olI (rpc (xcr X c)))) ∧ h2 = h) := by
  rcases ho : rpc (xcr X c) with _ | p
  · have hcr := r.crewE hc ho
    refine Mt_of (cc := cX1_pictureNumber) (maxL := 1) (ret := (some .int)) (own := RX1) [some (.ref (Z 4 c))] rfl (by decide +kernel) rfl rfl (by exact Nat.le_of_ble_eq_true rfl) rfl ?_
    intro p9 e9 s9 m9 args9 below9 meth9 c9 C hr hnm
    refine V_aload_n (i := 0) C dX1_pictureNumber_0 rfl rfl ?_
    refine V_get (ci := 1) (CN := RX1) (T := TX1) (N := 7) C dX1_pictureNumber_1 (by first | assumption | exact hset_s _ _ _) rfl 2 (by decide) flX1_pictureNumber_27 wiX1_pictureNumber_X1 (by rfl) ?_
    refine V_ifnonnullN C dX1_pictureNumber_4 ?_
    refine V_iconst (v := (-1)) C dX1_pictureNumber_7 (by decide) ?_
    refine V_goto (tgt := 18) C dX1_pictureNumber_8 (by decide) ?_
    exact V_iret C dX1_pictureNumber_18 hr ⟨rfl, rfl⟩ (by exact Nat.le_of_ble_eq_true rfl) (by exact Nat.le_of_ble_eq_true rfl)
  · have hcr := r.crewE hc ho
    have hpic := r.pic (hp p ho)
    refine Mt_of (cc := cX1_pictureNumber) (maxL := 1) (ret := (some .int)) (own := RX1) [some (.ref (Z 4 c))] rfl (by decide +kernel) rfl rfl (by exact Nat.le_of_ble_eq_true rfl) rfl ?_
    intro p9 e9 s9 m9 args9 below9 meth9 c9 C hr hnm
    refine V_aload_n (i := 0) C dX1_pictureNumber_0 rfl rfl ?_
    refine V_get (ci := 1) (CN := RX1) (T := TX1) (N := 7) C dX1_pictureNumber_1 (by first | assumption | exact hset_s _ _ _) rfl 2 (by decide) flX1_pictureNumber_27 wiX1_pictureNumber_X1 (by rfl) ?_
    refine V_ifnonnull (tgt := 11) C dX1_pictureNumber_4 (by decide) ?_
    refine V_aload_n (i := 0) C dX1_pictureNumber_11 rfl rfl ?_
    refine V_get (ci := 1) (CN := RX1) (T := TX1) (N := 7) C dX1_pictureNumber_12 (by first | assumption | exact hset_s _ _ _) rfl 2 (by decide) flX1_pictureNumber_27 wiX1_pictureNumber_X1 (by rfl) ?_
    refine V_get (ci := 3) (CN := RX3) (T := TX3) (N := 4) C dX1_pictureNumber_15 (by first | assumption | exact hset_s _ _ _) rfl 0 (by decide) flX1_pictureNumber_31 wiX1_pictureNumber_X3 (by rfl) ?_
    exact V_iret C dX1_pictureNumber_18 hr ⟨rfl, rfl⟩ (by exact Nat.le_of_ble_eq_true rfl) (by exact Nat.le_of_ble_eq_true rfl)
set_option maxHeartbeats 4000000 in
set_option maxRecDepth 100000 in
theorem c_hasOnTray {c b : Nat} (r : XR cA Z X ta h) (hc : c < 3) (hb : b < xnl X) (ht : tyv Z X ta) : Mt l D cA bs yX1_hasOnTray wsX1_hasOnTray (rmk 0 0 0) [.ref (Z 4 c), .ref (Z 1 b)] h (fun v h2 => v = some (.int (if b ∈ rtr (xcr X c) then 1 else 0)) ∧ h2 = h) := by
  have hcr := r.crew0 hc
  have htr := r.tray hc
  obtain ⟨t1, t2, t3⟩ := ht c hc
  refine Mt_of (cc := cX1_hasOnTray) (maxL := 3) (ret := (some .boolean)) (own := RX1) [some (.ref (Z 4 c)), some (.ref (Z 1 b)), none] rfl (by decide +kernel) rfl rfl (by exact Nat.le_of_ble_eq_true rfl) rfl ?_
  intro p9 e9 s9 m9 args9 below9 meth9 c9 C hr hnm
  refine V_iconst (v := 0) C dX1_hasOnTray_0 (by decide) ?_
  refine V_istore2 C dX1_hasOnTray_1 (by decide) ?_
  refine V_for (rtr (xcr X c)).length (fun i h2 ls2 => h2 = h ∧ (∀ j, j < i → (rtr (xcr X c))[j]? ≠ some b) ∧ ls2 = [some (.ref (Z 4 c)), some (.ref (Z 1 b)), some (.int (nI i))]) ?_ ?_ 0 (Nat.zero_le _) ⟨rfl, fun j hj => absurd hj (Nat.not_lt_zero j), rfl⟩
  · rintro i h2 ls2 hi ⟨z0, hn, rfl⟩ ih
    have z0 := z0.symm
    subst z0
    obtain ⟨b2, hb2⟩ : ∃ b2, (rtr (xcr X c))[i]? = some b2 := ⟨_, List.getElem?_eq_getElem hi⟩
    have hta := t3 i b2 hb2
    have hbl := t2 b2 (List.mem_of_getElem? hb2)
    refine V_iload_n (i := 2) C dX1_hasOnTray_2 rfl rfl ?_
    refine V_aload_n (i := 0) C dX1_hasOnTray_3 rfl rfl ?_
    refine V_get (ci := 1) (CN := RX1) (T := TX1) (N := 7) C dX1_hasOnTray_4 (by first | assumption | exact hset_s _ _ _) rfl 5 (by decide) flX1_hasOnTray_36 wiX1_hasOnTray_X1 (by rfl) ?_
    refine V_icmp_ge (tgt := 37) C dX1_hasOnTray_7 (by decide) (fun z9 => absurd z9 (nI_ge hi (by omega))) (fun _ => ?_)
    refine V_iload_n (i := 2) C dX1_hasOnTray_10 rfl rfl ?_
    refine V_aload_n (i := 0) C dX1_hasOnTray_11 rfl rfl ?_
    refine V_get (ci := 1) (CN := RX1) (T := TX1) (N := 7) C dX1_hasOnTray_12 (by first | assumption | exact hset_s _ _ _) rfl 4 (by decide) flX1_hasOnTray_23 wiX1_hasOnTray_X1 (by rfl) ?_
    refine V_alen C dX1_hasOnTray_15 (by first | assumption | exact hset_s _ _ _) (by rfl) (by rfl) ?_
    refine V_icmp_ge (tgt := 37) C dX1_hasOnTray_16 (by decide) (fun z9 => absurd z9 (nI_ge (b := 4) (by omega) (by decide))) (fun _ => ?_)
    refine V_aload_n (i := 0) C dX1_hasOnTray_19 rfl rfl ?_
    refine V_get (ci := 1) (CN := RX1) (T := TX1) (N := 7) C dX1_hasOnTray_20 (by first | assumption | exact hset_s _ _ _) rfl 4 (by decide) flX1_hasOnTray_23 wiX1_hasOnTray_X1 (by rfl) ?_
    refine V_iload_n (i := 2) C dX1_hasOnTray_23 rfl rfl ?_
    refine V_aaldS C dX1_hasOnTray_24 (by first | assumption | exact hset_s _ _ _) (by rfl) rfl (by omega) (by decide) hta ?_
    refine V_aload_n (i := 1) C dX1_hasOnTray_25 rfl rfl ?_
    refine V_acmp_ne (tgt := 31) C dX1_hasOnTray_26 (by decide) (fun c26 => ?_) (fun c26 => ?_)
    · have c26 : b2 ≠ b := fun z => c26 (by rw [z])
      refine V_iinc2 (v := nI (i + 1)) C dX1_hasOnTray_31 (nI_1 _) (by decide) ?_
      refine V_goto (tgt := 2) C dX1_hasOnTray_34 (by decide) ?_
      exact V_wk (by simp [lle]) (ih _ _ ⟨rfl, fun j hj => by rcases Nat.lt_succ_iff_lt_or_eq.mp hj with h2 | h2; exact hn j h2; rw [h2, hb2]; exact fun z => c26 (Option.some.inj z), rfl⟩)
    · have c26 : b2 = b := r.linj0 hbl hb c26
      refine V_iconst (v := 1) C dX1_hasOnTray_29 (by decide) ?_
      exact V_zret C dX1_hasOnTray_30 hr (by rfl) ⟨by rw [if_pos (by rw [← c26]; exact List.mem_of_getElem? hb2)], rfl⟩ (by exact Nat.le_of_ble_eq_true rfl) (by exact Nat.le_of_ble_eq_true rfl)
  · rintro h2 ls2 ⟨z0, hn, rfl⟩
    have z0 := z0.symm
    subst z0
    have hnm : ¬ b ∈ rtr (xcr X c) := fun z => by
      obtain ⟨j, hj⟩ := List.getElem?_of_mem z
      exact hn j (List.getElem?_eq_some_iff.mp hj).1 hj
    refine V_iload_n (i := 2) C dX1_hasOnTray_2 rfl rfl ?_
    refine V_aload_n (i := 0) C dX1_hasOnTray_3 rfl rfl ?_
    refine V_get (ci := 1) (CN := RX1) (T := TX1) (N := 7) C dX1_hasOnTray_4 (by first | assumption | exact hset_s _ _ _) rfl 5 (by decide) flX1_hasOnTray_36 wiX1_hasOnTray_X1 (by rfl) ?_
    refine V_icmp_ge (tgt := 37) C dX1_hasOnTray_7 (by decide) (fun _ => ?_) (fun z9 => absurd (nI_le (Nat.le_refl _) (by omega)) z9)
    refine V_iconst (v := 0) C dX1_hasOnTray_37 (by decide) ?_
    exact V_zret C dX1_hasOnTray_38 hr (by rfl) ⟨by rw [if_neg hnm], rfl⟩ (by exact Nat.le_of_ble_eq_true rfl) (by exact Nat.le_of_ble_eq_true rfl)
theorem c_dryBefore {p k : Nat} {u : Int32} {L : Nat → Ld} {G : Nat → Cd} (r : XR cA Z (xpl X p L G) ta h) (hd : xdim X) (hp : p < xnp X) (hk : k < xN X p) (hdn : ∀ j, j < k → dn (G j)) : Mt l D cA bs yX3_isDryRow wsX3_isDryRow (rmk 1 0 0) [.ref (Z 2 p), .int (nI (k / xwd X p) - 1), .int u] h (fun v h2 => (v = some (.int 1) ∧ (k / xwd X p = 0 ∨ dryB G (ltS G (k / xwd X p - 1) (xwd X p) (xwd X p)) u = true) ∨ v = some (.int 0) ∧ ¬ (k / xwd X p = 0 ∨ dryB G (ltS G (k / xwd X p - 1) (xwd X p) (xwd X p)) u = true)) ∧ h2 = h) := by
  obtain ⟨⟨w1, w2⟩, g1, g2⟩ := hd.2.2 p hp
  rcases hy : k / xwd X p with _ | y
  · have h1 := c_isDry0 (l := l) (D := D) (bs := bs) (u := u) r hd hp
    refine Mt_post h1 (fun v h2 hv => ⟨Or.inl ⟨hv.1, Or.inl rfl⟩, hv.2⟩)
  · have hyg : y + 1 < xhg X p := by rw [← hy]; exact k_div hk
    have hdx : ∀ x, x < xwd X p → dn (G (y * xwd X p + x)) := by
      intro x hx
      refine hdn _ ?_
      have h2 : (y + 1) * xwd X p ≤ k := by rw [← hy]; exact Nat.div_mul_le_self _ _
      rw [Nat.add_mul, Nat.one_mul] at h2
      omega
    have h1 := c_isDry1 (l := l) (D := D) (bs := bs) (u := u) r hd hp (show y < xhg X p by omega) hdx
    rw [nI_pred]
    refine Mt_post h1 (fun v h2 hv => ⟨?_, hv.2⟩)
    rcases hv.1 with ⟨a, b⟩ | ⟨a, b⟩
    · exact Or.inl ⟨a, Or.inr (dryB_iff.mp b)⟩
    · exact Or.inr ⟨a, fun z => by rcases z with z | z; cases z; exact b (dryB_iff.mpr z)⟩
/-- a lot is put on the tray -/
def ldX (X : XS) (c b : Nat) : XS := wcr X (fset (xcr X) c (rrt (xcr X c), rdy (xcr X c), rpc (xcr X c), rmt (xcr X c), rtr (xcr X c) ++ [b], rld (xcr X c)))
theorem ld_ok (r : XR cA Z X ta h) {c b : Nat} (hc : c < 3) : XR cA Z (ldX X c b) (fset ta c (fset (ta c) (rtr (xcr X c)).length (some (Z 1 b)))) (hset (hset h (Z 5 c) (qarr (cA 4) 4 (fset (ta c) (rtr (xcr X c)).length (some (Z 1 b))))) (Z 4 c) (crewO (rrt (xcr X c)) (rdy (xcr X c)) ((rpc (xcr X c)).map (Z 2)) (rmt (xcr X c)) (Z 5 c) (nI ((rtr (xcr X c)).length + 1)) (rld (xcr X c)))) := by
  have h1 := (r.setTray hc (fset (ta c) (rtr (xcr X c)).length (some (Z 1 b)))).setCrew hc (rrt (xcr X c), rdy (xcr X c), rpc (xcr X c), rmt (xcr X c), rtr (xcr X c) ++ [b], rld (xcr X c))
  have h2 : crewC Z c (rrt (xcr X c), rdy (xcr X c), rpc (xcr X c), rmt (xcr X c), rtr (xcr X c) ++ [b], rld (xcr X c)) = crewO (rrt (xcr X c)) (rdy (xcr X c)) ((rpc (xcr X c)).map (Z 2)) (rmt (xcr X c)) (Z 5 c) (nI ((rtr (xcr X c)).length + 1)) (rld (xcr X c)) := by
    show crewO _ _ _ _ _ (nI (rtr (xcr X c) ++ [b]).length) _ = _
    rw [List.length_append]
    rfl
  rw [h2] at h1
  exact h1
theorem ld_ty {c b : Nat} (hc : c < 3) (hb : b < xnl X) (ht : tyv Z X ta) (hl : (rtr (xcr X c)).length < 4) : tyv Z (ldX X c b) (fset ta c (fset (ta c) (rtr (xcr X c)).length (some (Z 1 b)))) := by
  intro c2 hc2
  obtain ⟨t1, t2, t3⟩ := ht c2 hc2
  show (rtr (fset (xcr X) c _ c2)).length ≤ 4 ∧ (∀ b2, b2 ∈ rtr (fset (xcr X) c _ c2) → b2 < xnl X) ∧ ∀ i b2, (rtr (fset (xcr X) c _ c2))[i]? = some b2 → fset ta c _ c2 i = some (Z 1 b2)
  by_cases hcc : c2 = c
  · subst hcc
    rw [fset_s, fset_s]
    refine ⟨?_, ?_, ?_⟩
    · show (rtr (xcr X c2) ++ [b]).length ≤ 4
      rw [List.length_append]
      exact hl
    · intro b2 hb2
      rcases List.mem_append.mp hb2 with h1 | h1
      · exact t2 b2 h1
      · rw [List.mem_singleton.mp h1]
        exact hb
    · intro i b2 hi
      have hi : (rtr (xcr X c2) ++ [b])[i]? = some b2 := hi
      by_cases hil : i < (rtr (xcr X c2)).length
      · rw [List.getElem?_append_left hil] at hi
        rw [fset_n (by omega)]
        exact t3 i b2 hi
      · rw [List.getElem?_append_right (by omega)] at hi
        have h0 : i - (rtr (xcr X c2)).length = 0 := by
          rcases Nat.eq_zero_or_pos (i - (rtr (xcr X c2)).length) with z | z
          · exact z
          · rw [List.getElem?_eq_none (show [b].length ≤ _ from z)] at hi
            cases hi
        rw [h0] at hi
        cases hi
        rw [show i = (rtr (xcr X c2)).length by omega, fset_s]
  · rw [fset_n hcc, fset_n hcc]
    exact ⟨t1, t2, t3⟩
set_option maxHeartbeats 4000000 in
set_option maxRecDepth 100000 in
theorem c_layNext {c : Nat} {u : Int32} (r : XR cA Z X ta h) (hI : LI X) (hc : c < 3) (ht : tyv Z X ta) : Mt l D cA bs yX1_layNext wsX1_layNext (rmk 2 0 0) [.ref (Z 4 c), .int u] h (fun v h2 => (lyO X c u = none ∧ v = some (.int 0) ∧ h2 = h) ∨ ∃ q, lyO X c u = some q ∧ v = some (.int 1) ∧ XR cA Z (lyX X q.1 q.2.1 q.2.2 u (u + rdy (xcr X c))) ta h2 ∧ hfr Z X h h2) := by
  rcases ho : rpc (xcr X c) with _ | p
  · have hcr := r.crewE hc ho
    have hz : lyO X c u = none := by unfold lyO; rw [ho]
    refine Mt_of (cc := cX1_layNext) (maxL := 3) (ret := (some .boolean)) (own := RX1) [some (.ref (Z 4 c)), some (.int u), none] rfl (by decide +kernel) rfl rfl (by exact Nat.le_of_ble_eq_true rfl) rfl ?_
    intro p9 e9 s9 m9 args9 below9 meth9 c9 C hr hnm
    refine V_aload_n (i := 0) C dX1_layNext_0 rfl rfl ?_
    refine V_get (ci := 1) (CN := RX1) (T := TX1) (N := 7) C dX1_layNext_1 (by first | assumption | exact hset_s _ _ _) rfl 2 (by decide) flX1_layNext_27 wiX1_layNext_X1 (by rfl) ?_
    refine V_ifnonnullN C dX1_layNext_4 ?_
    refine V_iconst (v := 0) C dX1_layNext_7 (by decide) ?_
    exact V_zret C dX1_layNext_8 hr (by rfl) (Or.inl ⟨hz, rfl, rfl⟩) (by exact Nat.le_of_ble_eq_true rfl) (by exact Nat.le_of_ble_eq_true rfl)
  · have hcr := r.crewE hc ho
    have hp := hI.2.2 c hc p ho
    have hd := hI.1
    obtain ⟨⟨w1, w2⟩, g1, g2⟩ := hd.2.2 p hp
    have hN := (hd.N hp).2
    have hPI := hI.2.1 p hp
    have r0 := r.to_pl p
    have hpic := r.pic hp
    have hly : ∀ o, fuN (xg X p) (xN X p) = o → lyO X c u = match o with
      | none => none
      | some k => if (xg X p k).1 = 1 then (match clt (xg X p k) with
        | none => none
        | some b => if b ∈ rtr (xcr X c) ∧ (k / xwd X p = 0 ∨ dryB (xg X p) (ltS (xg X p) (k / xwd X p - 1) (xwd X p) (xwd X p)) u = true) then some (p, k, b) else none) else none := by
      intro o ho2
      unfold lyO
      rw [ho]
      dsimp only
      rw [ho2]
    refine Mt_of (cc := cX1_layNext) (maxL := 3) (ret := (some .boolean)) (own := RX1) [some (.ref (Z 4 c)), some (.int u), none] rfl (by decide +kernel) rfl rfl (by exact Nat.le_of_ble_eq_true rfl) rfl ?_
    intro p9 e9 s9 m9 args9 below9 meth9 c9 C hr hnm
    refine V_aload_n (i := 0) C dX1_layNext_0 rfl rfl ?_
    refine V_get (ci := 1) (CN := RX1) (T := TX1) (N := 7) C dX1_layNext_1 (by first | assumption | exact hset_s _ _ _) rfl 2 (by decide) flX1_layNext_27 wiX1_layNext_X1 (by rfl) ?_
    refine V_ifnonnull (tgt := 9) C dX1_layNext_4 (by decide) ?_
    refine V_aload_n (i := 0) C dX1_layNext_9 rfl rfl ?_
    refine V_get (ci := 1) (CN := RX1) (T := TX1) (N := 7) C dX1_layNext_10 (by first | assumption | exact hset_s _ _ _) rfl 2 (by decide) flX1_layNext_27 wiX1_layNext_X1 (by rfl) ?_
    refine V_callV (n := 0) C (c_firstUndone r0 hd hp) dX1_layNext_13 gX1_layNext_X3_firstUndone rfl (by first | assumption | exact hset_s _ _ _) rfl (by decide +kernel) rfl rfl (by exact Nat.le_of_ble_eq_true rfl) ⟨Nat.le_of_ble_eq_true rfl, Nat.le_of_ble_eq_true rfl⟩ ⟨Nat.le_of_ble_eq_true rfl, Nat.le_of_ble_eq_true rfl⟩ (fun v9 h9 hr9 => ?_)
    obtain ⟨hr9, z9⟩ := hr9
    have z9 := z9.symm
    subst z9
    rcases hr9 with ⟨k, hk, hnd, hdn, rfl⟩ | ⟨hdn, rfl⟩
    · have hf := hly _ (fuN_s hk hnd hdn)
      have hce := r0.pcell hp hk
      refine V_astore2 C dX1_layNext_16 (by decide) ?_
      refine V_aload_n (i := 2) C dX1_layNext_17 rfl rfl ?_
      refine V_ifnull C dX1_layNext_18 ?_
      refine V_aload_n (i := 2) C dX1_layNext_21 rfl rfl ?_
      refine V_get (ci := 0) (CN := RX0) (T := TX0) (N := 10) C dX1_layNext_22 (by first | assumption | exact hset_s _ _ _) rfl 2 (by decide) flX1_layNext_55 wiX1_layNext_X0 (by rfl) ?_
      refine V_iconst (v := 1) C dX1_layNext_25 (by decide) ?_
      refine V_icmp_ne (tgt := 57) C dX1_layNext_26 (by decide) (fun c26 => ?_) (fun c26 => ?_)
      · have c26 : ¬ (xg X p k).1 = 1 := c26
        have hf := hf.trans (if_neg c26)
        refine V_iconst (v := 0) C dX1_layNext_57 (by decide) ?_
        exact V_zret C dX1_layNext_58 hr (by rfl) (Or.inl ⟨hf, rfl, rfl⟩) (by exact Nat.le_of_ble_eq_true rfl) (by exact Nat.le_of_ble_eq_true rfl)
      · have c26 : (xg X p k).1 = 1 := c26
        have hf := hf.trans (if_pos c26)
        obtain ⟨b, hb⟩ := (hPI.1 k hk).2.1 c26
        have hbl := (hPI.1 k hk).1 b hb
        have hlot := r.lot hbl
        rw [hb] at hf
        dsimp only at hf
        rw [cellC_e c26 hb] at hce
        refine V_aload_n (i := 0) C dX1_layNext_29 rfl rfl ?_
        refine V_aload_n (i := 2) C dX1_layNext_30 rfl rfl ?_
        refine V_get (ci := 0) (CN := RX0) (T := TX0) (N := 10) C dX1_layNext_31 (by first | assumption | exact hset_s _ _ _) rfl 3 (by decide) flX1_layNext_60 wiX1_layNext_X0 (by rfl) ?_
        refine V_callV (n := 1) C (c_hasOnTray r hc hbl ht) dX1_layNext_34 gX1_layNext_X1_hasOnTray rfl (by first | assumption | exact hset_s _ _ _) rfl (by decide +kernel) rfl rfl (by exact Nat.le_of_ble_eq_true rfl) ⟨Nat.le_of_ble_eq_true rfl, Nat.le_of_ble_eq_true rfl⟩ ⟨Nat.le_of_ble_eq_true rfl, Nat.le_of_ble_eq_true rfl⟩ (fun v9 h9 hr9 => ?_)
        obtain ⟨rfl, z9⟩ := hr9
        have z9 := z9.symm
        subst z9
        refine V_if_eq (tgt := 57) C dX1_layNext_37 (by decide) (fun c37 => ?_) (fun c37 => ?_)
        · have c37 := ite0.mp c37
          have hf := hf.trans (if_neg (fun z => c37 z.1))
          refine V_iconst (v := 0) C dX1_layNext_57 (by decide) ?_
          exact V_zret C dX1_layNext_58 hr (by rfl) (Or.inl ⟨hf, rfl, rfl⟩) (by exact Nat.le_of_ble_eq_true rfl) (by exact Nat.le_of_ble_eq_true rfl)
        · have c37 := Classical.not_not.mp (fun z => c37 (ite0.mpr z))
          refine V_aload_n (i := 0) C dX1_layNext_40 rfl rfl ?_
          refine V_get (ci := 1) (CN := RX1) (T := TX1) (N := 7) C dX1_layNext_41 (by first | assumption | exact hset_s _ _ _) rfl 2 (by decide) flX1_layNext_27 wiX1_layNext_X1 (by rfl) ?_
          refine V_aload_n (i := 2) C dX1_layNext_44 rfl rfl ?_
          refine V_get (ci := 0) (CN := RX0) (T := TX0) (N := 10) C dX1_layNext_45 (by first | assumption | exact hset_s _ _ _) rfl 1 (by decide) flX1_layNext_64 wiX1_layNext_X0 (by rfl) ?_
          refine V_iconst (v := 1) C dX1_layNext_48 (by decide) ?_
          refine V_isub C dX1_layNext_49 ?_
          refine V_iload_n (i := 1) C dX1_layNext_50 rfl rfl ?_
          refine V_callV (n := 2) C (c_dryBefore r0 hd hp hk hdn) dX1_layNext_51 gX1_layNext_X3_isDryRow rfl (by first | assumption | exact hset_s _ _ _) rfl (by decide +kernel) rfl rfl (by exact Nat.le_of_ble_eq_true rfl) ⟨Nat.le_of_ble_eq_true rfl, Nat.le_of_ble_eq_true rfl⟩ ⟨Nat.le_of_ble_eq_true rfl, Nat.le_of_ble_eq_true rfl⟩ (fun v9 h9 hr9 => ?_)
          obtain ⟨hr9, z9⟩ := hr9
          have z9 := z9.symm
          subst z9
          rcases hr9 with ⟨rfl, hdr⟩ | ⟨rfl, hdr⟩
          · have hf := hf.trans (if_pos ⟨c37, hdr⟩)
            refine V_if_ne (tgt := 59) C dX1_layNext_54 (by decide) (fun _ => ?_) (fun z9 => absurd z9 (by decide))
            refine V_aload_n (i := 2) C dX1_layNext_59 rfl rfl ?_
            refine V_iload_n (i := 1) C dX1_layNext_60 rfl rfl ?_
            refine V_aload_n (i := 0) C dX1_layNext_61 rfl rfl ?_
            refine V_get (ci := 1) (CN := RX1) (T := TX1) (N := 7) C dX1_layNext_62 (by first | assumption | exact hset_s _ _ _) rfl 1 (by decide) flX1_layNext_15 wiX1_layNext_X1 (by rfl) ?_
            refine V_callV (n := 2) C (c_lay hce hlot) dX1_layNext_65 gX1_layNext_X0_lay rfl (by first | assumption | exact hset_s _ _ _) rfl (by decide +kernel) rfl rfl (by exact Nat.le_of_ble_eq_true rfl) ⟨Nat.le_of_ble_eq_true rfl, Nat.le_of_ble_eq_true rfl⟩ ⟨Nat.le_of_ble_eq_true rfl, Nat.le_of_ble_eq_true rfl⟩ (fun v9 h9 hr9 => ?_)
            obtain ⟨rfl, rfl⟩ := hr9
            have r5 := (r0.psetL hbl (lql (xlo X b) (lpm (xlo X b) - 1) (lld (xlo X b) + 1))).psetG hp hk (cdL (xg X p k) u (u + rdy (xcr X c)))
            have e5 : cellC Z (xwd X p) k (cdL (xg X p k) u (u + rdy (xcr X c))) = cellO (nI (k % xwd X p)) (nI (k / xwd X p)) 2 (some (Z 1 b)) (cwn (xg X p k)) (cam (xg X p k)) (cbr (xg X p k)) (crd (xg X p k)) u (u + rdy (xcr X c)) := by show cellO _ _ _ ((clt (xg X p k)).map (Z 1)) _ _ _ _ _ _ = _; rw [hb]; rfl
            rw [e5] at r5
            refine V_iconst (v := 1) C dX1_layNext_68 (by decide) ?_
            exact V_zret C dX1_layNext_69 hr (by rfl) (Or.inr ⟨_, hf, rfl, r5, (hfr.lot hbl).tr (hfr.cell hp hk)⟩) (by exact Nat.le_of_ble_eq_true rfl) (by exact Nat.le_of_ble_eq_true rfl)
          · have hf := hf.trans (if_neg (fun z => hdr z.2))
            refine V_if_ne (tgt := 59) C dX1_layNext_54 (by decide) (fun z9 => absurd rfl z9) (fun _ => ?_)
            refine V_iconst (v := 0) C dX1_layNext_57 (by decide) ?_
            exact V_zret C dX1_layNext_58 hr (by rfl) (Or.inl ⟨hf, rfl, rfl⟩) (by exact Nat.le_of_ble_eq_true rfl) (by exact Nat.le_of_ble_eq_true rfl)
    · refine V_astoreN2 C dX1_layNext_16 (by decide) ?_
      refine V_aload_nN (i := 2) C dX1_layNext_17 rfl rfl ?_
      refine V_ifnullN (tgt := 57) C dX1_layNext_18 (by decide) ?_
      refine V_iconst (v := 0) C dX1_layNext_57 (by decide) ?_
      exact V_zret C dX1_layNext_58 hr (by rfl) (Or.inl ⟨hly _ (fuN_n hdn), rfl, rfl⟩) (by exact Nat.le_of_ble_eq_true rfl) (by exact Nat.le_of_ble_eq_true rfl)
set_option maxHeartbeats 4000000 in
set_option maxRecDepth 100000 in
theorem c_layFor {c f : Nat} {u : Int32} (r : XR cA Z X ta h) (hI : LI X) (hc : c < 3) (ht : tyv Z X ta) (hf : rrt (xcr X c) = nI f) (hf9 : f ≤ 9) : Mt l D cA bs yX1_layFor wsX1_layFor (rmk 3 0 0) [.ref (Z 4 c), .int u] h (fun v h2 => v = some (.int (nI (lfS c u f X 0).2)) ∧ XR cA Z (wcr (lfS c u f X 0).1 (fset (xcr X) c (rrt (xcr X c), rdy (xcr X c), rpc (xcr X c), rmt (xcr X c), rtr (xcr X c), rld (xcr X c) + nI (lfS c u f X 0).2))) ta h2 ∧ hfr Z X h h2) := by
  refine Mt_of (cc := cX1_layFor) (maxL := 3) (ret := (some .int)) (own := RX1) [some (.ref (Z 4 c)), some (.int u), none] rfl (by decide +kernel) rfl rfl (by exact Nat.le_of_ble_eq_true rfl) rfl ?_
  intro p9 e9 s9 m9 args9 below9 meth9 c9 C hr hnm
  refine V_iconst (v := 0) C dX1_layFor_0 (by decide) ?_
  refine V_istore2 C dX1_layFor_1 (by decide) ?_
  refine V_rec (fun n h2 ls2 => ∃ (Y : XS) (d : Nat), n + d = f ∧ lfS c u f X 0 = lfS c u n Y d ∧ LI Y ∧ tyv Z Y ta ∧ xcr Y = xcr X ∧ xvd Y = xvd X ∧ XR cA Z Y ta h2 ∧ hfr Z X h h2 ∧ ls2 = [some (.ref (Z 4 c)), some (.int u), some (.int (nI d))]) ?_ ?_ f ⟨X, 0, rfl, rfl, hI, ht, rfl, rfl, r, hfr.rf, rfl⟩
  · rintro n h2 ls2 ⟨Y, d, hn, he, hIY, htY, hcY, hvY, rY, fY, rfl⟩ ih
    have hcr := rY.crew0 hc
    have hrt : rrt (xcr Y c) = nI f := by rw [hcY]; exact hf
    refine V_iload_n (i := 2) C dX1_layFor_2 rfl rfl ?_
    refine V_aload_n (i := 0) C dX1_layFor_3 rfl rfl ?_
    refine V_get (ci := 1) (CN := RX1) (T := TX1) (N := 7) C dX1_layFor_4 (by first | assumption | exact hset_s _ _ _) rfl 0 (by decide) flX1_layFor_9 wiX1_layFor_X1 (by rfl) ?_
    refine V_icmp_ge (tgt := 24) C dX1_layFor_7 (by decide) (fun z9 => absurd z9 (by rw [hrt]; exact nI_ge (by omega) (by omega))) (fun _ => ?_)
    refine V_aload_n (i := 0) C dX1_layFor_10 rfl rfl ?_
    refine V_iload_n (i := 1) C dX1_layFor_11 rfl rfl ?_
    refine V_callV (n := 1) C (c_layNext rY hIY hc htY) dX1_layFor_12 gX1_layFor_X1_layNext rfl (by first | assumption | exact hset_s _ _ _) rfl (by decide +kernel) rfl rfl (by exact Nat.le_of_ble_eq_true rfl) ⟨Nat.le_of_ble_eq_true rfl, Nat.le_of_ble_eq_true rfl⟩ ⟨Nat.le_of_ble_eq_true rfl, Nat.le_of_ble_eq_true rfl⟩ (fun v9 h9 hr9 => ?_)
    rcases hr9 with ⟨hq, rfl, z9⟩ | ⟨q, hq, rfl, r5, f5⟩
    · have z9 := z9.symm
      subst z9
      have e9 : lfS c u f X 0 = (Y, d) := by rw [he]; unfold lfS; rw [hq]
      rw [e9]
      refine V_if_eq (tgt := 24) C dX1_layFor_15 (by decide) (fun _ => ?_) (fun z9 => absurd rfl z9)
      refine V_aload_n (i := 0) C dX1_layFor_24 rfl rfl ?_
      refine V_dup C dX1_layFor_25 rfl ?_
      refine V_get (ci := 1) (CN := RX1) (T := TX1) (N := 7) C dX1_layFor_26 (by first | assumption | exact hset_s _ _ _) rfl 6 (by decide) flX1_layFor_48 wiX1_layFor_X1 (by rfl) ?_
      refine V_iload_n (i := 2) C dX1_layFor_29 rfl rfl ?_
      refine V_iadd C dX1_layFor_30 ?_
      refine V_put (ci := 1) (CN := RX1) (T := TX1) (N := 7) (ty := (tyX1 6)) C dX1_layFor_31 (by first | assumption | exact hset_s _ _ _) rfl tyX1 tyX1_ok nmX1 6 (by decide) flX1_layFor_48 wiX1_layFor_X1 rfl (tyX1_ok 6 (by decide)) (by rfl) (by rfl) (by exact Nat.le_of_ble_eq_true rfl) ?_
      refine V_iload_n (i := 2) C dX1_layFor_34 rfl rfl ?_
      exact V_iret C dX1_layFor_35 hr ⟨rfl, by have := rY.setCrew hc (rrt (xcr Y c), rdy (xcr Y c), rpc (xcr Y c), rmt (xcr Y c), rtr (xcr Y c), rld (xcr Y c) + nI d); rw [hcY] at this ⊢; exact this, fY.tr ((hfr.st (a := 4) (i := c) hc).vd hvY)⟩ (by exact Nat.le_of_ble_eq_true rfl) (by exact Nat.le_of_ble_eq_true rfl)
    · refine V_if_eq (tgt := 24) C dX1_layFor_15 (by decide) (fun z9 => absurd z9 (by decide)) (fun _ => ?_)
      refine V_iinc2 (v := nI (d + 1)) C dX1_layFor_18 (nI_1 _) (by decide) ?_
      refine V_goto (tgt := 2) C dX1_layFor_21 (by decide) ?_
      exact V_wk (by simp [lle]) (ih _ _ ⟨_, d + 1, by omega, by rw [he]; show (match lyO Y c u with | none => (Y, d) | some q => lfS c u n (lyX Y q.1 q.2.1 q.2.2 u (u + rdy (xcr Y c))) (d + 1)) = _; rw [hq], hIY.ly (lyO_in hIY hc hq).2.2.2.2.1, htY, hcY, hvY, r5, fY.tr (f5.vd hvY), rfl⟩)
  · rintro h2 ls2 ⟨Y, d, hn, he, hIY, htY, hcY, hvY, rY, fY, rfl⟩
    have hcr := rY.crew0 hc
    have hrt : rrt (xcr Y c) = nI f := by rw [hcY]; exact hf
    have e9 : lfS c u f X 0 = (Y, d) := he
    rw [e9]
    refine V_iload_n (i := 2) C dX1_layFor_2 rfl rfl ?_
    refine V_aload_n (i := 0) C dX1_layFor_3 rfl rfl ?_
    refine V_get (ci := 1) (CN := RX1) (T := TX1) (N := 7) C dX1_layFor_4 (by first | assumption | exact hset_s _ _ _) rfl 0 (by decide) flX1_layFor_9 wiX1_layFor_X1 (by rfl) ?_
    refine V_icmp_ge (tgt := 24) C dX1_layFor_7 (by decide) (fun _ => ?_) (fun z9 => absurd (by rw [hrt]; exact nI_le (by omega) (by omega)) z9)
    refine V_aload_n (i := 0) C dX1_layFor_24 rfl rfl ?_
    refine V_dup C dX1_layFor_25 rfl ?_
    refine V_get (ci := 1) (CN := RX1) (T := TX1) (N := 7) C dX1_layFor_26 (by first | assumption | exact hset_s _ _ _) rfl 6 (by decide) flX1_layFor_48 wiX1_layFor_X1 (by rfl) ?_
    refine V_iload_n (i := 2) C dX1_layFor_29 rfl rfl ?_
    refine V_iadd C dX1_layFor_30 ?_
    refine V_put (ci := 1) (CN := RX1) (T := TX1) (N := 7) (ty := (tyX1 6)) C dX1_layFor_31 (by first | assumption | exact hset_s _ _ _) rfl tyX1 tyX1_ok nmX1 6 (by decide) flX1_layFor_48 wiX1_layFor_X1 rfl (tyX1_ok 6 (by decide)) (by rfl) (by rfl) (by exact Nat.le_of_ble_eq_true rfl) ?_
    refine V_iload_n (i := 2) C dX1_layFor_34 rfl rfl ?_
    exact V_iret C dX1_layFor_35 hr ⟨rfl, by have := rY.setCrew hc (rrt (xcr Y c), rdy (xcr Y c), rpc (xcr Y c), rmt (xcr Y c), rtr (xcr Y c), rld (xcr Y c) + nI d); rw [hcY] at this ⊢; exact this, fY.tr ((hfr.st (a := 4) (i := c) hc).vd hvY)⟩ (by exact Nat.le_of_ble_eq_true rfl) (by exact Nat.le_of_ble_eq_true rfl)
end CREW
