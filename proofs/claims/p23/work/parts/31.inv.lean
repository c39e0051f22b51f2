/-! what holds of the class's numbers stays -/
theorem CI.mono {M M2 : Nat} {X : XS} (h : CI M X) (hm : M ≤ M2) : CI M2 X := by
  obtain ⟨h1, h2, h3, h4, m, h5, h6⟩ := h
  exact ⟨h1, h2, h3, h4, m, Nat.le_trans h5 hm, h6⟩
/-- a picture's cells and the lots change -/
theorem CI.pic {M : Nat} {X : XS} (h : CI M X) {p : Nat} (hp : p < xnp X) {L : Nat → Ld} {G : Nat → Cd} (hL : ∀ j, j < xnl X → ltn (L j) = ltn (xlo X j) ∧ lth (L j) = lth (xlo X j)) (hG : ∀ k, k < xN X p → cOK (G k) ∧ (∀ b, clt (G k) = some b → b < xnl X) ∧ ∃ v, v ≤ 255 ∧ cwn (G k) = nI v) : CI M (xpl X p L G) := by
  obtain ⟨⟨h1, h2, h3⟩, h4, h5, h6, h7⟩ := h
  refine ⟨⟨h1, fun q hq => ?_, h3⟩, fun q hq k hk => ?_, fun j hj => ?_, h6, h7⟩
  · have h8 := h2 q hq
    show PI (xnl X) (xN X q) L (fset (xg X) p G q)
    have hT : ∀ j, j < xnl X → fb (ltn (L j)) 255 := fun j hj => by rw [(hL j hj).1]; exact h8.2 j hj
    by_cases hqp : q = p
    · subst hqp
      rw [fset_s]
      refine ⟨fun k hk => ?_, hT⟩
      obtain ⟨g1, g2, g3⟩ := hG k hk
      refine ⟨g2, fun z => ?_, g3⟩
      rcases g1.1 with ⟨u | u, -⟩ | ⟨-, u⟩
      · rw [z] at u; exact absurd u (by decide)
      · rw [z] at u; exact absurd u (by decide)
      · exact u
    · rw [fset_n hqp]
      exact ⟨h8.1, hT⟩
  · show cOK (fset (xg X) p G q k)
    by_cases hqp : q = p
    · subst hqp
      rw [fset_s]
      exact (hG k hk).1
    · rw [fset_n hqp]
      exact h4 q hq k hk
  · have h8 := h5 j hj
    obtain ⟨l1, l2⟩ := hL j hj
    show fp (ltn (L j)) 255 ∧ (lth (L j) = 0 ∨ lth (L j) = 1)
    rw [l1, l2]
    exact h8
theorem CI.cells {M : Nat} {X : XS} (h : CI M X) {p : Nat} (hp : p < xnp X) : ∀ k, k < xN X p → cOK (xg X p k) ∧ (∀ b, clt (xg X p k) = some b → b < xnl X) ∧ ∃ v, v ≤ 255 ∧ cwn (xg X p k) = nI v := fun k hk => ⟨h.2.1 p hp k hk, ((h.1.2.1 p hp).1 k hk).1, ((h.1.2.1 p hp).1 k hk).2.2⟩
theorem CI.crewU {M : Nat} {X : XS} (h : CI M X) {c : Nat} {d : Rw} (h1 : ∀ p, rpc d = some p → p < xnp X) (h2 : ∃ f, f ≤ 9 ∧ rrt d = nI f) : CI M (setR X c d) := by
  obtain ⟨⟨a1, a2, a3⟩, h4, h5, h6, h7⟩ := h
  refine ⟨⟨a1, a2, fun c2 hc2 p hp => ?_⟩, h4, h5, fun c2 hc2 => ?_, h7⟩
  · have hp : rpc (fset (xcr X) c d c2) = some p := hp
    by_cases hcc : c2 = c
    · subst hcc
      rw [fset_s] at hp
      exact h1 p hp
    · rw [fset_n hcc] at hp
      exact a3 c2 hc2 p hp
  · show ∃ f, f ≤ 9 ∧ rrt (fset (xcr X) c d c2) = nI f
    by_cases hcc : c2 = c
    · subst hcc
      rw [fset_s]
      exact h2
    · rw [fset_n hcc]
      exact h6 c2 hc2
theorem fset_all {P : Cd → Prop} {N k : Nat} {G : Nat → Cd} {d : Cd} (h : ∀ j, j < N → P (G j)) (hd : P d) : ∀ j, j < N → P (fset G k d j) := fun j hj => by
  unfold fset
  split
  · exact hd
  · exact h j hj
theorem fbt_0 : fbt FP.fconst0 := ⟨(fb_0 1).1, by show (0 : UInt32) ≠ 2147483648; decide⟩
section INV
variable {M : Nat} {X : XS}
theorem i_lot (h : CI M X) {a b c d : Int32} (hd : d = 0 ∨ d = 1) : CI M (sp_lot X a b c d).2.2 := by
  unfold sp_lot
  split
  · rename_i ok
    split
    · rename_i hn
      obtain ⟨ka, hka, ea, -⟩ := okR_of (b := 25500) (by decide) ok.1
      have htn : fp (FP.fdiv (FP.i2f a) 1120403456) 255 := by rw [ea]; exact fp_tone hka
      obtain ⟨⟨⟨a1, a2, a3⟩, a4, a5⟩, h4, h5, h6, h7⟩ := h
      have hL : ∀ j, j < xnl X + 1 → fp (ltn (fset (xlo X) (xnl X) (FP.fdiv (FP.i2f a) 1120403456, c, d, b, 0, 0) j)) 255 ∧ (lth (fset (xlo X) (xnl X) (FP.fdiv (FP.i2f a) 1120403456, c, d, b, 0, 0) j) = 0 ∨ lth (fset (xlo X) (xnl X) (FP.fdiv (FP.i2f a) 1120403456, c, d, b, 0, 0) j) = 1) := fun j hj => by
        by_cases hjn : j = xnl X
        · subst hjn
          rw [fset_s]
          exact ⟨htn, hd⟩
        · rw [fset_n hjn]
          exact h5 j (by omega)
      exact ⟨⟨⟨hn, a2, a3⟩, fun p hp => ⟨fun k hk => ⟨fun b2 hb => Nat.lt_succ_of_lt (((a4 p hp).1 k hk).1 b2 hb), ((a4 p hp).1 k hk).2⟩, fun j hj => (hL j hj).1.1⟩, a5⟩, h4, hL, h6, h7⟩
    · exact h
  · exact h
theorem i_comes (h : CI M X) {x : Int32} : CI M (sp_comes X x).2.2 := by
  unfold sp_comes
  split
  · split
    · obtain ⟨⟨a1, a4, a5⟩, h4, h5, h6, h7⟩ := h
      have hL : ∀ j, j < xnl X → fp (ltn (fset (xlo X) (tN x) (ldT (xlo X (tN x))) j)) 255 ∧ (lth (fset (xlo X) (tN x) (ldT (xlo X (tN x))) j) = 0 ∨ lth (fset (xlo X) (tN x) (ldT (xlo X (tN x))) j) = 1) := fun j hj => by
        by_cases hjn : j = tN x
        · subst hjn
          rw [fset_s]
          exact ⟨(h5 _ hj).1, Or.inr rfl⟩
        · rw [fset_n hjn]
          exact h5 j hj
      exact ⟨⟨a1, fun p hp => ⟨(a4 p hp).1, fun j hj => (hL j hj).1.1⟩, a5⟩, h4, hL, h6, h7⟩
    · exact h
  · exact h
theorem i_picture (h : CI M X) {a b c : Int32} : CI M (sp_picture X a b c).2.2 := by
  unfold sp_picture
  split
  · rename_i ok
    split
    · rename_i hn
      obtain ⟨w, w1, w2, -, ew⟩ := okR_of1 (b := 8) (by decide) ok.1
      obtain ⟨g, g1, g2, -, eg⟩ := okR_of1 (b := 8) (by decide) ok.2.1
      obtain ⟨t, t1, et, -⟩ := okR_of (b := 255) (by decide) ok.2.2
      rw [ew, eg]
      obtain ⟨⟨⟨a1, a2, a3⟩, a4, a5⟩, h4, h5, h6, h7⟩ := h
      have hN : ∀ q, q ≠ xnp X → xN (addP X w g c) q = xN X q := fun q hq => by
        show fset (xwd X) (xnp X) w q * fset (xhg X) (xnp X) g q = _
        rw [fset_n hq, fset_n hq]
      refine ⟨⟨⟨a1, hn, fun q hq => ?_⟩, fun q hq => ?_, fun c2 hc2 q hq => Nat.lt_succ_of_lt (a5 c2 hc2 q hq)⟩, fun q hq k hk => ?_, h5, h6, h7⟩
      · show (1 ≤ fset (xwd X) (xnp X) w q ∧ fset (xwd X) (xnp X) w q ≤ 8) ∧ 1 ≤ fset (xhg X) (xnp X) g q ∧ fset (xhg X) (xnp X) g q ≤ 8
        by_cases hqn : q = xnp X
        · subst hqn
          rw [fset_s, fset_s]
          exact ⟨⟨w1, w2⟩, g1, g2⟩
        · have hq : q < xnp X + 1 := hq
          rw [fset_n hqn, fset_n hqn]
          exact a3 q (by omega)
      · by_cases hqn : q = xnp X
        · subst hqn
          show PI (xnl X) _ (xlo X) (fset (xg X) (xnp X) (fun _ => (0, none, c, FP.fconst0, FP.fconst0, 0, 0, 0)) (xnp X))
          rw [fset_s]
          exact ⟨fun k hk => ⟨fun b2 z => (nomatch z), fun z => absurd (show (0 : Int32) = 1 from z) (by decide), t, t1, et⟩, fun j hj => (h5 j hj).1.1⟩
        · have hq : q < xnp X + 1 := hq
          rw [hN q hqn]
          show PI (xnl X) _ (xlo X) (fset (xg X) (xnp X) (fun _ => (0, none, c, FP.fconst0, FP.fconst0, 0, 0, 0)) q)
          rw [fset_n hqn]
          exact a4 q (by omega)
      · show cOK (fset (xg X) (xnp X) (fun _ => (0, none, c, FP.fconst0, FP.fconst0, 0, 0, 0)) q k)
        by_cases hqn : q = xnp X
        · subst hqn
          rw [fset_s]
          exact ⟨Or.inl ⟨Or.inl rfl, rfl⟩, fbt_0, fun z => absurd (show (0 : Int32) = 2 from z) (by decide)⟩
        · have hq : q < xnp X + 1 := hq
          rw [fset_n hqn]
          rw [hN q hqn] at hk
          exact h4 q (by omega) k hk
    · exact h
  · exact h
theorem i_cell (h : CI M X) {a b c d : Int32} : CI M (sp_cell X a b c d).2.2 := by
  unfold sp_cell
  split
  · rename_i hx
    split
    · rename_i ok
      split
      · exact h
      · obtain ⟨t, t1, et, -⟩ := okR_of (b := 255) (by decide) ok
        obtain ⟨p, i, j, hp, hi, hj, -, -, -, ep, ec⟩ := celN_of h.1.1 hx
        have hk := at_lt hi hj
        rw [ep, ec]
        have hc := h.cells hp
        exact h.pic hp (fun j hj => ⟨rfl, rfl⟩) (fset_all (P := fun d => cOK d ∧ (∀ b, clt d = some b → b < xnl X) ∧ ∃ v, v ≤ 255 ∧ cwn d = nI v) hc ⟨(hc _ hk).1, (hc _ hk).2.1, t, t1, et⟩)
    · exact h
  · exact h
theorem i_old (h : CI M X) {a b c d : Int32} : CI M (sp_old X a b c d).2.2 := by
  unfold sp_old
  split
  · rename_i hx
    split
    · rename_i ok
      split
      · rename_i h0
        obtain ⟨t, t1, et, -⟩ := okR_of (b := 255) (by decide) ok
        obtain ⟨p, i, j, hp, hi, hj, -, -, -, ep, ec⟩ := celN_of h.1.1 hx
        have hk := at_lt hi hj
        rw [ep, ec] at h0 ⊢
        have hc := h.cells hp
        have hn : clt (xg X p (j * xwd X p + i)) = none := by
          rcases (hc _ hk).1.1 with ⟨-, u⟩ | ⟨u | u, -⟩
          · exact u
          · rw [h0] at u; exact absurd u (by decide)
          · rw [h0] at u; exact absurd u (by decide)
        exact h.pic hp (fun j hj => ⟨rfl, rfl⟩) (fset_all (P := fun d => cOK d ∧ (∀ b, clt d = some b → b < xnl X) ∧ ∃ v, v ≤ 255 ∧ cwn d = nI v) hc ⟨⟨Or.inl ⟨Or.inr rfl, hn⟩, (hc _ hk).1.2.1, fun z => absurd (show (3 : Int32) = 2 from z) (by decide)⟩, (hc _ hk).2.1, t, t1, et⟩)
      · exact h
    · exact h
  · exact h
theorem i_send (h : CI M X) {c x : Int32} : CI M (sp_send X c x).2.2 := by
  unfold sp_send
  split
  · rename_i hx
    obtain ⟨k, hk, -, ek⟩ := crewN_of hx.1
    rw [ek]
    refine h.crewU (fun p hp => ?_) (h.2.2.2.1 k hk)
    have hp : (if x = -1 then none else some (tN x)) = some p := hp
    split at hp
    · cases hp
    · rename_i hm
      obtain ⟨q, hq, -, eq⟩ := picN_of h.1.1 (hx.2.resolve_left hm)
      rw [eq] at hp
      cases hp
      exact hq
  · exact h
theorem i_crew (h : CI M X) {c a b : Int32} : CI M (sp_crew X c a b).2.2 := by
  unfold sp_crew
  split
  · rename_i hx
    obtain ⟨k, hk, -, ek⟩ := crewN_of hx
    rw [ek]
    split
    · rename_i ok
      obtain ⟨f, f1, f2, ef, -⟩ := okR_of1 (b := 9) (by decide) ok.1
      exact h.crewU (fun p hp => h.1.2.2 k hk p hp) ⟨f, f2, ef⟩
    · exact h
  · exact h
theorem i_tray (h : CI M X) {c a : Int32} : CI M (sp_tray X c a).2.2 := by
  unfold sp_tray
  split
  · rename_i hx
    obtain ⟨k, hk, -, ek⟩ := crewN_of hx
    rw [ek]
    split
    · exact h.crewU (fun p hp => h.1.2.2 k hk p hp) (h.2.2.2.1 k hk)
    · exact h
  · exact h
theorem i_load (h : CI M X) {c a : Int32} : CI M (sp_load X c a).2.2 := by
  unfold sp_load
  split
  · rename_i hx
    obtain ⟨k, hk, -, ek⟩ := crewN_of hx.1
    rw [ek]
    split
    · exact h
    · split
      · exact h.crewU (fun p hp => h.1.2.2 k hk p hp) (h.2.2.2.1 k hk)
      · exact h
  · exact h
abbrev cOB (n : Nat) (d : Cd) : Prop := cOK d ∧ (∀ b, clt d = some b → b < n) ∧ ∃ v, v ≤ 255 ∧ cwn d = nI v
/-- pavements' fillings -/
theorem fcC_all {P : Cd → Prop} (hR : ∀ d v, P d → P (cdR d v)) (hW : ∀ d v, P d → P (cdW d v)) {w g N k : Nat} {G : Nat → Cd} {rd : Int32} (h : ∀ j, j < N → P (G j)) : ∀ j, j < N → P ((fcC w g G k rd).1 j) := by
  unfold fcC
  split
  · exact h
  · intro j hj
    show P (fset G k _ j)
    by_cases hjk : j = k
    · rw [hjk, fset_s]
      rw [hjk] at hj
      exact hR _ _ (hW _ _ (h k hj))
    · rw [fset_n hjk]
      exact h j hj
theorem frS_all {P : Cd → Prop} (hR : ∀ d v, P d → P (cdR d v)) (hW : ∀ d v, P d → P (cdW d v)) {w g N : Nat} {G : Nat → Cd} {rd : Int32} (h : ∀ j, j < N → P (G j)) (k : Nat) : ∀ j, j < N → P ((frS w g G rd k).1 j) := by
  induction k with
  | zero => exact h
  | succ k ih =>
    unfold frS
    split
    · exact fcC_all hR hW ih
    · exact ih
theorem flR_all {P : Cd → Prop} (hR : ∀ d v, P d → P (cdR d v)) (hW : ∀ d v, P d → P (cdW d v)) {w g N : Nat} (f : Nat) : ∀ (rd : Nat) (G : Nat → Cd) (c : Nat), (∀ j, j < N → P (G j)) → ∀ j, j < N → P ((flR w g N f rd G c).1 j) := by
  induction f with
  | zero => intro rd G c h; exact h
  | succ f ih =>
    intro rd G c h
    unfold flR
    split
    · exact frS_all hR hW h N
    · exact ih _ _ _ (frS_all hR hW h N)
theorem flR_W {w g N : Nat} (hw : w ≤ 8) (hg : g ≤ 8) (f : Nat) : ∀ (rd : Nat) (G : Nat → Cd) (c : Nat), WB (w * g) G → N = w * g → WB (w * g) (flR w g N f rd G c).1 := by
  induction f with
  | zero => intro rd G c h _; exact h
  | succ f ih =>
    intro rd G c h hN
    unfold flR
    split
    · exact frS_W hw hg h N
    · exact ih _ _ _ (frS_W hw hg h N) hN
theorem i_fill (h : CI M X) {x : Int32} : CI M (sp_fill X x).2.2 := by
  unfold sp_fill
  split
  · rename_i hx
    obtain ⟨p, hp, -, ep⟩ := picN_of h.1.1 hx
    rw [ep]
    obtain ⟨⟨w1, w2⟩, g1, g2⟩ := h.1.1.2.2 p hp
    have hc := h.cells hp
    have h0 : ∀ j, j < xN X p → (fun d => cOK d ∧ ∀ b, clt d = some b → b < xnl X) (fl0 (xg X p) (xN X p) j) := fun j hj => by
      unfold fl0
      split
      · exact ⟨(hc j hj).1, (hc j hj).2.1⟩
      · exact ⟨(hc j hj).1, (hc j hj).2.1⟩
    have h1 := flR_all (P := fun d => cOK d ∧ ∀ b, clt d = some b → b < xnl X) (fun d v q => q) (fun d v q => q) (w := xwd X p) (g := xhg X p) (xN X p) 1 (fl0 (xg X p) (xN X p)) 0 h0
    have h2 := flR_W (w := xwd X p) (g := xhg X p) w2 g2 (xN X p) 1 (fl0 (xg X p) (xN X p)) 0 (fl0_W (fun k hk => (hc k hk).2.2) _) rfl
    exact h.pic hp (fun j hj => ⟨rfl, rfl⟩) (fun k hk => ⟨(h1 k hk).1, (h1 k hk).2, h2 k hk⟩)
  · exact h
theorem tb1_lo {L : Nat → Ld} {G : Nat → Cd} {k j : Nat} : ltn ((tb1 L G k).1 j) = ltn (L j) ∧ lth ((tb1 L G k).1 j) = lth (L j) := by
  unfold tb1
  split
  · split
    · rename_i b hb
      show ltn (fset L b _ j) = _ ∧ lth (fset L b _ j) = _
      by_cases hjb : j = b
      · subst hjb; rw [fset_s]; exact ⟨rfl, rfl⟩
      · rw [fset_n hjb]; exact ⟨rfl, rfl⟩
    · exact ⟨rfl, rfl⟩
  · exact ⟨rfl, rfl⟩
theorem tb1_ok {N k : Nat} {L : Nat → Ld} {G : Nat → Cd} (h : ∀ j, j < N → cOK (G j)) : ∀ j, j < N → cOK ((tb1 L G k).2 j) := by
  unfold tb1
  split
  · split
    · intro j hj
      show cOK (fset G k _ j)
      by_cases hjk : j = k
      · rw [hjk, fset_s]
        rw [hjk] at hj
        exact ⟨Or.inl ⟨Or.inl rfl, rfl⟩, (h k hj).2.1, fun z => absurd (show (0 : Int32) = 2 from z) (by decide)⟩
      · rw [fset_n hjk]
        exact h j hj
    · exact h
  · exact h
theorem tbS_ok {N : Nat} {L : Nat → Ld} {G : Nat → Cd} (h : ∀ j, j < N → cOK (G j)) (i : Nat) : (∀ j, ltn ((tbS L G i).1 j) = ltn (L j) ∧ lth ((tbS L G i).1 j) = lth (L j)) ∧ ∀ j, j < N → cOK ((tbS L G i).2 j) := by
  induction i with
  | zero => exact ⟨fun j => ⟨rfl, rfl⟩, h⟩
  | succ i ih =>
    refine ⟨fun j => ?_, tb1_ok ih.2⟩
    have := tb1_lo (L := (tbS L G i).1) (G := (tbS L G i).2) (k := i) (j := j)
    exact ⟨this.1.trans (ih.1 j).1, this.2.trans (ih.1 j).2⟩
theorem prom_lo {L : Nat → Ld} {G : Nat → Cd} {k b j : Nat} : ltn ((prom L G k b).1 j) = ltn (L j) ∧ lth ((prom L G k b).1 j) = lth (L j) := by
  show ltn (fset L b _ j) = _ ∧ lth (fset L b _ j) = _
  by_cases hjb : j = b
  · subst hjb; rw [fset_s]; exact ⟨rfl, rfl⟩
  · rw [fset_n hjb]; exact ⟨rfl, rfl⟩
theorem prom_ok {N k b : Nat} {L : Nat → Ld} {G : Nat → Cd} (h : ∀ j, j < N → cOK (G j)) : ∀ j, j < N → cOK ((prom L G k b).2 j) := by
  intro j hj
  show cOK (fset G k _ j)
  by_cases hjk : j = k
  · rw [hjk, fset_s]
    rw [hjk] at hj
    exact ⟨Or.inr ⟨Or.inl rfl, b, rfl⟩, (h k hj).2.1, fun z => absurd (show (1 : Int32) = 2 from z) (by decide)⟩
  · rw [fset_n hjk]
    exact h j hj
theorem ds0_ok {n N k : Nat} {L : Nat → Ld} {G : Nat → Cd} (h : ∀ j, j < N → cOK (G j)) (ha : fbt (FP.fadd (FP.i2f (cwn (G k))) (cbr (G k)))) : (∀ j, ltn ((ds0 n L G k).1 j) = ltn (L j) ∧ lth ((ds0 n L G k).1 j) = lth (L j)) ∧ ∀ j, j < N → cOK ((ds0 n L G k).2 j) := by
  have h1 : ∀ j, j < N → cOK (fset G k (cdA (G k) (FP.fadd (FP.i2f (cwn (G k))) (cbr (G k)))) j) := fun j hj => by
    by_cases hjk : j = k
    · rw [hjk, fset_s]
      rw [hjk] at hj
      exact ⟨(h k hj).1, ha, (h k hj).2.2⟩
    · rw [fset_n hjk]
      exact h j hj
  unfold ds0
  split
  · unfold promN
    split
    · exact ⟨fun j => ⟨rfl, rfl⟩, h1⟩
    · exact ⟨fun j => prom_lo, prom_ok h1⟩
  · exact ⟨fun j => ⟨rfl, rfl⟩, h1⟩
theorem dsS_ok {n N w g : Nat} {L : Nat → Ld} {G : Nat → Cd} (hI : PI n N L G) (hw1 : 1 ≤ w) (hw : w ≤ 8) (hg : g ≤ 8) (hN : N ≤ 64) (hG : nbU N G (difU w 0)) (h : ∀ j, j < N → cOK (G j)) {i : Nat} (hi : i ≤ N) : (∀ j, ltn ((dsS w g n L G i).1 j) = ltn (L j) ∧ lth ((dsS w g n L G i).1 j) = lth (L j)) ∧ ∀ j, j < N → cOK ((dsS w g n L G i).2 j) := by
  induction i with
  | zero => exact ⟨fun j => ⟨rfl, rfl⟩, h⟩
  | succ i ih =>
    obtain ⟨i1, i2⟩ := ih (by omega)
    have hk : i < N := by omega
    have hI2 := hI.dS (w := w) (g := g) (i := i) (by omega)
    have hnb := dS_nb hI hw1 hw hg hN hG (i := i) (g := g) (by omega)
    have ha := aim_fb hI2 hN hk hnb
    obtain ⟨d1, d2⟩ := ds0_ok (n := n) (L := (dsS w g n L G i).1) i2 ⟨ha.1.1, ha.2⟩
    refine ⟨fun j => ⟨(d1 j).1.trans (i1 j).1, (d1 j).2.trans (i1 j).2⟩, ?_⟩
    exact pass_all (fun d v q => q) d2
theorem i_design (h : CI M X) {x : Int32} : CI M (sp_design X x).2.2 := by
  unfold sp_design
  split
  · rename_i hx
    obtain ⟨p, hp, -, ep⟩ := picN_of h.1.1 hx
    rw [ep]
    obtain ⟨⟨w1, w2⟩, g1, g2⟩ := h.1.1.2.2 p hp
    have hN := (h.1.1.N hp).2
    have hPI := h.1.2.1 p hp
    obtain ⟨t1, t2⟩ := tbS_ok (N := xN X p) (L := xlo X) (G := xg X p) (h.2.1 p hp) (xN X p)
    have t3 : ∀ j, j < xN X p → cOK (fgG (tbS (xlo X) (xg X p) (xN X p)).2 (xN X p) j) := fun j hj => by
      unfold fgG
      split
      · exact t2 j hj
      · exact t2 j hj
    have hPI2 := (hPI.tbS (Nat.le_refl _)).fg (xN X p)
    obtain ⟨s1, s2⟩ := dsS_ok hPI2 w1 w2 g2 hN (fg_nb (xwd X p) _ _) t3 (g := xhg X p) (Nat.le_refl _)
    have hPI3 := hPI2.dS (w := xwd X p) (g := xhg X p) (Nat.le_refl _)
    exact h.pic hp (fun j hj => ⟨(s1 j).1.trans (t1 j).1, (s1 j).2.trans (t1 j).2⟩) (fun k hk => ⟨s2 k hk, (hPI3.1 k hk).1, (hPI3.1 k hk).2.2⟩)
  · exact h
theorem gv1_ok {a b w N k : Nat} {L : Nat → Ld} {G : Nat → Cd} (h : ∀ j, j < N → cOK (G j)) : (∀ j, ltn ((gv1 a b w L G k).1.1 j) = ltn (L j) ∧ lth ((gv1 a b w L G k).1.1 j) = lth (L j)) ∧ ∀ j, j < N → cOK ((gv1 a b w L G k).1.2 j) := by
  unfold gv1
  split
  · exact ⟨fun j => ⟨prom_lo.1.trans tb1_lo.1, prom_lo.2.trans tb1_lo.2⟩, prom_ok (tb1_ok h)⟩
  · exact ⟨fun j => ⟨rfl, rfl⟩, h⟩
theorem gvS_ok {a b w N : Nat} {L : Nat → Ld} {G : Nat → Cd} (h : ∀ j, j < N → cOK (G j)) (i : Nat) : (∀ j, ltn ((gvS a b w L G i).1.1 j) = ltn (L j) ∧ lth ((gvS a b w L G i).1.1 j) = lth (L j)) ∧ ∀ j, j < N → cOK ((gvS a b w L G i).1.2 j) := by
  induction i with
  | zero => exact ⟨fun j => ⟨rfl, rfl⟩, h⟩
  | succ i ih =>
    obtain ⟨g1, g2⟩ := gv1_ok (a := a) (b := b) (w := w) (k := i) (L := (gvS a b w L G i).1.1) ih.2
    exact ⟨fun j => ⟨(g1 j).1.trans (ih.1 j).1, (g1 j).2.trans (ih.1 j).2⟩, g2⟩
theorem i_share (h : CI M X) {x a b : Int32} : CI M (sp_share X x a b).2.2 := by
  unfold sp_share
  split
  · rename_i hx
    split
    · exact h
    · obtain ⟨p, hp, -, ep⟩ := picN_of h.1.1 hx.1
      obtain ⟨i, hi, -, ei⟩ := lotN_of h.1.1 hx.2.1
      obtain ⟨j, hj, -, ej⟩ := lotN_of h.1.1 hx.2.2
      rw [ep, ei, ej]
      obtain ⟨s1, s2⟩ := gvS_ok (a := i) (b := j) (w := xwd X p) (N := xN X p) (L := xlo X) (G := xg X p) (h.2.1 p hp) (xN X p)
      have hPI := (h.1.2.1 p hp).gvS (a := i) (w := xwd X p) hj (Nat.le_refl _)
      exact h.pic hp (fun j hj => s1 j) (fun k hk => ⟨s2 k hk, (hPI.1 k hk).1, (hPI.1 k hk).2.2⟩)
  · exact h
theorem an_ok {n N w g : Nat} {L : Nat → Ld} {G : Nat → Cd} (h : ∀ j, j < N → cOB n (G j)) (i : Nat) : ∀ j, j < N → cOB n (anS w g L G i j) := by
  induction i with
  | zero => exact h
  | succ i ih => exact pass_all (P := cOB n) (fun d v q => q) ih
theorem i_aim (h : CI M X) {a b c : Int32} : CI M (sp_aim X a b c).2.2 := by
  unfold sp_aim
  split
  · rename_i hx
    obtain ⟨p, i, j, hp, hi, hj, -, -, -, ep, ec⟩ := celN_of h.1.1 hx
    rw [ep, ec]
    have hc := h.cells hp
    have h0 : ∀ j, j < xN X p → cOB (xnl X) (fgG (xg X p) (xN X p) j) := fun j hj => by
      unfold fgG
      split
      · exact hc j hj
      · exact hc j hj
    exact h.pic hp (fun j hj => ⟨rfl, rfl⟩) (an_ok h0 _)
  · exact h
/-- a stone is laid -/
theorem i_lay (h : CI M X) (hM : M < 2 ^ 30) {c p k b : Nat} {v : Int32} (hc : c < 3) (hq : lyO X c (xnw X) = some (p, k, b)) : CI M (lyX X p k b (xnw X) v) := by
  obtain ⟨q1, q2, q3, q4, q5, q6, q7⟩ := lyO_in h.1 hc hq
  obtain ⟨m, hm, hnw⟩ := h.2.2.2.2
  have hcl := h.cells q1
  exact h.pic q1 (fun j hj => by
    by_cases hjb : j = b
    · subst hjb; rw [fset_s]; exact ⟨rfl, rfl⟩
    · rw [fset_n hjb]; exact ⟨rfl, rfl⟩) (fset_all (P := cOB (xnl X)) hcl ⟨⟨Or.inr ⟨Or.inr rfl, b, q5⟩, (hcl k q2).1.2.1, fun _ => ⟨m, by omega, hnw⟩⟩, (hcl k q2).2⟩)
end INV
