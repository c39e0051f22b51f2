/-! two workshops: the first has a picture more, of which no stone is promised there -/
def an (sp : Sp) : Int32 := match sp.1 with
  | none => sp.2.1
  | some _ => -900
theorem an_n {sp : Sp} (h : sp.1 = none) : an sp = sp.2.1 := by
  unfold an
  rw [h]
theorem an_x {sp : Sp} {E : String} (h : sp.1 = some E) : an sp = -900 := by
  unfold an
  rw [h]
/-- all but what was brought is the same in the second's picture and in the first's later one -/
def RW (w g : Nat) (A B : XS) : Prop := (xnp A = 2 ∧ xnp B = 1 ∧ xnl A = xnl B ∧ xlo A = xlo B) ∧ ((xwd A 1 = w ∧ xhg A 1 = g) ∧ xwd B 0 = w ∧ xhg B 0 = g) ∧ fgG (xg A 1) (w * g) = fgG (xg B 0) (w * g) ∧ ∀ k, k < xN A 0 → (xg A 0 k).1 ≠ 1
section PAIR
variable {w g : Nat} {A B : XS}
theorem tN0 : tN 0 = 0 := by decide
theorem tN1 : tN 1 = 1 := by decide
theorem xg_pl {X : XS} {p : Nat} {L : Nat → Ld} {G : Nat → Cd} : xg (xpl X p L G) p = G := fset_s _ _ _
theorem xg_pn {X : XS} {p q : Nat} {L : Nat → Ld} {G : Nat → Cd} (h : q ≠ p) : xg (xpl X p L G) q = xg X q := fset_n h
theorem RW.pic (h : RW w g A B) {L : Nat → Ld} {G G2 : Nat → Cd} (hG : fgG G (w * g) = fgG G2 (w * g)) : RW w g (xpl A 1 L G) (xpl B 0 L G2) := by
  obtain ⟨⟨a1, a2, a3, a4⟩, b, c, d⟩ := h
  refine ⟨⟨a1, a2, a3, rfl⟩, b, ?_, fun k hk => ?_⟩
  · rw [xg_pl, xg_pl]
    exact hG
  · rw [xg_pn (by decide)]
    exact d k hk
theorem RW.one (h : RW w g A B) {G : Nat → Cd} (hG : fgG G (w * g) = fgG (xg A 1) (w * g)) : RW w g (xpl A 1 (xlo A) G) B := by
  obtain ⟨⟨a1, a2, a3, a4⟩, b, c, d⟩ := h
  refine ⟨⟨a1, a2, a3, a4⟩, b, ?_, fun k hk => ?_⟩
  · rw [xg_pl]
    exact hG.trans c
  · rw [xg_pn (by decide)]
    exact d k hk
theorem RW.two (h : RW w g A B) {G : Nat → Cd} (hG : fgG G (w * g) = fgG (xg B 0) (w * g)) : RW w g A (xpl B 0 (xlo B) G) := by
  obtain ⟨⟨a1, a2, a3, a4⟩, b, c, d⟩ := h
  refine ⟨⟨a1, a2, a3, a4⟩, b, ?_, d⟩
  rw [xg_pl]
  exact c.trans hG.symm
theorem RW.own (h : RW w g A B) {G : Nat → Cd} (hG : ∀ k, k < xN A 0 → (G k).1 ≠ 1) : RW w g (xpl A 0 (xlo A) G) B := by
  obtain ⟨⟨a1, a2, a3, a4⟩, b, c, d⟩ := h
  refine ⟨⟨a1, a2, a3, a4⟩, b, ?_, fun k hk => ?_⟩
  · rw [xg_pn (by decide)]
    exact c
  · rw [xg_pl]
    exact hG k hk
theorem RW.cell (h : RW w g A B) {k : Nat} (hk : k < w * g) : cdB (xg A 1 k) FP.fconst0 = cdB (xg B 0 k) FP.fconst0 := by
  have h1 := congrFun h.2.2.1 k
  rw [fg_in hk, fg_in hk] at h1
  exact h1
theorem RW.set (h : RW w g A B) {k : Nat} (hk : k < w * g) {d e : Cd} (hd : cdB d FP.fconst0 = cdB e FP.fconst0) : RW w g (setG A 1 k d) (setG B 0 k e) := by
  have h1 : fgG (fset (xg A 1) k d) (w * g) = fgG (fset (xg B 0) k e) (w * g) := by
    rw [← fg_set hk, ← fg_set hk, hd, h.2.2.1]
  have h2 := h.pic (L := xlo A) h1
  have e2 : xpl B 0 (xlo A) (fset (xg B 0) k e) = setG B 0 k e := by
    rw [h.1.2.2.2]
    rfl
  rw [e2] at h2
  exact h2
theorem RW.N (h : RW w g A B) : xN A 1 = w * g ∧ xN B 0 = w * g := by
  obtain ⟨-, ⟨⟨b1, b2⟩, b3, b4⟩, -⟩ := h
  exact ⟨by show xwd A 1 * xhg A 1 = _; rw [b1, b2], by show xwd B 0 * xhg B 0 = _; rw [b3, b4]⟩
theorem RW.pA (h : RW w g A B) : picN A 1 := by
  show (0 : Int32) ≤ 1 ∧ 1 < nI (xnp A)
  rw [h.1.1]
  decide
theorem RW.pA0 (h : RW w g A B) : picN A 0 := by
  show (0 : Int32) ≤ 0 ∧ 0 < nI (xnp A)
  rw [h.1.1]
  decide
theorem RW.pB (h : RW w g A B) : picN B 0 := by
  show (0 : Int32) ≤ 0 ∧ 0 < nI (xnp B)
  rw [h.1.2.1]
  decide
theorem RW.cA (h : RW w g A B) (hw : w ≤ 8) (hg : g ≤ 8) {i j : Nat} (hi : i < w) (hj : j < g) : celN A 1 (nI i) (nI j) ∧ celK A 1 (nI i) (nI j) = j * w + i := by
  obtain ⟨-, ⟨⟨b1, b2⟩, b3, b4⟩, -⟩ := id h
  refine ⟨⟨h.pA, ?_⟩, ?_⟩
  · rw [tN1, b1, b2]
    exact isAt_nI hw hg hi hj
  · show tN (nI j) * xwd A (tN 1) + tN (nI i) = _
    rw [tN1, b1, tN_nI (by omega), tN_nI (by omega)]
theorem RW.cB (h : RW w g A B) (hw : w ≤ 8) (hg : g ≤ 8) {i j : Nat} (hi : i < w) (hj : j < g) : celN B 0 (nI i) (nI j) ∧ celK B 0 (nI i) (nI j) = j * w + i := by
  obtain ⟨-, ⟨⟨b1, b2⟩, b3, b4⟩, -⟩ := id h
  refine ⟨⟨h.pB, ?_⟩, ?_⟩
  · rw [tN0, b3, b4]
    exact isAt_nI hw hg hi hj
  · show tN (nI j) * xwd B (tN 0) + tN (nI i) = _
    rw [tN0, b3, tN_nI (by omega), tN_nI (by omega)]
/-- a lot for both -/
theorem RW.lot (h : RW w g A B) {a b c d : Int32} (ok : okR a 0 25500 ∧ okR b 1 500 ∧ okR c 0 1) (hn : xnl A < 12) : an (sp_lot A a b c d) = nI (xnl A) ∧ an (sp_lot B a b c d) = nI (xnl A) ∧ RW w g (sp_lot A a b c d).2.2 (sp_lot B a b c d).2.2 ∧ xnl (sp_lot A a b c d).2.2 = xnl A + 1 := by
  obtain ⟨⟨a1, a2, a3, a4⟩, b1, c1, d1⟩ := h
  unfold sp_lot
  have hnB : xnl B < 12 := by rw [← a3]; exact hn
  rw [if_pos ok, if_pos ok, if_pos hn, if_pos hnB]
  refine ⟨rfl, by show nI (xnl B) = _; rw [a3], ⟨⟨a1, a2, ?_, ?_⟩, b1, c1, d1⟩, rfl⟩
  · show xnl A + 1 = xnl B + 1
    rw [a3]
  · show fset (xlo A) (xnl A) _ = fset (xlo B) (xnl B) _
    rw [a3, a4]
theorem RW.comes (h : RW w g A B) {x : Int32} : an (sp_comes A x) = an (sp_comes B x) ∧ RW w g (sp_comes A x).2.2 (sp_comes B x).2.2 ∧ xnl (sp_comes A x).2.2 = xnl A := by
  obtain ⟨⟨a1, a2, a3, a4⟩, b1, c1, d1⟩ := id h
  have e1 : lotN A x ↔ lotN B x := by
    show (0 ≤ x ∧ x < nI (xnl A)) ↔ (0 ≤ x ∧ x < nI (xnl B))
    rw [a3]
  unfold sp_comes
  by_cases hx : lotN A x
  · rw [if_pos hx, if_pos (e1.mp hx), a4]
    split
    · refine ⟨rfl, ⟨⟨a1, a2, a3, ?_⟩, b1, c1, d1⟩, rfl⟩
      rfl
    · exact ⟨rfl, h, rfl⟩
  · rw [if_neg hx, if_neg (fun z => hx (e1.mpr z))]
    exact ⟨rfl, h, rfl⟩
theorem RW.kind (h : RW w g A B) {k : Nat} (hk : k < w * g) : (xg A 1 k).1 = (xg B 0 k).1 ∧ clt (xg A 1 k) = clt (xg B 0 k) ∧ cwn (xg A 1 k) = cwn (xg B 0 k) ∧ cam (xg A 1 k) = cam (xg B 0 k) ∧ cla (xg A 1 k) = cla (xg B 0 k) := by
  have hc := h.cell hk
  have z1 := congrArg (fun d : Cd => d.1) hc
  have z2 := congrArg (fun d : Cd => clt d) hc
  have z3 := congrArg (fun d : Cd => cwn d) hc
  have z4 := congrArg (fun d : Cd => cam d) hc
  have z5 := congrArg (fun d : Cd => cla d) hc
  exact ⟨z1, z2, z3, z4, z5⟩
theorem RW.told (h : RW w g A B) (hw : w ≤ 8) (hg : g ≤ 8) {i j : Nat} (hi : i < w) (hj : j < g) {t : Int32} (ht : okR t 0 255) : an (sp_cell A 1 (nI i) (nI j) t) = an (sp_cell B 0 (nI i) (nI j) t) ∧ RW w g (sp_cell A 1 (nI i) (nI j) t).2.2 (sp_cell B 0 (nI i) (nI j) t).2.2 ∧ xnl (sp_cell A 1 (nI i) (nI j) t).2.2 = xnl A := by
  obtain ⟨n1, k1⟩ := h.cA hw hg hi hj
  obtain ⟨n2, k2⟩ := h.cB hw hg hi hj
  have hk := at_lt hi hj
  obtain ⟨q1, q2, q3, q4, q5⟩ := h.kind hk
  have hc := h.cell hk
  unfold sp_cell
  rw [if_pos n1, if_pos n2, if_pos ht, if_pos ht, k1, k2, tN0, tN1]
  by_cases hd : dn (xg A 1 (j * w + i))
  · have hd2 : dn (xg B 0 (j * w + i)) := by
      unfold dn
      rw [← q1]
      exact hd
    rw [if_pos hd, if_pos hd2]
    exact ⟨rfl, h, rfl⟩
  · have hd2 : ¬ dn (xg B 0 (j * w + i)) := by
      unfold dn
      rw [← q1]
      exact hd
    rw [if_neg hd, if_neg hd2]
    have z9 := congrArg (fun d : Cd => cdW d t) hc
    exact ⟨q3, h.set hk z9, rfl⟩
theorem RW.olds (h : RW w g A B) (hw : w ≤ 8) (hg : g ≤ 8) {i j : Nat} (hi : i < w) (hj : j < g) {t : Int32} (ht : okR t 0 255) : an (sp_old A 1 (nI i) (nI j) t) = an (sp_old B 0 (nI i) (nI j) t) ∧ RW w g (sp_old A 1 (nI i) (nI j) t).2.2 (sp_old B 0 (nI i) (nI j) t).2.2 ∧ xnl (sp_old A 1 (nI i) (nI j) t).2.2 = xnl A := by
  obtain ⟨n1, k1⟩ := h.cA hw hg hi hj
  obtain ⟨n2, k2⟩ := h.cB hw hg hi hj
  obtain ⟨N1, N2⟩ := h.N
  have hk := at_lt hi hj
  obtain ⟨q1, q2, q3, q4, q5⟩ := h.kind hk
  have hc := h.cell hk
  unfold sp_old
  rw [if_pos n1, if_pos n2, if_pos ht, if_pos ht, k1, k2, tN0, tN1]
  by_cases hd : (xg A 1 (j * w + i)).1 = 0
  · rw [if_pos hd, if_pos (q1.symm.trans hd)]
    have z9 := congrArg (fun d : Cd => cdO d t) hc
    have hs := h.set hk (d := cdO (xg A 1 (j * w + i)) t) (e := cdO (xg B 0 (j * w + i)) t) z9
    refine ⟨?_, hs, rfl⟩
    show nI (cntN (fset (xg A 1) (j * w + i) (cdO (xg A 1 (j * w + i)) t)) 3 (xN A 1)) = nI (cntN (fset (xg B 0) (j * w + i) (cdO (xg B 0 (j * w + i)) t)) 3 (xN B 0))
    rw [N1, N2, ← cntN_fg (N := w * g), ← cntN_fg (N := w * g) (G := fset (xg B 0) _ _)]
    have h3 := hs.2.2.1
    rw [show xg (setG A 1 (j * w + i) (cdO (xg A 1 (j * w + i)) t)) 1 = fset (xg A 1) (j * w + i) (cdO (xg A 1 (j * w + i)) t) from xg_wG _ _, show xg (setG B 0 (j * w + i) (cdO (xg B 0 (j * w + i)) t)) 0 = fset (xg B 0) (j * w + i) (cdO (xg B 0 (j * w + i)) t) from xg_wG _ _] at h3
    rw [h3]
  · rw [if_neg hd, if_neg (fun z => hd (q1.trans z))]
    exact ⟨rfl, h, rfl⟩
theorem RW.fills (h : RW w g A B) : an (sp_fill A 1) = an (sp_fill B 0) ∧ RW w g (sp_fill A 1).2.2 (sp_fill B 0).2.2 ∧ xnl (sp_fill A 1).2.2 = xnl A := by
  obtain ⟨⟨a1, a2, a3, a4⟩, ⟨⟨b1, b2⟩, b3, b4⟩, c1, d1⟩ := id h
  obtain ⟨N1, N2⟩ := h.N
  have e : flX A 1 = flR w g (w * g) (w * g) 1 (fl0 (xg A 1) (w * g)) 0 := by
    unfold flX
    rw [N1, b1, b2]
  have e2 : flX B 0 = flR w g (w * g) (w * g) 1 (fl0 (xg B 0) (w * g)) 0 := by
    unfold flX
    rw [N2, b3, b4]
  have f1 := flR_fg (w := w) (g := g) (N := w * g) (w * g) 1 (fl0 (xg A 1) (w * g)) 0
  have f2 := flR_fg (w := w) (g := g) (N := w * g) (w * g) 1 (fl0 (xg B 0) (w * g)) 0
  rw [← fl0_fg, c1, fl0_fg, f2, ← e, ← e2] at f1
  have g1 := congrArg (fun q => q.1) f1
  have g2 := congrArg (fun q => q.2) f1
  unfold sp_fill
  rw [if_pos h.pA, if_pos h.pB, tN0, tN1]
  refine ⟨congrArg nI g2.symm, ?_, rfl⟩
  have h2 := h.pic (L := xlo A) g1.symm
  show RW w g (xpl A 1 (xlo A) (flX A 1).1) (xpl B 0 (xlo B) (flX B 0).1)
  rw [← a4]
  exact h2
theorem RW.ds (h : RW w g A B) : dsX A 1 = dsX B 0 := by
  obtain ⟨⟨a1, a2, a3, a4⟩, ⟨⟨b1, b2⟩, b3, b4⟩, c1, d1⟩ := id h
  obtain ⟨N1, N2⟩ := h.N
  unfold dsX
  rw [N1, N2, b1, b2, b3, b4, a3, a4, ← dsT_fg, c1, dsT_fg]
theorem RW.designs (h : RW w g A B) : an (sp_design A 1) = an (sp_design B 0) ∧ RW w g (sp_design A 1).2.2 (sp_design B 0).2.2 ∧ xnl (sp_design A 1).2.2 = xnl A := by
  obtain ⟨N1, N2⟩ := h.N
  have e := h.ds
  unfold sp_design
  rw [if_pos h.pA, if_pos h.pB, tN0, tN1, e, N1, N2]
  exact ⟨rfl, h.pic rfl, rfl⟩
theorem RW.shares (h : RW w g A B) {a b : Int32} (ha : lotN A a) (hb : lotN A b) (hab : a ≠ b) : an (sp_share A 1 a b) = an (sp_share B 0 a b) ∧ RW w g (sp_share A 1 a b).2.2 (sp_share B 0 a b).2.2 ∧ xnl (sp_share A 1 a b).2.2 = xnl A := by
  obtain ⟨⟨a1, a2, a3, a4⟩, ⟨⟨b1, b2⟩, b3, b4⟩, c1, d1⟩ := id h
  obtain ⟨N1, N2⟩ := h.N
  have hl : ∀ x, lotN A x → lotN B x := fun x z => by
    have z : 0 ≤ x ∧ x < nI (xnl A) := z
    rw [a3] at z
    exact z
  have e : gvX A 1 (tN a) (tN b) = gvS (tN a) (tN b) w (xlo A) (xg A 1) (w * g) := by
    unfold gvX
    rw [N1, b1]
  have e2 : gvX B 0 (tN a) (tN b) = gvS (tN a) (tN b) w (xlo A) (xg B 0) (w * g) := by
    unfold gvX
    rw [N2, b3, a4]
  have f1 := gvS_fg (a := tN a) (b := tN b) (w := w) (L := xlo A) (G := xg A 1) (Nat.le_refl (w * g))
  have f2 := gvS_fg (a := tN a) (b := tN b) (w := w) (L := xlo A) (G := xg B 0) (Nat.le_refl (w * g))
  rw [c1, f2, ← e, ← e2] at f1
  have g1 := congrArg (fun q => q.1.1) f1
  have g2 := congrArg (fun q => q.1.2) f1
  have g3 := congrArg (fun q => q.2) f1
  unfold sp_share
  have cA : picN A 1 ∧ lotN A a ∧ lotN A b := ⟨h.pA, ha, hb⟩
  have cB : picN B 0 ∧ lotN B a ∧ lotN B b := ⟨h.pB, hl _ ha, hl _ hb⟩
  rw [if_pos cA, if_pos cB, if_neg hab, if_neg hab, tN0, tN1]
  refine ⟨congrArg nI g3.symm, ?_, rfl⟩
  show RW w g (xpl A 1 (gvX A 1 (tN a) (tN b)).1.1 (gvX A 1 (tN a) (tN b)).1.2) (xpl B 0 (gvX B 0 (tN a) (tN b)).1.1 (gvX B 0 (tN a) (tN b)).1.2)
  have g1 : (gvX B 0 (tN a) (tN b)).1.1 = (gvX A 1 (tN a) (tN b)).1.1 := g1
  rw [g1]
  exact h.pic g2.symm
theorem gvS_0 {a b w : Nat} {L : Nat → Ld} {G : Nat → Cd} (i : Nat) (h : ∀ k, k < i → (G k).1 ≠ 1) : gvS a b w L G i = ((L, G), 0) := by
  induction i with
  | zero => rfl
  | succ i ih =>
    unfold gvS
    rw [ih (fun k hk => h k (by omega))]
    dsimp only
    unfold gv1
    have hn : ¬ (((G i).1 = 1 ∧ clt (G i) = some a) ∧ (i % w + i / w) % 2 = 1 ∧ lth (L b) ≠ 0 ∧ 0 < llf (L b)) := fun z => h i (Nat.lt_succ_self _) z.1.1
    rw [if_neg hn] <;> rfl
theorem RW.share0 (h : RW w g A B) {a b : Int32} (ha : lotN A a) (hb : lotN A b) (hab : a ≠ b) : an (sp_share A 0 a b) = 0 ∧ (sp_share A 0 a b).2.2 = A := by
  have e : gvX A 0 (tN a) (tN b) = ((xlo A, xg A 0), 0) := gvS_0 _ h.2.2.2
  unfold sp_share
  have cA : picN A 0 ∧ lotN A a ∧ lotN A b := ⟨h.pA0, ha, hb⟩
  rw [if_pos cA, if_neg hab, tN0, e]
  exact ⟨rfl, xpl_id A 0⟩
theorem fcC_1 {w g k j : Nat} {G : Nat → Cd} {rd : Int32} : ((fcC w g G k rd).1 j).1 = (G j).1 := by
  unfold fcC
  split
  · rfl
  · by_cases hj : j = k
    · subst hj
      show (fset G j _ j).1 = _
      rw [fset_s]
      rfl
    · show (fset G k _ j).1 = _
      rw [fset_n hj]
theorem frS_1 {w g j : Nat} {G : Nat → Cd} {rd : Int32} (k : Nat) : ((frS w g G rd k).1 j).1 = (G j).1 := by
  induction k with
  | zero => rfl
  | succ k ih =>
    unfold frS
    split
    · exact fcC_1.trans ih
    · exact ih
theorem flR_1 {w g N j : Nat} (f : Nat) : ∀ (rd : Nat) (G : Nat → Cd) (c : Nat), ((flR w g N f rd G c).1 j).1 = (G j).1 ∧ (flR w g N f rd G c).2 ≤ c + f * N := by
  induction f with
  | zero => intro rd G c; exact ⟨rfl, by show c ≤ _; omega⟩
  | succ f ih =>
    intro rd G c
    have hl := frS_le w g G (nI rd) N
    unfold flR
    split
    · exact ⟨frS_1 N, by show c ≤ _; omega⟩
    · obtain ⟨h1, h2⟩ := ih (rd + 1) (frS w g G (nI rd) N).1 (c + (frS w g G (nI rd) N).2)
      refine ⟨h1.trans (frS_1 N), Nat.le_trans h2 ?_⟩
      rw [Nat.add_mul]
      omega
theorem fl0_1 {N j : Nat} {G : Nat → Cd} : (fl0 G N j).1 = (G j).1 := by
  unfold fl0
  split <;> rfl
theorem RW.fill0 (h : RW w g A B) (hN : xN A 0 ≤ 64) : 0 ≤ an (sp_fill A 0) ∧ RW w g (sp_fill A 0).2.2 B ∧ xnl (sp_fill A 0).2.2 = xnl A := by
  unfold sp_fill
  rw [if_pos h.pA0, tN0]
  obtain ⟨-, h2⟩ := flR_1 (w := xwd A 0) (g := xhg A 0) (N := xN A 0) (j := 0) (xN A 0) 1 (fl0 (xg A 0) (xN A 0)) 0
  refine ⟨?_, h.own (fun k hk => ?_), rfl⟩
  · have h3 : xN A 0 * xN A 0 ≤ 64 * 64 := Nat.mul_le_mul hN hN
    show 0 ≤ nI (flX A 0).2
    exact nI_pos' (by unfold flX; omega)
  · have h1 := (flR_1 (w := xwd A 0) (g := xhg A 0) (N := xN A 0) (j := k) (xN A 0) 1 (fl0 (xg A 0) (xN A 0)) 0).1
    show ((flX A 0).1 k).1 ≠ 1
    unfold flX
    rw [h1, fl0_1]
    exact h.2.2.2 k hk
/-- what a design leaves -/
def Des (w g : Nat) (A : XS) (t : Int32) : Prop := (dsX A 1).1 = xlo A ∧ fgG (dsX A 1).2 (w * g) = fgG (xg A 1) (w * g) ∧ t = nI (cntN (xg A 1) 1 (w * g))
theorem RW.des (h : RW w g A B) (hw : w ≤ 8) (hg : g ≤ 8) (h0 : ∀ k, k < w * g → (xg A 1 k).1 = 0 → clt (xg A 1 k) = none) : Des w g (sp_design A 1).2.2 (an (sp_design A 1)) := by
  obtain ⟨N1, -⟩ := h.N
  obtain ⟨-, ⟨⟨b1, b2⟩, -, -⟩, -⟩ := id h
  unfold sp_design
  rw [if_pos h.pA, tN1]
  have e : dsX (xpl A 1 (dsX A 1).1 (dsX A 1).2) 1 = dsX A 1 := by
    show dsT (xwd A 1) (xhg A 1) (xnl A) (xN A 1) (dsX A 1).1 (xg (xpl A 1 (dsX A 1).1 (dsX A 1).2) 1) = _
    rw [xg_pl]
    unfold dsX
    rw [N1, b1, b2]
    exact ds_twice hw hg h0
  show Des w g (xpl A 1 (dsX A 1).1 (dsX A 1).2) (nI (cntN (dsX A 1).2 1 (xN A 1)))
  refine ⟨congrArg (fun q => q.1) e, by rw [e, xg_pl], by rw [xg_pl, N1]⟩
/-- all the same, but what was brought -/
def BQ (p : Nat) (A A2 : XS) : Prop := ∃ G, A2 = xpl A p (xlo A) G ∧ fgG G (xN A p) = fgG (xg A p) (xN A p)
theorem BQ.rf {p : Nat} : BQ p A A := ⟨xg A p, (xpl_id A p).symm, rfl⟩
theorem BQ.tr {p : Nat} {A1 A2 : XS} (h1 : BQ p A A1) (h2 : BQ p A1 A2) : BQ p A A2 := by
  obtain ⟨G, rfl, e1⟩ := h1
  obtain ⟨G2, rfl, e2⟩ := h2
  refine ⟨G2, ?_, ?_⟩
  · show (A.1, _, _, _, fset (fset (xg A) p G) p G2, _) = (A.1, _, _, _, fset (xg A) p G2, _)
    rw [fset_fset]
    rfl
  · have e2 : fgG G2 (xN A p) = fgG (xg (xpl A p (xlo A) G) p) (xN A p) := e2
    rw [xg_pl] at e2
    exact e2.trans e1
theorem RW.bq (h : RW w g A B) {A2 B2 : XS} (h1 : BQ 1 A A2) (h2 : BQ 0 B B2) : RW w g A2 B2 := by
  obtain ⟨N1, N2⟩ := h.N
  obtain ⟨G, rfl, e1⟩ := h1
  obtain ⟨G2, rfl, e2⟩ := h2
  rw [N1] at e1
  rw [N2] at e2
  exact (h.one e1).two e2
theorem BQ.nl {p : Nat} {A2 : XS} (h : BQ p A A2) : xnl A2 = xnl A ∧ xlo A2 = xlo A := by
  obtain ⟨G, rfl, -⟩ := h
  exact ⟨rfl, rfl⟩
theorem Des.bq {t : Int32} (h : Des w g A t) (hR : RW w g A B) {A2 : XS} (hb : BQ 1 A A2) : Des w g A2 t := by
  obtain ⟨N1, -⟩ := hR.N
  obtain ⟨G, rfl, e1⟩ := hb
  rw [N1] at e1
  have e : dsX (xpl A 1 (xlo A) G) 1 = dsX A 1 := by
    show dsT (xwd A 1) (xhg A 1) (xnl A) (xN A 1) (xlo A) (xg (xpl A 1 (xlo A) G) 1) = dsT (xwd A 1) (xhg A 1) (xnl A) (xN A 1) (xlo A) (xg A 1)
    rw [xg_pl, N1, ← dsT_fg, e1, dsT_fg]
  obtain ⟨d1, d2, d3⟩ := h
  refine ⟨by rw [e]; exact d1, by rw [e, xg_pl, e1]; exact d2, ?_⟩
  rw [xg_pl, ← cntN_fg (N := w * g), e1, cntN_fg]
  exact d3
/-- the design once more -/
theorem RW.again (h : RW w g A B) {t : Int32} (hd : Des w g A t) : an (sp_design A 1) = t ∧ RW w g (sp_design A 1).2.2 B ∧ xnl (sp_design A 1).2.2 = xnl A := by
  obtain ⟨N1, -⟩ := h.N
  obtain ⟨d1, d2, d3⟩ := hd
  unfold sp_design
  rw [if_pos h.pA, tN1]
  refine ⟨?_, ?_, rfl⟩
  · show nI (cntN (dsX A 1).2 1 (xN A 1)) = t
    rw [d3, N1, ← cntN_fg (N := w * g), d2, cntN_fg]
  · show RW w g (xpl A 1 (dsX A 1).1 (dsX A 1).2) B
    rw [d1]
    exact h.one d2
/-- what is told -/
theorem RW.edges (h : RW w g A B) : an (sp_edge A 1) = an (sp_edge B 0) := by
  obtain ⟨⟨a1, a2, a3, a4⟩, ⟨⟨b1, b2⟩, b3, b4⟩, c1, d1⟩ := id h
  obtain ⟨N1, N2⟩ := h.N
  unfold sp_edge
  rw [if_pos h.pA, if_pos h.pB, tN0, tN1, N1, N2, b1, b2, b3, b4, a4, ← grS_fg (N := w * g), c1, grS_fg]
  rfl
theorem RW.ofC (h : RW w g A B) (hw : w ≤ 8) (hg : g ≤ 8) {i j : Nat} (hi : i < w) (hj : j < g) {t : Int32} (ht : t = 0 ∨ t = 2 ∨ t = 3) : an (sp_ofCell A 1 (nI i) (nI j) t) = an (sp_ofCell B 0 (nI i) (nI j) t) := by
  obtain ⟨n1, k1⟩ := h.cA hw hg hi hj
  obtain ⟨n2, k2⟩ := h.cB hw hg hi hj
  have hk := at_lt hi hj
  obtain ⟨q1, q2, q3, q4, q5⟩ := h.kind hk
  have ho : okR t 0 4 := by rcases ht with rfl | rfl | rfl <;> decide
  unfold sp_ofCell
  rw [if_pos n1, if_pos n2, if_pos ho, if_pos ho, k1, k2, tN0, tN1]
  show ofcV (xg A 1 (j * w + i)) t = ofcV (xg B 0 (j * w + i)) t
  unfold ofcV
  rw [q1, q2, q3, q4, q5]
theorem RW.ans (h : RW w g A B) (k : Nat) : anX A 1 k = anX B 0 k ∧ ∀ (_ : w ≤ 8) (_ : g ≤ 8), fgG (anX A 1 k) (w * g) = fgG (xg A 1) (w * g) := by
  obtain ⟨⟨a1, a2, a3, a4⟩, ⟨⟨b1, b2⟩, b3, b4⟩, c1, d1⟩ := id h
  obtain ⟨N1, N2⟩ := h.N
  unfold anX
  rw [N1, N2, b1, b2, b3, b4, a4, c1]
  refine ⟨rfl, fun hw hg => ?_⟩
  rw [fg_an hw hg, fg_fg]
theorem RW.aims (h : RW w g A B) (hw : w ≤ 8) (hg : g ≤ 8) {i j : Nat} (hi : i < w) (hj : j < g) : an (sp_aim A 1 (nI i) (nI j)) = an (sp_aim B 0 (nI i) (nI j)) ∧ BQ 1 A (sp_aim A 1 (nI i) (nI j)).2.2 ∧ BQ 0 B (sp_aim B 0 (nI i) (nI j)).2.2 := by
  obtain ⟨n1, k1⟩ := h.cA hw hg hi hj
  obtain ⟨n2, k2⟩ := h.cB hw hg hi hj
  obtain ⟨N1, N2⟩ := h.N
  obtain ⟨e, e2⟩ := h.ans (j * w + i)
  unfold sp_aim
  rw [if_pos n1, if_pos n2, k1, k2, tN0, tN1, ← e]
  refine ⟨rfl, ⟨_, rfl, ?_⟩, ⟨_, rfl, ?_⟩⟩
  · rw [N1]
    exact e2 hw hg
  · rw [N2, e2 hw hg]
    exact h.2.2.1
theorem RW.ofL (h : RW w g A B) {a t : Int32} : an (sp_ofLot A a t) = an (sp_ofLot B a t) := by
  obtain ⟨⟨a1, a2, a3, a4⟩, -⟩ := id h
  have e1 : lotN A a ↔ lotN B a := by
    show (0 ≤ a ∧ a < nI (xnl A)) ↔ (0 ≤ a ∧ a < nI (xnl B))
    rw [a3]
  unfold sp_ofLot
  by_cases hx : lotN A a
  · rw [if_pos hx, if_pos (e1.mp hx), a4]
    split <;> rfl
  · rw [if_neg hx, if_neg (fun z => hx (e1.mpr z))]
    rfl
/-- the old cells of the first's own picture -/
theorem cnt_set {G : Nat → Cd} {d : Cd} {k : Nat} (h1 : (G k).1 = 0) (h2 : d.1 = 3) (n : Nat) : cntN (fset G k d) 3 n = cntN G 3 n + (if k < n then 1 else 0) := by
  induction n with
  | zero => rfl
  | succ n ih =>
    rw [show cntN (fset G k d) 3 (n + 1) = cntN (fset G k d) 3 n + (if (fset G k d n).1 = 3 then 1 else 0) from rfl, show cntN G 3 (n + 1) = cntN G 3 n + (if (G n).1 = 3 then 1 else 0) from rfl, ih]
    by_cases hnk : n = k
    · subst hnk
      rw [fset_s, h1, h2, if_neg (Nat.lt_irrefl _), if_pos rfl, if_neg (by decide), if_pos (Nat.lt_succ_self _)]
    · rw [fset_n hnk]
      by_cases hlt : k < n
      · rw [if_pos hlt, if_pos (show k < n + 1 by omega)]
        omega
      · rw [if_neg hlt, if_neg (show ¬ k < n + 1 by omega)]
        omega
theorem cnt_0 {G : Nat → Cd} (h : ∀ k, (G k).1 ≠ 3) (n : Nat) : cntN G 3 n = 0 := by
  induction n with
  | zero => rfl
  | succ n ih =>
    unfold cntN
    rw [ih, if_neg (h n)]
def OL (k : Nat) (A : XS) : Prop := (xwd A 0 = 8 ∧ xhg A 0 = 8) ∧ cntN (xg A 0) 3 64 = k ∧ ∀ j, k ≤ j → j < 8 → (xg A 0 (j * 8 + j)).1 = 0
theorem RW.diag (h : RW w g A B) {k : Nat} (hk : k < 8) (ho : OL k A) : an (sp_old A 0 (nI k) (nI k) 9) = nI (k + 1) ∧ RW w g (sp_old A 0 (nI k) (nI k) 9).2.2 B ∧ OL (k + 1) (sp_old A 0 (nI k) (nI k) 9).2.2 ∧ xnl (sp_old A 0 (nI k) (nI k) 9).2.2 = xnl A := by
  obtain ⟨⟨o1, o2⟩, o3, o4⟩ := id ho
  have hN : xN A 0 = 64 := by show xwd A 0 * xhg A 0 = 64; rw [o1, o2]
  have n1 : celN A 0 (nI k) (nI k) := ⟨h.pA0, by rw [tN0, o1, o2]; exact isAt_nI (by decide) (by decide) hk hk⟩
  have k1 : celK A 0 (nI k) (nI k) = k * 8 + k := by
    show tN (nI k) * xwd A (tN 0) + tN (nI k) = _
    rw [tN0, o1, tN_nI (by omega)]
  have h0 := o4 k (Nat.le_refl _) hk
  unfold sp_old
  have ok9 : okR 9 0 255 := by decide
  rw [if_pos n1, if_pos ok9, k1, tN0, if_pos h0, hN]
  have hc : cntN (fset (xg A 0) (k * 8 + k) (cdO (xg A 0 (k * 8 + k)) 9)) 3 64 = k + 1 := by
    rw [cnt_set h0 rfl, o3, if_pos (by omega)]
  refine ⟨congrArg nI hc, h.own (G := fset (xg A 0) (k * 8 + k) (cdO (xg A 0 (k * 8 + k)) 9)) (fun j hj => ?_), ⟨⟨o1, o2⟩, ?_, fun j hj1 hj2 => ?_⟩, rfl⟩
  · by_cases hjk : j = k * 8 + k
    · rw [hjk, fset_s]
      show (3 : Int32) ≠ 1
      decide
    · rw [fset_n hjk]
      exact h.2.2.2 j hj
  · show cntN (xg (xpl A 0 (xlo A) (fset (xg A 0) (k * 8 + k) (cdO (xg A 0 (k * 8 + k)) 9))) 0) 3 64 = k + 1
    rw [xg_pl]
    exact hc
  · show (xg (xpl A 0 (xlo A) (fset (xg A 0) (k * 8 + k) (cdO (xg A 0 (k * 8 + k)) 9))) 0 (j * 8 + j)).1 = 0
    rw [xg_pl, fset_n (by omega)]
    exact o4 j (by omega) hj2
/-- the beginning -/
theorem st_pic {X : XS} {a b t : Nat} (ha1 : 1 ≤ a) (ha : a ≤ 8) (hb1 : 1 ≤ b) (hb : b ≤ 8) (ht : t ≤ 255) (hn : xnp X < 5) : sp_picture X (nI a) (nI b) (nI t) = (none, nI (xnp X), addP X a b (nI t)) := by
  have o1 : okR (nI a) 1 8 := ⟨(nI_leI (a := 1) (by decide) (by omega)).mpr ha1, (nI_leI (b := 8) (by omega) (by decide)).mpr ha⟩
  have o2 : okR (nI b) 1 8 := ⟨(nI_leI (a := 1) (by decide) (by omega)).mpr hb1, (nI_leI (b := 8) (by omega) (by decide)).mpr hb⟩
  have o3 : okR (nI t) 0 255 := ⟨nI_pos' (by omega), (nI_leI (b := 255) (by omega) (by decide)).mpr ht⟩
  unfold sp_picture
  rw [if_pos ⟨o1, o2, o3⟩, if_pos hn, tN_nI (by omega), tN_nI (by omega)]
theorem RW.st {t : Int32} : RW w g (addP (addP X00 8 8 t) w g 128) (addP X00 w g 128) ∧ OL 0 (addP (addP X00 8 8 t) w g 128) ∧ xnl (addP (addP X00 8 8 t) w g 128) = 0 := by
  refine ⟨⟨⟨rfl, rfl, rfl, rfl⟩, ⟨⟨rfl, rfl⟩, rfl, rfl⟩, rfl, fun k hk => (by decide : (0 : Int32) ≠ 1)⟩, ⟨⟨rfl, rfl⟩, cnt_0 (fun k => (by decide : (0 : Int32) ≠ 3)) 64, fun j _ _ => rfl⟩, rfl⟩
end PAIR
