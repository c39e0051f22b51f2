/-! what the calls answer and change: one value for the class and the reference -/
abbrev Sp := Option String × Int32 × XS
abbrev okR (x a b : Int32) : Prop := a ≤ x ∧ x ≤ b
abbrev lotN (X : XS) (x : Int32) : Prop := 0 ≤ x ∧ x < nI (xnl X)
abbrev picN (X : XS) (x : Int32) : Prop := 0 ≤ x ∧ x < nI (xnp X)
abbrev crewN (x : Int32) : Prop := 0 ≤ x ∧ x < nI 3
abbrev tN (x : Int32) : Nat := x.toNatClampNeg
abbrev celN (X : XS) (p x y : Int32) : Prop := picN X p ∧ isAt (xwd X (tN p)) (xhg X (tN p)) x y
abbrev celK (X : XS) (p x y : Int32) : Nat := tN y * xwd X (tN p) + tN x
def addL (X : XS) (d : Ld) : XS := ((xnl X + 1, xnp X, xnw X), fset (xlo X) (xnl X) d, X.2.2)
def addP (X : XS) (w g : Nat) (t : Int32) : XS := ((xnl X, xnp X + 1, xnw X), xlo X, fset (xwd X) (xnp X) w, fset (xhg X) (xnp X) g, fset (xg X) (xnp X) (fun _ => (0, none, t, FP.fconst0, FP.fconst0, 0, 0, 0)), xcr X)
def setG (X : XS) (p k : Nat) (d : Cd) : XS := wG X p (fset (xg X p) k d)
def setR (X : XS) (c : Nat) (d : Rw) : XS := wcr X (fset (xcr X) c d)
def sp_lot (X : XS) (a b c d : Int32) : Sp := if okR a 0 25500 ∧ okR b 1 500 ∧ okR c 0 1 then (if xnl X < 12 then (none, nI (xnl X), addL X (FP.fdiv (FP.i2f a) 1120403456, c, d, b, 0, 0)) else (some kIS, 0, X)) else (some kIA, 0, X)
def ldT (d : Ld) : Ld := (d.1, d.2.1, 1, d.2.2.2)
def sp_comes (X : XS) (x : Int32) : Sp := if lotN X x then (if lth (xlo X (tN x)) = 0 then (none, llf (xlo X (tN x)), wlo X (fset (xlo X) (tN x) (ldT (xlo X (tN x))))) else (some kIS, 0, X)) else (some kIO, 0, X)
def sp_picture (X : XS) (w g t : Int32) : Sp := if okR w 1 8 ∧ okR g 1 8 ∧ okR t 0 255 then (if xnp X < 5 then (none, nI (xnp X), addP X (tN w) (tN g) t) else (some kIS, 0, X)) else (some kIA, 0, X)
def sp_cell (X : XS) (p x y t : Int32) : Sp := if celN X p x y then (if okR t 0 255 then (if dn (xg X (tN p) (celK X p x y)) then (some kIS, 0, X) else (none, cwn (xg X (tN p) (celK X p x y)), setG X (tN p) (celK X p x y) (cdW (xg X (tN p) (celK X p x y)) t))) else (some kIA, 0, X)) else (some kIO, 0, X)
def cdO (d : Cd) (t : Int32) : Cd := (3, d.2.1, t, d.2.2.2)
def sp_old (X : XS) (p x y t : Int32) : Sp := if celN X p x y then (if okR t 0 255 then (if (xg X (tN p) (celK X p x y)).1 = 0 then (none, nI (cntN (fset (xg X (tN p)) (celK X p x y) (cdO (xg X (tN p) (celK X p x y)) t)) 3 (xN X (tN p))), setG X (tN p) (celK X p x y) (cdO (xg X (tN p) (celK X p x y)) t)) else (some kIS, 0, X)) else (some kIA, 0, X)) else (some kIO, 0, X)
def flX (X : XS) (p : Nat) : (Nat → Cd) × Nat := flR (xwd X p) (xhg X p) (xN X p) (xN X p) 1 (fl0 (xg X p) (xN X p)) 0
def sp_fill (X : XS) (p : Int32) : Sp := if picN X p then (none, nI (flX X (tN p)).2, xpl X (tN p) (xlo X) (flX X (tN p)).1) else (some kIO, 0, X)
def dsX (X : XS) (p : Nat) : (Nat → Ld) × (Nat → Cd) := dsT (xwd X p) (xhg X p) (xnl X) (xN X p) (xlo X) (xg X p)
def sp_design (X : XS) (p : Int32) : Sp := if picN X p then (none, nI (cntN (dsX X (tN p)).2 1 (xN X (tN p))), xpl X (tN p) (dsX X (tN p)).1 (dsX X (tN p)).2) else (some kIO, 0, X)
def gvX (X : XS) (p a b : Nat) : ((Nat → Ld) × (Nat → Cd)) × Nat := gvS a b (xwd X p) (xlo X) (xg X p) (xN X p)
def sp_share (X : XS) (p a b : Int32) : Sp := if picN X p ∧ lotN X a ∧ lotN X b then (if a = b then (some kIA, 0, X) else (none, nI (gvX X (tN p) (tN a) (tN b)).2, xpl X (tN p) (gvX X (tN p) (tN a) (tN b)).1.1 (gvX X (tN p) (tN a) (tN b)).1.2)) else (some kIO, 0, X)
def sp_send (X : XS) (c p : Int32) : Sp := if crewN c ∧ (p = -1 ∨ picN X p) then (none, olI (rpc (xcr X (tN c))), setR X (tN c) (rrt (xcr X (tN c)), rdy (xcr X (tN c)), (if p = -1 then none else some (tN p)), rmt (xcr X (tN c)), rtr (xcr X (tN c)), rld (xcr X (tN c)))) else (some kIO, 0, X)
def sp_crew (X : XS) (c a b : Int32) : Sp := if crewN c then (if okR a 1 9 ∧ okR b 0 9 then (none, rrt (xcr X (tN c)), setR X (tN c) (a, b, rpc (xcr X (tN c)), rmt (xcr X (tN c)), rtr (xcr X (tN c)), rld (xcr X (tN c)))) else (some kIA, 0, X)) else (some kIO, 0, X)
def sp_tray (X : XS) (c a : Int32) : Sp := if crewN c then (if okR a 0 1 then (none, nI (rtr (xcr X (tN c))).length, setR X (tN c) (rrt (xcr X (tN c)), rdy (xcr X (tN c)), rpc (xcr X (tN c)), a, [], rld (xcr X (tN c)))) else (some kIA, 0, X)) else (some kIO, 0, X)
def sp_load (X : XS) (c a : Int32) : Sp := if crewN c ∧ lotN X a then (if tN a ∈ rtr (xcr X (tN c)) then (none, 1, X) else if lmt (xlo X (tN a)) = rmt (xcr X (tN c)) ∧ (rtr (xcr X (tN c))).length < 4 then (none, 1, ldX X (tN c) (tN a)) else (none, 0, X)) else (some kIO, 0, X)
/-- a crew's hour -/
def crS (u : Int32) (S : XS × Nat) (c : Nat) : XS × Nat := (wcr (lfS c u (tN (rrt (xcr S.1 c))) S.1 0).1 (fset (xcr S.1) c (rrt (xcr S.1 c), rdy (xcr S.1 c), rpc (xcr S.1 c), rmt (xcr S.1 c), rtr (xcr S.1 c), rld (xcr S.1 c) + nI (lfS c u (tN (rrt (xcr S.1 c))) S.1 0).2)), S.2 + (lfS c u (tN (rrt (xcr S.1 c))) S.1 0).2)
def crN (u : Int32) (S : XS × Nat) : Nat → XS × Nat
  | 0 => S
  | c + 1 => crS u (crN u S c) c
def hrS (S : XS × Nat) : XS × Nat := crN (xnw S.1 + 1) (wnw S.1 (xnw S.1 + 1), S.2) 3
def psN (X : XS) : Nat → XS × Nat
  | 0 => (X, 0)
  | n + 1 => hrS (psN X n)
def sp_pass (X : XS) (a : Int32) : Sp := if okR a 1 100 then (none, nI (psN X (tN a)).2, (psN X (tN a)).1) else (some kIA, 0, X)
def sp_hour (X : XS) : Sp := (none, xnw X, X)
def ofcV (d : Cd) (t : Int32) : Int32 := if t = 0 then d.1 else if t = 1 then olI (clt d) else if t = 2 then cwn d else if t = 3 then (cam d).toInt32 else if d.1 = 2 then cla d else -1
def sp_ofCell (X : XS) (p x y t : Int32) : Sp := if celN X p x y then (if okR t 0 4 then (none, ofcV (xg X (tN p) (celK X p x y)) t, X) else (some kIA, 0, X)) else (some kIO, 0, X)
def anX (X : XS) (p k : Nat) : Nat → Cd := anS (xwd X p) (xhg X p) (xlo X) (fgG (xg X p) (xN X p)) k
def sp_aim (X : XS) (p x y : Int32) : Sp := if celN X p x y then (none, (FP.fadd (FP.i2f (cwn (anX X (tN p) (celK X p x y) (celK X p x y)))) (cbr (anX X (tN p) (celK X p x y) (celK X p x y)))).toInt32, xpl X (tN p) (xlo X) (anX X (tN p) (celK X p x y))) else (some kIO, 0, X)
def sp_edge (X : XS) (p : Int32) : Sp := if picN X p then (none, (grS (xwd X (tN p)) (xhg X (tN p)) (xlo X) (xg X (tN p)) (xN X (tN p))).toInt32, X) else (some kIO, 0, X)
def oflV (d : Ld) (t : Int32) : Int32 := if t = 0 then llf d else if t = 1 then lpm d else if t = 2 then lld d else if t = 3 then (if lth d = 0 then 0 else 1) else (ltn d).toInt32
def sp_ofLot (X : XS) (a t : Int32) : Sp := if lotN X a then (if okR t 0 4 then (none, oflV (xlo X (tN a)) t, X) else (some kIA, 0, X)) else (some kIO, 0, X)
def sp_ofPic (X : XS) (p t : Int32) : Sp := if picN X p then (if okR t 0 3 then (none, nI (cntN (xg X (tN p)) t (xN X (tN p))), X) else (some kIA, 0, X)) else (some kIO, 0, X)
def ofrV (d : Rw) (t : Int32) : Int32 := if t = 0 then olI (rpc d) else if t = 1 then rmt d else if t = 2 then nI (rtr d).length else rld d
def sp_ofCrew (X : XS) (c t : Int32) : Sp := if crewN c then (if okR t 0 3 then (none, ofrV (xcr X (tN c)) t, X) else (some kIA, 0, X)) else (some kIO, 0, X)
/-- cells that the class has none of -/
def fgn : va_E → Prop
  | .inr (i, _) => i = 5
  | .inl (_, _, .inl _) => True
  | .inl (_, _, .inr (.inl _)) => True
  | .inl (_, _, .inr (.inr (.inl _))) => True
  | .inl (_, _, .inr (.inr (.inr (.inl _)))) => True
  | .inl (_, _, .inr (.inr (.inr (.inr _)))) => False
theorem xct_ng {cA : Nat → ClassId} {Z : Nat → Nat → Nat} {X : XS} {ta : Nat → Nat → Option Nat} {a i : Nat} : ¬ fgn (xct cA Z X ta a i) := by
  match a with
  | 0 => match i with
    | 0 => exact (by decide : ¬ (4 : Nat) = 5)
    | 1 => exact fun z => z
    | 2 => exact fun z => z
    | i + 3 => exact fun z => z
  | 1 => exact (by decide : ¬ (2 : Nat) = 5)
  | 2 => exact (by decide : ¬ (3 : Nat) = 5)
  | 3 => exact fun z => z
  | 4 => exact (by decide : ¬ (1 : Nat) = 5)
  | 5 => exact fun z => z
  | p + 6 => exact (by decide : ¬ (0 : Nat) = 5)
theorem XR.notf {cA : Nat → ClassId} {Z : Nat → Nat → Nat} {X : XS} {ta : Nat → Nat → Option Nat} {h : hE} (r : XR cA Z X ta h) {q : Nat} {e : va_E} (he : h q = some e) (g : fgn e) : ∀ a i, xvd X a i → q ≠ Z a i := fun a i hv z => by
  have h1 := r.1 a i hv
  rw [← z, he] at h1
  cases h1
  exact xct_ng g
/-- what isn't this workshop's stays; what it has anew lay nowhere before -/
def zfr (Z : Nat → Nat → Nat) (X : XS) (Z2 : Nat → Nat → Nat) (Y : XS) (h h2 : hE) : Prop := hfr Z X h h2 ∧ ∀ a i, xvd Y a i → (∃ b j, xvd X b j ∧ Z2 a i = Z b j) ∨ h (Z2 a i) = none
theorem ffr.rf {Z : Nat → Nat → Nat} {X : XS} {h : hE} : zfr Z X Z X h h := ⟨hfr.rf, fun a i hv => Or.inl ⟨a, i, hv, rfl⟩⟩
theorem XR.ffr {cA : Nat → ClassId} {Z : Nat → Nat → Nat} {X Y : XS} {ta : Nat → Nat → Option Nat} {h h2 : hE} (_ : XR cA Z X ta h) (f : hfr Z X h h2) (hv : xvd Y = xvd X := by first | rfl | exact xvd_xpl | exact xvd_wlo _ | exact xvd_wG _ _ | exact xvd_wcr _) : zfr Z X Z Y h h2 := ⟨f, fun a i h1 => Or.inl ⟨a, i, hv ▸ h1, rfl⟩⟩
def Pst (cA : Nat → ClassId) (Z : Nat → Nat → Nat) (X : XS) (h : hE) (sp : Sp) : Option Value → hE → Prop := fun v h2 => sp.1 = none ∧ v = some (.int sp.2.1) ∧ ∃ Z2 ta2, XR cA Z2 sp.2.2 ta2 h2 ∧ tyv Z2 sp.2.2 ta2 ∧ Z2 0 0 = Z 0 0 ∧ zfr Z X Z2 sp.2.2 h h2
def Psx (h : hE) (sp : Sp) : String → hE → Prop := fun E h2 => sp.1 = some E ∧ h2 = h
theorem XR.ext {cA : Nat → ClassId} {Z Z' : Nat → Nat → Nat} {X X' : XS} {ta ta' : Nat → Nat → Option Nat} {h h2 : hE} (r : XR cA Z X ta h) (N : Nat → Nat → Prop) (hN : ∀ A i, N A i → h (Z' A i) = none) (hNi : ∀ A i B j, N A i → N B j → Z' A i = Z' B j → A = B ∧ i = j) (hO : ∀ A i, xvd X' A i → ¬ N A i → xvd X A i ∧ Z' A i = Z A i) (hc : ∀ A i, xvd X' A i → h2 (Z' A i) = some (xct cA Z' X' ta' A i)) : XR cA Z' X' ta' h2 := by
  refine ⟨hc, fun A i B j hA hB hz => ?_⟩
  by_cases nA : N A i <;> by_cases nB : N B j
  · exact hNi A i B j nA nB hz
  · obtain ⟨v, e⟩ := hO B j hB nB
    have := r.1 B j v
    rw [← e, ← hz, hN A i nA] at this
    cases this
  · obtain ⟨v, e⟩ := hO A i hA nA
    have := r.1 A i v
    rw [← e, hz, hN B j nB] at this
    cases this
  · obtain ⟨v, e⟩ := hO A i hA nA
    obtain ⟨v2, e2⟩ := hO B j hB nB
    rw [e, e2] at hz
    exact r.2 A i B j v v2 hz
def zset (Z : Nat → Nat → Nat) (a i q : Nat) : Nat → Nat → Nat := fun A j => if A = a ∧ j = i then q else Z A j
theorem XR.addLot {cA : Nat → ClassId} {Z : Nat → Nat → Nat} {X : XS} {ta : Nat → Nat → Option Nat} {h h2 : hE} (r : XR cA Z X ta h) (hI : LI X) {q : Nat} (hq : h q = none) (d : Ld) (e0 : h2 (Z 0 0) = some (rowO (Z 0 1) (Z 0 2) (Z 0 3) (nI (xnl X + 1)) (nI (xnp X)) (xnw X))) (e1 : h2 (Z 0 1) = some (qarr (cA 4) 12 (fset (qfun Z 1 (xnl X)) (xnl X) (some q)))) (e2 : h2 q = some (lotC (xnl X) d)) (e3 : ∀ a e, h a = some e → a ≠ Z 0 0 → a ≠ Z 0 1 → h2 a = some e) : XR cA (zset Z 1 (xnl X) q) (addL X d) ta h2 := by
  have zn : ∀ {A j}, ¬ (A = 1 ∧ j = xnl X) → zset Z 1 (xnl X) q A j = Z A j := fun hn => if_neg hn
  have v0 : ∀ i, i < 4 → xvd X 0 i := fun i hi => hi
  have old : ∀ A i, xvd X A i → (A ≠ 0 ∨ 2 ≤ i) → h2 (Z A i) = some (xct cA Z X ta A i) := fun A i hv hn => e3 _ _ (r.1 A i hv) (fun z => by have := r.2 A i 0 0 hv (v0 0 (by decide)) z; omega) (fun z => by have := r.2 A i 0 1 hv (v0 1 (by decide)) z; omega)
  refine r.ext (fun A i => A = 1 ∧ i = xnl X) ?_ ?_ ?_ ?_
  · rintro A i ⟨rfl, rfl⟩
    rw [show zset Z 1 (xnl X) q 1 (xnl X) = q from if_pos ⟨rfl, rfl⟩]
    exact hq
  · rintro A i B j ⟨rfl, rfl⟩ ⟨rfl, rfl⟩ _
    exact ⟨rfl, rfl⟩
  · intro A i hv hn
    refine ⟨?_, zn hn⟩
    match A with
    | 0 => exact hv
    | 1 =>
      have hv : i < xnl X + 1 := hv
      have : ¬ i = xnl X := fun z => hn ⟨rfl, z⟩
      show i < xnl X
      omega
    | 2 => exact hv
    | 3 => exact hv
    | 4 => exact hv
    | 5 => exact hv
    | p + 6 => exact hv
  · intro A i hv
    match A with
    | 0 => match i with
      | 0 => exact e0
      | 1 =>
        rw [zn (by omega), e1]
        have : fset (qfun Z 1 (xnl X)) (xnl X) (some q) = qfun (zset Z 1 (xnl X) q) 1 (xnl X + 1) := by
          funext j
          unfold fset qfun zset
          by_cases hj : j = xnl X
          · subst hj
            simp
          · by_cases hj2 : j < xnl X
            · simp [hj, hj2, show j < xnl X + 1 by omega]
            · simp [hj, hj2, show ¬ j < xnl X + 1 by omega]
        rw [this]
        rfl
      | 2 => exact old 0 2 (by exact hv) (Or.inr (by omega))
      | i + 3 => exact old 0 (i + 3) (by exact hv) (Or.inr (by omega))
    | 1 =>
      by_cases hi : i = xnl X
      · subst hi
        rw [show zset Z 1 (xnl X) q 1 (xnl X) = q from if_pos ⟨rfl, rfl⟩, e2]
        show _ = some (lotC (xnl X) (fset (xlo X) (xnl X) d (xnl X)))
        rw [fset_s]
      · have hv : i < xnl X + 1 := hv
        rw [zn (by omega), old 1 i (show i < xnl X by omega) (Or.inl (by decide))]
        show _ = some (lotC i (fset (xlo X) (xnl X) d i))
        rw [fset_n hi]
        rfl
    | 2 => exact old 2 i hv (Or.inl (by decide))
    | 3 => exact old 3 i hv (Or.inl (by decide))
    | 4 => exact old 4 i hv (Or.inl (by decide))
    | 5 => exact old 5 i hv (Or.inl (by decide))
    | p + 6 =>
      have hv : p < xnp X ∧ i < xN X p := hv
      rw [zn (by omega), old (p + 6) i hv (Or.inl (by omega))]
      show some (cellC Z (xwd X p) i (xg X p i)) = some (cellC (zset Z 1 (xnl X) q) (xwd X p) i (xg X p i))
      cases hb : clt (xg X p i) with
      | none => rw [cellC_e (Z := Z) rfl hb, cellC_e (Z := zset Z 1 (xnl X) q) rfl hb]; rfl
      | some b =>
        have := ((hI.2.1 p hv.1).1 i hv.2).1 b hb
        rw [cellC_e (Z := Z) rfl hb, cellC_e (Z := zset Z 1 (xnl X) q) rfl hb]
        show some (cellO _ _ _ (some (Z 1 b)) _ _ _ _ _ _) = some (cellO _ _ _ (some (zset Z 1 (xnl X) q 1 b)) _ _ _ _ _ _)
        rw [zn (by omega)]
theorem tyv.addLot {Z : Nat → Nat → Nat} {X : XS} {ta : Nat → Nat → Option Nat} (t : tyv Z X ta) (q : Nat) (d : Ld) : tyv (zset Z 1 (xnl X) q) (addL X d) ta := fun c hc => by
  obtain ⟨t1, t2, t3⟩ := t c hc
  refine ⟨t1, fun b hb => Nat.lt_succ_of_lt (t2 b hb), fun i b hi => ?_⟩
  have := t2 b (List.mem_of_getElem? hi)
  rw [t3 i b hi, show zset Z 1 (xnl X) q 1 b = Z 1 b from if_neg (by omega)]
theorem XR.addPic {cA : Nat → ClassId} {Z : Nat → Nat → Nat} {X : XS} {ta : Nat → Nat → Option Nat} {h h1 h2 : hE} (r : XR cA Z X ta h) (hI : LI X) {q a w g : Nat} {zc : Nat → Nat} {t : Int32} (hq : h q = none) (e0 : h2 (Z 0 0) = some (rowO (Z 0 1) (Z 0 2) (Z 0 3) (nI (xnl X)) (nI (xnp X + 1)) (xnw X))) (e1 : h2 (Z 0 2) = some (qarr (cA 5) 5 (fset (qfun Z 2 (xnp X)) (xnp X) (some q)))) (hm : mkP cA h h1 q a (xnp X) w g t (w * g) zc) (ha : ∀ r e, h1 r = some e → r ≠ Z 0 0 → r ≠ Z 0 2 → h2 r = some e) : XR cA (fun A j => if A = 2 ∧ j = xnp X then q else if A = 3 ∧ j = xnp X then a else if A = xnp X + 6 then zc j else Z A j) (addP X w g t) ta h2 := by
  obtain ⟨m1, m2, m3, m4, m5, m6⟩ := hm
  obtain ⟨Z', hZ'⟩ : ∃ Z' : Nat → Nat → Nat, Z' = fun A j => if A = 2 ∧ j = xnp X then q else if A = 3 ∧ j = xnp X then a else if A = xnp X + 6 then zc j else Z A j := ⟨_, rfl⟩
  rw [← hZ']
  have z2 : Z' 2 (xnp X) = q := by rw [hZ']; simp
  have z3 : Z' 3 (xnp X) = a := by rw [hZ']; simp
  have z6 : ∀ j, Z' (xnp X + 6) j = zc j := fun j => by rw [hZ']; simp
  have zn : ∀ {A j}, ¬ (A = 2 ∧ j = xnp X) → ¬ (A = 3 ∧ j = xnp X) → ¬ A = xnp X + 6 → Z' A j = Z A j := fun h1 h2 h3 => by rw [hZ']; simp [h1, h2, h3]
  have v0 : ∀ i, i < 4 → xvd X 0 i := fun i hi => hi
  have hv0 : ∀ i, i < 4 → ∃ e, h (Z 0 i) = some e := fun i hi => ⟨_, r.1 0 i (v0 i hi)⟩
  have fresh : ∀ b, h b = none → b ≠ Z 0 0 ∧ b ≠ Z 0 2 := fun b hb => ⟨(fun z => by obtain ⟨e, he⟩ := hv0 0 (by decide); rw [← z, hb] at he; cases he), (fun z => by obtain ⟨e, he⟩ := hv0 2 (by decide); rw [← z, hb] at he; cases he)⟩
  have old : ∀ A i, xvd X A i → (A ≠ 0 ∨ i ≠ 0 ∧ i ≠ 2) → h2 (Z A i) = some (xct cA Z X ta A i) := fun A i hv hn => ha _ _ (m5 _ _ (r.1 A i hv) (fun z => by have := r.1 A i hv; rw [z, hq] at this; cases this)) (fun z => by have := r.2 A i 0 0 hv (v0 0 (by decide)) z; omega) (fun z => by have := r.2 A i 0 2 hv (v0 2 (by decide)) z; omega)
  have hwg : ∀ p, p ≠ xnp X → xN (addP X w g t) p = xN X p := fun p hp => by
    show fset (xwd X) (xnp X) w p * fset (xhg X) (xnp X) g p = _
    rw [fset_n hp, fset_n hp]
  have hwg2 : xN (addP X w g t) (xnp X) = w * g := by
    show fset (xwd X) (xnp X) w (xnp X) * fset (xhg X) (xnp X) g (xnp X) = _
    rw [fset_s, fset_s]
  refine r.ext (fun A i => (A = 2 ∧ i = xnp X) ∨ (A = 3 ∧ i = xnp X) ∨ (A = xnp X + 6 ∧ i < w * g)) ?_ ?_ ?_ ?_
  · rintro A i (⟨rfl, rfl⟩ | ⟨rfl, rfl⟩ | ⟨rfl, hi⟩)
    · rw [z2]; exact hq
    · rw [z3]; exact m6
    · rw [z6]; exact (m3 i hi).2
  · rintro A i B j (⟨rfl, rfl⟩ | ⟨rfl, rfl⟩ | ⟨rfl, hi⟩) (⟨rfl, rfl⟩ | ⟨rfl, rfl⟩ | ⟨rfl, hj⟩) hz
    · exact ⟨rfl, rfl⟩
    · rw [z2, z3] at hz; exact absurd hz (ne_arr m1 m2)
    · rw [z2, z6] at hz; exact absurd hz (ne_kinds m1 (m3 j hj).1 (by decide))
    · rw [z2, z3] at hz; exact absurd hz.symm (ne_arr m1 m2)
    · exact ⟨rfl, rfl⟩
    · rw [z3, z6] at hz; exact absurd hz.symm (ne_arr (m3 j hj).1 m2)
    · rw [z2, z6] at hz; exact absurd hz.symm (ne_kinds m1 (m3 i hi).1 (by decide))
    · rw [z3, z6] at hz; exact absurd hz (ne_arr (m3 i hi).1 m2)
    · rw [z6, z6] at hz; exact ⟨rfl, m4 i j hi hj hz⟩
  · intro A i hv hn
    match A with
    | 0 => exact ⟨hv, zn (by omega) (by omega) (by omega)⟩
    | 1 => exact ⟨hv, zn (by omega) (by omega) (by omega)⟩
    | 2 =>
      have hv : i < xnp X + 1 := hv
      have : ¬ i = xnp X := fun z => hn (Or.inl ⟨rfl, z⟩)
      exact ⟨show i < xnp X by omega, zn (by omega) (by omega) (by omega)⟩
    | 3 =>
      have hv : i < xnp X + 1 := hv
      have : ¬ i = xnp X := fun z => hn (Or.inr (Or.inl ⟨rfl, z⟩))
      exact ⟨show i < xnp X by omega, zn (by omega) (by omega) (by omega)⟩
    | 4 => exact ⟨hv, zn (by omega) (by omega) (by omega)⟩
    | 5 => exact ⟨hv, zn (by omega) (by omega) (by omega)⟩
    | p + 6 =>
      have hv : p < xnp X + 1 ∧ i < xN (addP X w g t) p := hv
      by_cases hp : p = xnp X
      · subst hp
        rw [hwg2] at hv
        exact absurd (Or.inr (Or.inr ⟨rfl, hv.2⟩)) hn
      · rw [hwg p hp] at hv
        exact ⟨⟨by omega, hv.2⟩, zn (by omega) (by omega) (by omega)⟩
  · have x1 : ∀ i, Z' 1 i = Z 1 i := fun i => zn (by omega) (by omega) (by omega)
    have x1f : Z' 1 = Z 1 := funext x1
    intro A i hv
    match A with
    | 0 => match i with
      | 0 =>
        rw [zn (by omega) (by omega) (by omega), e0]
        show _ = some (rowO (Z' 0 1) (Z' 0 2) (Z' 0 3) _ _ _)
        rw [zn (by omega) (by omega) (by omega), zn (by omega) (by omega) (by omega), zn (by omega) (by omega) (by omega)]
        rfl
      | 1 =>
        rw [zn (by omega) (by omega) (by omega), old 0 1 (by exact hv) (Or.inr (by omega))]
        show some (qarr (cA 4) 12 (qfun Z 1 (xnl X))) = some (qarr (cA 4) 12 (qfun Z' 1 (xnl X)))
        unfold qfun
        rw [x1f]
      | 2 =>
        rw [zn (by omega) (by omega) (by omega), e1]
        have : fset (qfun Z 2 (xnp X)) (xnp X) (some q) = qfun Z' 2 (xnp X + 1) := by
          funext j
          unfold fset qfun
          by_cases hj : j = xnp X
          · subst hj
            simp [z2]
          · by_cases hj2 : j < xnp X
            · simp [hj, hj2, show j < xnp X + 1 by omega, zn (A := 2) (j := j) (by omega) (by omega) (by omega)]
            · simp [hj, hj2, show ¬ j < xnp X + 1 by omega]
        rw [this]
        rfl
      | i + 3 =>
        rw [zn (by omega) (by omega) (by omega), old 0 (i + 3) (by exact hv) (Or.inr (by omega))]
        show some (qarr (cA 6) 3 (qfun Z 4 3)) = some (qarr (cA 6) 3 (qfun Z' 4 3))
        have : Z' 4 = Z 4 := funext fun i => zn (by omega) (by omega) (by omega)
        unfold qfun
        rw [this]
    | 1 =>
      rw [zn (by omega) (by omega) (by omega), old 1 i hv (Or.inl (by decide))]
      rfl
    | 2 =>
      by_cases hi : i = xnp X
      · subst hi
        rw [z2, ha _ _ m1 (fresh q hq).1 (fresh q hq).2]
        show _ = some (picO (nI (xnp X)) (nI (fset (xwd X) (xnp X) w (xnp X))) (nI (fset (xhg X) (xnp X) g (xnp X))) (Z' 3 (xnp X)))
        rw [fset_s, fset_s, z3]
      · have hv : i < xnp X + 1 := hv
        rw [zn (by omega) (by omega) (by omega), old 2 i (show i < xnp X by omega) (Or.inl (by decide))]
        show some (picO _ _ _ _) = some (picO (nI i) (nI (fset (xwd X) (xnp X) w i)) (nI (fset (xhg X) (xnp X) g i)) (Z' 3 i))
        rw [fset_n hi, fset_n hi, zn (by omega) (by omega) (by omega)]
    | 3 =>
      by_cases hi : i = xnp X
      · subst hi
        rw [z3, ha _ _ m2 (fresh a m6).1 (fresh a m6).2]
        show _ = some (qarr (cA 7) (xN (addP X w g t) (xnp X)) (qfun Z' (xnp X + 6) (xN (addP X w g t) (xnp X))))
        rw [hwg2]
        unfold qfun
        have : Z' (xnp X + 6) = zc := funext z6
        rw [this]
      · have hv : i < xnp X + 1 := hv
        rw [zn (by omega) (by omega) (by omega), old 3 i (show i < xnp X by omega) (Or.inl (by decide))]
        show some (qarr (cA 7) (xN X i) (qfun Z (i + 6) (xN X i))) = some (qarr (cA 7) (xN (addP X w g t) i) (qfun Z' (i + 6) (xN (addP X w g t) i)))
        rw [hwg i hi]
        unfold qfun
        have : Z' (i + 6) = Z (i + 6) := funext fun j => zn (by omega) (by omega) (by omega)
        rw [this]
    | 4 =>
      rw [zn (by omega) (by omega) (by omega), old 4 i hv (Or.inl (by decide))]
      show some (crewO _ _ ((rpc (xcr X i)).map (Z 2)) _ (Z 5 i) _ _) = some (crewO _ _ ((rpc (xcr X i)).map (Z' 2)) _ (Z' 5 i) _ _)
      rw [zn (A := 5) (by omega) (by omega) (by omega)]
      cases hb : rpc (xcr X i) with
      | none => rfl
      | some p2 =>
        have := hI.2.2 i hv p2 hb
        show some (crewO _ _ (some (Z 2 p2)) _ _ _ _) = some (crewO _ _ (some (Z' 2 p2)) _ _ _ _)
        rw [zn (by omega) (by omega) (by omega)]
        rfl
    | 5 =>
      rw [zn (by omega) (by omega) (by omega), old 5 i hv (Or.inl (by decide))]
      rfl
    | p + 6 =>
      have hv : p < xnp X + 1 ∧ i < xN (addP X w g t) p := hv
      by_cases hp : p = xnp X
      · subst hp
        rw [hwg2] at hv
        obtain ⟨u1, u2⟩ := m3 i hv.2
        rw [z6, ha _ _ u1 (fresh _ u2).1 (fresh _ u2).2]
        show _ = some (cellC Z' (fset (xwd X) (xnp X) w (xnp X)) i (fset (xg X) (xnp X) (fun _ => (0, none, t, FP.fconst0, FP.fconst0, 0, 0, 0)) (xnp X) i))
        rw [fset_s, fset_s]
        rfl
      · rw [hwg p hp] at hv
        rw [zn (by omega) (by omega) (by omega), old (p + 6) i ⟨by omega, hv.2⟩ (Or.inl (by omega))]
        show some (cellC Z (xwd X p) i (xg X p i)) = some (cellC Z' (fset (xwd X) (xnp X) w p) i (fset (xg X) (xnp X) _ p i))
        rw [fset_n hp, fset_n hp]
        show some (cellO _ _ _ ((clt (xg X p i)).map (Z 1)) _ _ _ _ _ _) = some (cellO _ _ _ ((clt (xg X p i)).map (Z' 1)) _ _ _ _ _ _)
        rw [x1f]

theorem zfr.addLot {Z : Nat → Nat → Nat} {X : XS} {h h2 : hE} {q : Nat} {d : Ld} (hf : hfr Z X h h2) (hq : h q = none) : zfr Z X (zset Z 1 (xnl X) q) (addL X d) h h2 := by
  refine ⟨hf, fun A i hv => ?_⟩
  by_cases hz : A = 1 ∧ i = xnl X
  · exact Or.inr (by rw [show zset Z 1 (xnl X) q A i = q from if_pos hz]; exact hq)
  · refine Or.inl ⟨A, i, ?_, if_neg hz⟩
    match A with
    | 0 => exact hv
    | 1 =>
      have hv : i < xnl X + 1 := hv
      have : ¬ i = xnl X := fun z => hz ⟨rfl, z⟩
      show i < xnl X
      omega
    | 2 => exact hv
    | 3 => exact hv
    | 4 => exact hv
    | 5 => exact hv
    | p + 6 => exact hv
theorem zfr.addPic {cA : Nat → ClassId} {Z : Nat → Nat → Nat} {X : XS} {h h1 h2 : hE} {q a w g : Nat} {t : Int32} {zc : Nat → Nat} (hf : hfr Z X h h2) (hq : h q = none) (hm : mkP cA h h1 q a (xnp X) w g t (w * g) zc) : zfr Z X (fun A j => if A = 2 ∧ j = xnp X then q else if A = 3 ∧ j = xnp X then a else if A = xnp X + 6 then zc j else Z A j) (addP X w g t) h h2 := by
  obtain ⟨m1, m2, m3, m4, m5, m6⟩ := hm
  refine ⟨hf, fun A i hv => ?_⟩
  by_cases z2 : A = 2 ∧ i = xnp X
  · exact Or.inr (by dsimp only; rw [if_pos z2]; exact hq)
  by_cases z3 : A = 3 ∧ i = xnp X
  · exact Or.inr (by dsimp only; rw [if_neg z2, if_pos z3]; exact m6)
  by_cases z6 : A = xnp X + 6
  · subst z6
    have hv : xnp X < xnp X + 1 ∧ i < fset (xwd X) (xnp X) w (xnp X) * fset (xhg X) (xnp X) g (xnp X) := hv
    rw [fset_s, fset_s] at hv
    exact Or.inr (by dsimp only; rw [if_neg z2, if_neg z3, if_pos rfl]; exact (m3 i hv.2).2)
  · refine Or.inl ⟨A, i, ?_, by dsimp only; rw [if_neg z2, if_neg z3, if_neg z6]⟩
    match A with
    | 0 => exact hv
    | 1 => exact hv
    | 2 =>
      have hv : i < xnp X + 1 := hv
      have : ¬ i = xnp X := fun z => z2 ⟨rfl, z⟩
      show i < xnp X
      omega
    | 3 =>
      have hv : i < xnp X + 1 := hv
      have : ¬ i = xnp X := fun z => z3 ⟨rfl, z⟩
      show i < xnp X
      omega
    | 4 => exact hv
    | 5 => exact hv
    | p + 6 =>
      have hv : p < xnp X + 1 ∧ i < fset (xwd X) (xnp X) w p * fset (xhg X) (xnp X) g p := hv
      have hp : ¬ p = xnp X := fun z => z6 (by rw [z])
      rw [fset_n hp, fset_n hp] at hv
      exact ⟨by omega, hv.2⟩
