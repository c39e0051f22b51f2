/-! the class's world: what it is in numbers (XS), and where it lies (Z) -/
/-- a lot: tone, material, there, left, promised, laid -/
abbrev Ld := UInt32 × Int32 × Int32 × Int32 × Int32 × Int32
/-- a cell: kind, lot, wanted, aim, brought, round, laidAt, dryAt -/
abbrev Cd := Int32 × Option Nat × Int32 × UInt32 × UInt32 × Int32 × Int32 × Int32
/-- a crew: rate, dry, picture, material, tray, laid -/
abbrev Rw := Int32 × Int32 × Option Nat × Int32 × List Nat × Int32
/-- lots, pictures, hour; lots; widths, heights, cells; crews -/
abbrev XS := (Nat × Nat × Int32) × (Nat → Ld) × (Nat → Nat) × (Nat → Nat) × (Nat → Nat → Cd) × (Nat → Rw)
abbrev xnl (X : XS) : Nat := X.1.1
abbrev xnp (X : XS) : Nat := X.1.2.1
abbrev xnw (X : XS) : Int32 := X.1.2.2
abbrev xlo (X : XS) : Nat → Ld := X.2.1
abbrev xwd (X : XS) : Nat → Nat := X.2.2.1
abbrev xhg (X : XS) : Nat → Nat := X.2.2.2.1
abbrev xg (X : XS) : Nat → Nat → Cd := X.2.2.2.2.1
abbrev xcr (X : XS) : Nat → Rw := X.2.2.2.2.2
abbrev xN (X : XS) (p : Nat) : Nat := xwd X p * xhg X p
def fset {α : Type} (f : Nat → α) (k : Nat) (v : α) : Nat → α := fun j => if j = k then v else f j
theorem fset_s {α : Type} (f : Nat → α) (k : Nat) (v : α) : fset f k v k = v := if_pos rfl
theorem fset_n {α : Type} {f : Nat → α} {k j : Nat} {v : α} (h : j ≠ k) : fset f k v j = f j := if_neg h
theorem fset_id {α : Type} {f : Nat → α} {k : Nat} {v : α} (h : f k = v) : fset f k v = f := by
  funext j
  by_cases hj : j = k
  · rw [hj, fset_s, h]
  · rw [fset_n hj]
theorem fset_fset {α : Type} (f : Nat → α) (k : Nat) (v w : α) : fset (fset f k v) k w = fset f k w := by
  funext j
  by_cases hj : j = k
  · rw [hj, fset_s, fset_s]
  · rw [fset_n hj, fset_n hj, fset_n hj]
def wlo (X : XS) (f : Nat → Ld) : XS := (X.1, f, X.2.2)
def wG (X : XS) (p : Nat) (G : Nat → Cd) : XS := (X.1, xlo X, xwd X, xhg X, fset (xg X) p G, xcr X)
def wcr (X : XS) (f : Nat → Rw) : XS := (X.1, xlo X, xwd X, xhg X, xg X, f)
def wnw (X : XS) (v : Int32) : XS := ((xnl X, xnp X, v), X.2)
abbrev cellC (Z : Nat → Nat → Nat) (w k : Nat) (d : Cd) : va_E := cellO (nI (k % w)) (nI (k / w)) d.1 (d.2.1.map (Z 1)) d.2.2.1 d.2.2.2.1 d.2.2.2.2.1 d.2.2.2.2.2.1 d.2.2.2.2.2.2.1 d.2.2.2.2.2.2.2
abbrev lotC (k : Nat) (d : Ld) : va_E := lotO (nI k) d.1 d.2.1 d.2.2.1 d.2.2.2.1 d.2.2.2.2.1 d.2.2.2.2.2
abbrev crewC (Z : Nat → Nat → Nat) (c : Nat) (d : Rw) : va_E := crewO d.1 d.2.1 (d.2.2.1.map (Z 2)) d.2.2.2.1 (Z 5 c) (nI d.2.2.2.2.1.length) d.2.2.2.2.2
abbrev qfun (Z : Nat → Nat → Nat) (a n : Nat) : Nat → Option Nat := fun i => if i < n then some (Z a i) else none
def xct (cA : Nat → ClassId) (Z : Nat → Nat → Nat) (X : XS) (ta : Nat → Nat → Option Nat) : Nat → Nat → va_E
  | 0, 0 => rowO (Z 0 1) (Z 0 2) (Z 0 3) (nI (xnl X)) (nI (xnp X)) (xnw X)
  | 0, 1 => qarr (cA 4) 12 (qfun Z 1 (xnl X))
  | 0, 2 => qarr (cA 5) 5 (qfun Z 2 (xnp X))
  | 0, _ => qarr (cA 6) 3 (qfun Z 4 3)
  | 1, k => lotC k (xlo X k)
  | 2, p => picO (nI p) (nI (xwd X p)) (nI (xhg X p)) (Z 3 p)
  | 3, p => qarr (cA 7) (xN X p) (qfun Z (p + 6) (xN X p))
  | 4, c => crewC Z c (xcr X c)
  | 5, c => qarr (cA 4) 4 (ta c)
  | p + 6, k => cellC Z (xwd X p) k (xg X p k)
def xvd (X : XS) : Nat → Nat → Prop
  | 0, i => i < 4
  | 1, k => k < xnl X
  | 2, p => p < xnp X
  | 3, p => p < xnp X
  | 4, c => c < 3
  | 5, c => c < 3
  | p + 6, k => p < xnp X ∧ k < xN X p
def XR (cA : Nat → ClassId) (Z : Nat → Nat → Nat) (X : XS) (ta : Nat → Nat → Option Nat) (h : hE) : Prop :=
  (∀ a i, xvd X a i → h (Z a i) = some (xct cA Z X ta a i)) ∧ ∀ a i b j, xvd X a i → xvd X b j → Z a i = Z b j → a = b ∧ i = j
/-- nothing else changed -/
def hfr (Z : Nat → Nat → Nat) (X : XS) (h h2 : hE) : Prop := ∀ q e, h q = some e → (∀ a i, xvd X a i → q ≠ Z a i) → h2 q = some e
theorem hfr.rf {Z : Nat → Nat → Nat} {X : XS} {h : hE} : hfr Z X h h := fun _ _ z _ => z
theorem hfr.tr {Z : Nat → Nat → Nat} {X : XS} {h h1 h2 : hE} (a : hfr Z X h h1) (b : hfr Z X h1 h2) : hfr Z X h h2 := fun q e z n => b q e (a q e z n) n
theorem hfr.st {Z : Nat → Nat → Nat} {X : XS} {h : hE} {a i : Nat} {e : va_E} (hv : xvd X a i) : hfr Z X h (hset h (Z a i) e) := fun q e1 z n => by rw [hset_n (n a i hv)]; exact z
theorem hfr.vd {Z : Nat → Nat → Nat} {X Y : XS} {h h2 : hE} (hv : xvd X = xvd Y) (a : hfr Z X h h2) : hfr Z Y h h2 := fun q e z n => a q e z (fun a i hi => n a i (hv ▸ hi))
section XRL
variable {cA : Nat → ClassId} {Z : Nat → Nat → Nat} {X : XS} {ta : Nat → Nat → Option Nat} {h : hE}
theorem xvd_wG (p : Nat) (G : Nat → Cd) : xvd (wG X p G) = xvd X := by
  funext a i
  match a with
  | 0 => rfl
  | 1 => rfl
  | 2 => rfl
  | 3 => rfl
  | 4 => rfl
  | 5 => rfl
  | p + 6 => rfl
theorem xvd_wlo (f : Nat → Ld) : xvd (wlo X f) = xvd X := by
  funext a i
  match a with
  | 0 => rfl
  | 1 => rfl
  | 2 => rfl
  | 3 => rfl
  | 4 => rfl
  | 5 => rfl
  | p + 6 => rfl
theorem xvd_wcr (f : Nat → Rw) : xvd (wcr X f) = xvd X := by
  funext a i
  match a with
  | 0 => rfl
  | 1 => rfl
  | 2 => rfl
  | 3 => rfl
  | 4 => rfl
  | 5 => rfl
  | p + 6 => rfl
theorem xvd_wnw (v : Int32) : xvd (wnw X v) = xvd X := by
  funext a i
  match a with
  | 0 => rfl
  | 1 => rfl
  | 2 => rfl
  | 3 => rfl
  | 4 => rfl
  | 5 => rfl
  | p + 6 => rfl
theorem XR.put {Y : XS} {tb : Nat → Nat → Option Nat} {a i : Nat} {e : va_E} (r : XR cA Z X ta h) (hv : xvd X a i) (hy : xvd Y = xvd X) (he : xct cA Z Y tb a i = e) (ho : ∀ b j, xvd X b j → (b ≠ a ∨ j ≠ i) → xct cA Z Y tb b j = xct cA Z X ta b j) : XR cA Z Y tb (hset h (Z a i) e) := by
  refine ⟨fun b j hb => ?_, fun b j b2 j2 h1 h2 => r.2 b j b2 j2 (hy ▸ h1) (hy ▸ h2)⟩
  rw [hy] at hb
  by_cases hz : Z b j = Z a i
  · obtain ⟨rfl, rfl⟩ := r.2 b j a i hb hv hz
    rw [hset_s, he]
  · rw [hset_n hz, ho b j hb, r.1 b j hb]
    by_cases hba : b = a
    · refine Or.inr (fun hj => hz ?_)
      rw [hba, hj]
    · exact Or.inl hba
theorem XR.row (r : XR cA Z X ta h) : h (Z 0 0) = some (rowO (Z 0 1) (Z 0 2) (Z 0 3) (nI (xnl X)) (nI (xnp X)) (xnw X)) := r.1 0 0 (show 0 < 4 by decide)
theorem XR.lots (r : XR cA Z X ta h) : h (Z 0 1) = some (qarr (cA 4) 12 (qfun Z 1 (xnl X))) := r.1 0 1 (show 1 < 4 by decide)
theorem XR.pics (r : XR cA Z X ta h) : h (Z 0 2) = some (qarr (cA 5) 5 (qfun Z 2 (xnp X))) := r.1 0 2 (show 2 < 4 by decide)
theorem XR.crews (r : XR cA Z X ta h) : h (Z 0 3) = some (qarr (cA 6) 3 (qfun Z 4 3)) := r.1 0 3 (show 3 < 4 by decide)
theorem XR.lot (r : XR cA Z X ta h) {k : Nat} (hk : k < xnl X) : h (Z 1 k) = some (lotC k (xlo X k)) := r.1 1 k hk
theorem XR.pic (r : XR cA Z X ta h) {p : Nat} (hp : p < xnp X) : h (Z 2 p) = some (picO (nI p) (nI (xwd X p)) (nI (xhg X p)) (Z 3 p)) := r.1 2 p hp
theorem XR.cells (r : XR cA Z X ta h) {p : Nat} (hp : p < xnp X) : h (Z 3 p) = some (qarr (cA 7) (xN X p) (qfun Z (p + 6) (xN X p))) := r.1 3 p hp
theorem XR.crew (r : XR cA Z X ta h) {c : Nat} (hc : c < 3) : h (Z 4 c) = some (crewC Z c (xcr X c)) := r.1 4 c hc
theorem XR.tray (r : XR cA Z X ta h) {c : Nat} (hc : c < 3) : h (Z 5 c) = some (qarr (cA 4) 4 (ta c)) := r.1 5 c hc
theorem XR.cell (r : XR cA Z X ta h) {p k : Nat} (hp : p < xnp X) (hk : k < xN X p) : h (Z (p + 6) k) = some (cellC Z (xwd X p) k (xg X p k)) := r.1 (p + 6) k ⟨hp, hk⟩
/-- a cell is written -/
theorem XR.setCell (r : XR cA Z X ta h) {p k : Nat} (hp : p < xnp X) (hk : k < xN X p) (d : Cd) : XR cA Z (wG X p (fset (xg X p) k d)) ta (hset h (Z (p + 6) k) (cellC Z (xwd X p) k d)) := by
  refine r.put (a := p + 6) (i := k) ⟨hp, hk⟩ (xvd_wG _ _) ?_ ?_
  · show cellC Z (xwd X p) k (fset (xg X) p (fset (xg X p) k d) p k) = _
    rw [fset_s, fset_s]
  · intro b j hb hne
    match b with
    | 0 => match j with
      | 0 => rfl
      | 1 => rfl
      | 2 => rfl
      | j + 3 => rfl
    | 1 => rfl
    | 2 => rfl
    | 3 => rfl
    | 4 => rfl
    | 5 => rfl
    | p2 + 6 =>
      show cellC Z (xwd X p2) j (fset (xg X) p (fset (xg X p) k d) p2 j) = cellC Z (xwd X p2) j (xg X p2 j)
      by_cases hp2 : p2 = p
      · subst hp2
        have hj : j ≠ k := by
          rcases hne with h1 | h1
          · exact absurd rfl h1
          · exact h1
        rw [fset_s, fset_n hj]
      · rw [fset_n hp2]
/-- a lot is written -/
theorem XR.setLot (r : XR cA Z X ta h) {k : Nat} (hk : k < xnl X) (d : Ld) : XR cA Z (wlo X (fset (xlo X) k d)) ta (hset h (Z 1 k) (lotC k d)) := by
  refine r.put (a := 1) (i := k) hk (xvd_wlo _) ?_ ?_
  · show lotC k (fset (xlo X) k d k) = _
    rw [fset_s]
  · intro b j hb hne
    match b with
    | 0 => match j with
      | 0 => rfl
      | 1 => rfl
      | 2 => rfl
      | j + 3 => rfl
    | 1 =>
      have hj : j ≠ k := by
        rcases hne with h1 | h1
        · exact absurd rfl h1
        · exact h1
      show lotC j (fset (xlo X) k d j) = lotC j (xlo X j)
      rw [fset_n hj]
    | 2 => rfl
    | 3 => rfl
    | 4 => rfl
    | 5 => rfl
    | p2 + 6 => rfl
/-- a crew is written -/
theorem XR.setCrew (r : XR cA Z X ta h) {c : Nat} (hc : c < 3) (d : Rw) : XR cA Z (wcr X (fset (xcr X) c d)) ta (hset h (Z 4 c) (crewC Z c d)) := by
  refine r.put (a := 4) (i := c) hc (xvd_wcr _) ?_ ?_
  · show crewC Z c (fset (xcr X) c d c) = _
    rw [fset_s]
  · intro b j hb hne
    match b with
    | 0 => match j with
      | 0 => rfl
      | 1 => rfl
      | 2 => rfl
      | j + 3 => rfl
    | 1 => rfl
    | 2 => rfl
    | 3 => rfl
    | 4 =>
      have hj : j ≠ c := by
        rcases hne with h1 | h1
        · exact absurd rfl h1
        · exact h1
      show crewC Z j (fset (xcr X) c d j) = crewC Z j (xcr X j)
      rw [fset_n hj]
    | 5 => rfl
    | p2 + 6 => rfl
/-- a tray's array is written -/
theorem XR.setTray (r : XR cA Z X ta h) {c : Nat} (hc : c < 3) (f : Nat → Option Nat) : XR cA Z X (fset ta c f) (hset h (Z 5 c) (qarr (cA 4) 4 f)) := by
  refine r.put (a := 5) (i := c) hc rfl ?_ ?_
  · show qarr (cA 4) 4 (fset ta c f c) = _
    rw [fset_s]
  · intro b j hb hne
    match b with
    | 0 => match j with
      | 0 => rfl
      | 1 => rfl
      | 2 => rfl
      | j + 3 => rfl
    | 1 => rfl
    | 2 => rfl
    | 3 => rfl
    | 4 => rfl
    | 5 =>
      have hj : j ≠ c := by
        rcases hne with h1 | h1
        · exact absurd rfl h1
        · exact h1
      show qarr (cA 4) 4 (fset ta c f j) = qarr (cA 4) 4 (ta j)
      rw [fset_n hj]
    | p2 + 6 => rfl
/-- the hour is written -/
theorem XR.setNow (r : XR cA Z X ta h) (v : Int32) : XR cA Z (wnw X v) ta (hset h (Z 0 0) (rowO (Z 0 1) (Z 0 2) (Z 0 3) (nI (xnl X)) (nI (xnp X)) v)) := by
  refine r.put (a := 0) (i := 0) (show 0 < 4 by decide) (xvd_wnw _) rfl ?_
  intro b j hb hne
  match b with
  | 0 => match j with
    | 0 =>
      rcases hne with h1 | h1
      · exact absurd rfl h1
      · exact absurd rfl h1
    | 1 => rfl
    | 2 => rfl
    | j + 3 => rfl
  | 1 => rfl
  | 2 => rfl
  | 3 => rfl
  | 4 => rfl
  | 5 => rfl
  | p2 + 6 => rfl
theorem wG_wG (p : Nat) (G G2 : Nat → Cd) : wG (wG X p G) p G2 = wG X p G2 := by
  show (_, _, _, _, fset (fset (xg X) p G) p G2, _) = (_, _, _, _, fset (xg X) p G2, _)
  rw [fset_fset]
  rfl
theorem wG_id (p : Nat) : wG X p (xg X p) = X := by
  show (X.1, xlo X, xwd X, xhg X, fset (xg X) p (xg X p), xcr X) = X
  rw [fset_id rfl]
theorem xg_wG (p : Nat) (G : Nat → Cd) : xg (wG X p G) p = G := fset_s _ _ _
end XRL
section LOOPS
variable {p : Program} {l : Launch} {e : Env} {R : Room} {s : State} {m : MethodId} {args : Array Value} {below : List Frame} {meth : Method} {c : Code} {D : va_G} {bs nL : Nat} {h : hE} {cells slots : Nat} {Q : State → Prop} {pc : Nat} {ls : List (Option Value)}
/-- a loop that counts up -/
theorem V_for (n : Nat) (I : Nat → hE → List (Option Value) → Prop)
    (hstep : ∀ (i : Nat) (h : hE) (ls : List (Option Value)), i < n → I i h ls → (∀ (h2 : hE) (ls2 : List (Option Value)), I (i + 1) h2 ls2 → V p l e R s m args below meth c D bs nL h2 cells slots Q pc ls2 []) → V p l e R s m args below meth c D bs nL h cells slots Q pc ls [])
    (hend : ∀ (h : hE) (ls : List (Option Value)), I n h ls → V p l e R s m args below meth c D bs nL h cells slots Q pc ls [])
    (i : Nat) (hi : i ≤ n) (h0 : I i h ls) : V p l e R s m args below meth c D bs nL h cells slots Q pc ls [] := by
  obtain ⟨k, hk⟩ : ∃ k, i + k = n := ⟨n - i, by omega⟩
  induction k generalizing i h ls with
  | zero =>
    have : i = n := by omega
    subst this
    exact hend h ls h0
  | succ k ih => exact hstep i h ls (by omega) h0 (fun h2 ls2 h1 => ih (i := i + 1) (by omega) h1 (by omega))
/-- a loop with a measure -/
theorem V_rec (I : Nat → hE → List (Option Value) → Prop)
    (hstep : ∀ (n : Nat) (h : hE) (ls : List (Option Value)), I (n + 1) h ls → (∀ (h2 : hE) (ls2 : List (Option Value)), I n h2 ls2 → V p l e R s m args below meth c D bs nL h2 cells slots Q pc ls2 []) → V p l e R s m args below meth c D bs nL h cells slots Q pc ls [])
    (hend : ∀ (h : hE) (ls : List (Option Value)), I 0 h ls → V p l e R s m args below meth c D bs nL h cells slots Q pc ls [])
    (n : Nat) (h0 : I n h ls) : V p l e R s m args below meth c D bs nL h cells slots Q pc ls [] := by
  induction n generalizing h ls with
  | zero => exact hend h ls h0
  | succ k ih => exact hstep k h ls h0 (fun h2 ls2 h1 => ih h1)
end LOOPS
