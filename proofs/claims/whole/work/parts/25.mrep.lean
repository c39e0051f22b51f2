/-! the reference's world: its rows in numbers, and what they say of the class's numbers -/
abbrev modO (A : Nat → Nat) (th nw nl np : Int32) : va_E := .inr (5, [.int th, .int nw, .int nl, .ref (A 3), .ref (A 4), .ref (A 5), .ref (A 6), .ref (A 7), .ref (A 8), .int np, .ref (A 10), .ref (A 11), .ref (A 12), .ref (A 13), .ref (A 14), .ref (A 15), .ref (A 16), .ref (A 17), .ref (A 18), .ref (A 19), .ref (A 20), .ref (A 21), .ref (A 22), .ref (A 23), .ref (A 24), .ref (A 25)])
def mkd (j : Nat) : Nat := if j = 3 ∨ j = 15 ∨ j = 18 then 1 else if j = 6 ∨ j = 24 then 2 else 0
def mln (j : Nat) : Nat := if j ≤ 8 then 12 else if j ≤ 11 then 5 else if j ≤ 17 then 320 else if j ≤ 19 then 64 else if j = 24 then 36 else 3
def marr (cA : Nat → ClassId) (j : Nat) (f : Nat → Int32) (g : Nat → UInt32) : va_E := if mkd j = 1 then farr (cA 1) (mln j) g else iarr (cA (if mkd j = 2 then 2 else 0)) (mln j) f
abbrev MI := Nat → Nat → Int32
abbrev MF := Nat → Nat → UInt32
def mvd (j : Nat) : Prop := j = 0 ∨ (3 ≤ j ∧ j ≤ 8) ∨ (10 ≤ j ∧ j ≤ 25)
/-- thrown, now, lots, pictures -/
abbrev MN := Int32 × Int32 × Int32 × Int32
def mct (cA : Nat → ClassId) (A : Nat → Nat) (I : MI) (F : MF) (n : MN) (j : Nat) : va_E := if j = 0 then modO A n.1 n.2.1 n.2.2.1 n.2.2.2 else marr cA j (I j) (F j)
def MR (cA : Nat → ClassId) (A : Nat → Nat) (I : MI) (F : MF) (n : MN) (h : hE) : Prop := (∀ j, mvd j → h (A j) = some (mct cA A I F n j)) ∧ ∀ i j, mvd i → mvd j → A i = A j → i = j
/-- cells of the reference's kinds -/
def rgn : va_E → Prop
  | .inr (i, _) => i = 5
  | .inl (_, _, .inl _) => True
  | .inl (_, _, .inr (.inr (.inl _))) => True
  | _ => False
def mfr (h h2 : hE) : Prop := ∀ q e, h q = some e → ¬ rgn e → h2 q = some e
theorem mfr.rf {h : hE} : mfr h h := fun _ _ z _ => z
theorem mfr.tr {h h1 h2 : hE} (a : mfr h h1) (b : mfr h1 h2) : mfr h h2 := fun q e z g => b q e (a q e z g) g
theorem mct_rgn {cA : Nat → ClassId} {A : Nat → Nat} {I : MI} {F : MF} {n : MN} {j : Nat} : rgn (mct cA A I F n j) := by
  unfold mct
  split
  · exact (rfl : (5 : Nat) = 5)
  · unfold marr
    split
    · trivial
    · trivial
section MREP
variable {cA : Nat → ClassId} {A : Nat → Nat} {I : MI} {F : MF} {n : MN} {h : hE}
theorem MR.set (r : MR cA A I F n h) {I' : MI} {F' : MF} {n' : MN} {j : Nat} {e : va_E} (hv : mvd j) (he : mct cA A I' F' n' j = e) (ho : ∀ i, i ≠ j → mct cA A I' F' n' i = mct cA A I F n i) : MR cA A I' F' n' (hset h (A j) e) := by
  refine ⟨fun i hi => ?_, r.2⟩
  by_cases hz : A i = A j
  · have := r.2 i j hi hv hz
    subst this
    rw [hset_s, he]
  · rw [hset_n hz, r.1 i hi, ho i (fun z => hz (by rw [z]))]
theorem MR.fr (r : MR cA A I F n h) {j : Nat} (hv : mvd j) {e : va_E} : mfr h (hset h (A j) e) := fun q f hq g => by
  rw [hset_n (fun z => by rw [z, r.1 j hv] at hq; cases hq; exact g mct_rgn)]
  exact hq
theorem MR.setI (r : MR cA A I F n h) {j : Nat} (hv : mvd j) (h0 : j ≠ 0) (f : Nat → Int32) {g : Nat → UInt32} (hk : mkd j ≠ 1) : MR cA A (fset I j f) F n (hset h (A j) (marr cA j f g)) := by
  refine r.set hv ?_ ?_
  · unfold mct marr
    rw [if_neg h0, if_neg hk, if_neg hk, fset_s]
  · intro i hi
    unfold mct
    rw [fset_n hi]
theorem MR.setF (r : MR cA A I F n h) {j : Nat} (hv : mvd j) (h0 : j ≠ 0) {f : Nat → Int32} (g : Nat → UInt32) (hk : mkd j = 1) : MR cA A I (fset F j g) n (hset h (A j) (marr cA j f g)) := by
  refine r.set hv ?_ ?_
  · unfold mct marr
    rw [if_neg h0, if_pos hk, if_pos hk, fset_s]
  · intro i hi
    unfold mct
    rw [fset_n hi]
theorem MR.setN (r : MR cA A I F n h) (n' : MN) : MR cA A I F n' (hset h (A 0) (modO A n'.1 n'.2.1 n'.2.2.1 n'.2.2.2)) := by
  refine r.set (Or.inl rfl) ?_ ?_
  · unfold mct
    rw [if_pos rfl]
  · intro i hi
    unfold mct
    rw [if_neg hi, if_neg hi]
theorem MR.m0 (r : MR cA A I F n h) : h (A 0) = some (modO A n.1 n.2.1 n.2.2.1 n.2.2.2) := r.1 0 (Or.inl rfl)
theorem MR.m3 (r : MR cA A I F n h) : h (A 3) = some (farr (cA 1) 12 (F 3)) := r.1 3 (Or.inr (Or.inl ⟨by decide, by decide⟩))
theorem MR.s3 (r : MR cA A I F n h) (g : Nat → UInt32) : MR cA A I (fset F 3 g) n (hset h (A 3) (farr (cA 1) 12 g)) := r.setF (f := fun _ => 0) (Or.inr (Or.inl ⟨by decide, by decide⟩)) (by decide) g (by decide)
theorem MR.f3 (r : MR cA A I F n h) (e : va_E) : mfr h (hset h (A 3) e) := r.fr (Or.inr (Or.inl ⟨by decide, by decide⟩))
theorem MR.m4 (r : MR cA A I F n h) : h (A 4) = some (iarr (cA 0) 12 (I 4)) := r.1 4 (Or.inr (Or.inl ⟨by decide, by decide⟩))
theorem MR.s4 (r : MR cA A I F n h) (f : Nat → Int32) : MR cA A (fset I 4 f) F n (hset h (A 4) (iarr (cA 0) 12 f)) := r.setI (g := fun _ => 0) (Or.inr (Or.inl ⟨by decide, by decide⟩)) (by decide) f (by decide)
theorem MR.f4 (r : MR cA A I F n h) (e : va_E) : mfr h (hset h (A 4) e) := r.fr (Or.inr (Or.inl ⟨by decide, by decide⟩))
theorem MR.m5 (r : MR cA A I F n h) : h (A 5) = some (iarr (cA 0) 12 (I 5)) := r.1 5 (Or.inr (Or.inl ⟨by decide, by decide⟩))
theorem MR.s5 (r : MR cA A I F n h) (f : Nat → Int32) : MR cA A (fset I 5 f) F n (hset h (A 5) (iarr (cA 0) 12 f)) := r.setI (g := fun _ => 0) (Or.inr (Or.inl ⟨by decide, by decide⟩)) (by decide) f (by decide)
theorem MR.f5 (r : MR cA A I F n h) (e : va_E) : mfr h (hset h (A 5) e) := r.fr (Or.inr (Or.inl ⟨by decide, by decide⟩))
theorem MR.m6 (r : MR cA A I F n h) : h (A 6) = some (iarr (cA 2) 12 (I 6)) := r.1 6 (Or.inr (Or.inl ⟨by decide, by decide⟩))
theorem MR.s6 (r : MR cA A I F n h) (f : Nat → Int32) : MR cA A (fset I 6 f) F n (hset h (A 6) (iarr (cA 2) 12 f)) := r.setI (g := fun _ => 0) (Or.inr (Or.inl ⟨by decide, by decide⟩)) (by decide) f (by decide)
theorem MR.f6 (r : MR cA A I F n h) (e : va_E) : mfr h (hset h (A 6) e) := r.fr (Or.inr (Or.inl ⟨by decide, by decide⟩))
theorem MR.m7 (r : MR cA A I F n h) : h (A 7) = some (iarr (cA 0) 12 (I 7)) := r.1 7 (Or.inr (Or.inl ⟨by decide, by decide⟩))
theorem MR.s7 (r : MR cA A I F n h) (f : Nat → Int32) : MR cA A (fset I 7 f) F n (hset h (A 7) (iarr (cA 0) 12 f)) := r.setI (g := fun _ => 0) (Or.inr (Or.inl ⟨by decide, by decide⟩)) (by decide) f (by decide)
theorem MR.f7 (r : MR cA A I F n h) (e : va_E) : mfr h (hset h (A 7) e) := r.fr (Or.inr (Or.inl ⟨by decide, by decide⟩))
theorem MR.m8 (r : MR cA A I F n h) : h (A 8) = some (iarr (cA 0) 12 (I 8)) := r.1 8 (Or.inr (Or.inl ⟨by decide, by decide⟩))
theorem MR.s8 (r : MR cA A I F n h) (f : Nat → Int32) : MR cA A (fset I 8 f) F n (hset h (A 8) (iarr (cA 0) 12 f)) := r.setI (g := fun _ => 0) (Or.inr (Or.inl ⟨by decide, by decide⟩)) (by decide) f (by decide)
theorem MR.f8 (r : MR cA A I F n h) (e : va_E) : mfr h (hset h (A 8) e) := r.fr (Or.inr (Or.inl ⟨by decide, by decide⟩))
theorem MR.m10 (r : MR cA A I F n h) : h (A 10) = some (iarr (cA 0) 5 (I 10)) := r.1 10 (Or.inr (Or.inr ⟨by decide, by decide⟩))
theorem MR.s10 (r : MR cA A I F n h) (f : Nat → Int32) : MR cA A (fset I 10 f) F n (hset h (A 10) (iarr (cA 0) 5 f)) := r.setI (g := fun _ => 0) (Or.inr (Or.inr ⟨by decide, by decide⟩)) (by decide) f (by decide)
theorem MR.f10 (r : MR cA A I F n h) (e : va_E) : mfr h (hset h (A 10) e) := r.fr (Or.inr (Or.inr ⟨by decide, by decide⟩))
theorem MR.m11 (r : MR cA A I F n h) : h (A 11) = some (iarr (cA 0) 5 (I 11)) := r.1 11 (Or.inr (Or.inr ⟨by decide, by decide⟩))
theorem MR.s11 (r : MR cA A I F n h) (f : Nat → Int32) : MR cA A (fset I 11 f) F n (hset h (A 11) (iarr (cA 0) 5 f)) := r.setI (g := fun _ => 0) (Or.inr (Or.inr ⟨by decide, by decide⟩)) (by decide) f (by decide)
theorem MR.f11 (r : MR cA A I F n h) (e : va_E) : mfr h (hset h (A 11) e) := r.fr (Or.inr (Or.inr ⟨by decide, by decide⟩))
theorem MR.m12 (r : MR cA A I F n h) : h (A 12) = some (iarr (cA 0) 320 (I 12)) := r.1 12 (Or.inr (Or.inr ⟨by decide, by decide⟩))
theorem MR.s12 (r : MR cA A I F n h) (f : Nat → Int32) : MR cA A (fset I 12 f) F n (hset h (A 12) (iarr (cA 0) 320 f)) := r.setI (g := fun _ => 0) (Or.inr (Or.inr ⟨by decide, by decide⟩)) (by decide) f (by decide)
theorem MR.f12 (r : MR cA A I F n h) (e : va_E) : mfr h (hset h (A 12) e) := r.fr (Or.inr (Or.inr ⟨by decide, by decide⟩))
theorem MR.m13 (r : MR cA A I F n h) : h (A 13) = some (iarr (cA 0) 320 (I 13)) := r.1 13 (Or.inr (Or.inr ⟨by decide, by decide⟩))
theorem MR.s13 (r : MR cA A I F n h) (f : Nat → Int32) : MR cA A (fset I 13 f) F n (hset h (A 13) (iarr (cA 0) 320 f)) := r.setI (g := fun _ => 0) (Or.inr (Or.inr ⟨by decide, by decide⟩)) (by decide) f (by decide)
theorem MR.f13 (r : MR cA A I F n h) (e : va_E) : mfr h (hset h (A 13) e) := r.fr (Or.inr (Or.inr ⟨by decide, by decide⟩))
theorem MR.m14 (r : MR cA A I F n h) : h (A 14) = some (iarr (cA 0) 320 (I 14)) := r.1 14 (Or.inr (Or.inr ⟨by decide, by decide⟩))
theorem MR.s14 (r : MR cA A I F n h) (f : Nat → Int32) : MR cA A (fset I 14 f) F n (hset h (A 14) (iarr (cA 0) 320 f)) := r.setI (g := fun _ => 0) (Or.inr (Or.inr ⟨by decide, by decide⟩)) (by decide) f (by decide)
theorem MR.f14 (r : MR cA A I F n h) (e : va_E) : mfr h (hset h (A 14) e) := r.fr (Or.inr (Or.inr ⟨by decide, by decide⟩))
theorem MR.m15 (r : MR cA A I F n h) : h (A 15) = some (farr (cA 1) 320 (F 15)) := r.1 15 (Or.inr (Or.inr ⟨by decide, by decide⟩))
theorem MR.s15 (r : MR cA A I F n h) (g : Nat → UInt32) : MR cA A I (fset F 15 g) n (hset h (A 15) (farr (cA 1) 320 g)) := r.setF (f := fun _ => 0) (Or.inr (Or.inr ⟨by decide, by decide⟩)) (by decide) g (by decide)
theorem MR.f15 (r : MR cA A I F n h) (e : va_E) : mfr h (hset h (A 15) e) := r.fr (Or.inr (Or.inr ⟨by decide, by decide⟩))
theorem MR.m16 (r : MR cA A I F n h) : h (A 16) = some (iarr (cA 0) 320 (I 16)) := r.1 16 (Or.inr (Or.inr ⟨by decide, by decide⟩))
theorem MR.s16 (r : MR cA A I F n h) (f : Nat → Int32) : MR cA A (fset I 16 f) F n (hset h (A 16) (iarr (cA 0) 320 f)) := r.setI (g := fun _ => 0) (Or.inr (Or.inr ⟨by decide, by decide⟩)) (by decide) f (by decide)
theorem MR.f16 (r : MR cA A I F n h) (e : va_E) : mfr h (hset h (A 16) e) := r.fr (Or.inr (Or.inr ⟨by decide, by decide⟩))
theorem MR.m17 (r : MR cA A I F n h) : h (A 17) = some (iarr (cA 0) 320 (I 17)) := r.1 17 (Or.inr (Or.inr ⟨by decide, by decide⟩))
theorem MR.s17 (r : MR cA A I F n h) (f : Nat → Int32) : MR cA A (fset I 17 f) F n (hset h (A 17) (iarr (cA 0) 320 f)) := r.setI (g := fun _ => 0) (Or.inr (Or.inr ⟨by decide, by decide⟩)) (by decide) f (by decide)
theorem MR.f17 (r : MR cA A I F n h) (e : va_E) : mfr h (hset h (A 17) e) := r.fr (Or.inr (Or.inr ⟨by decide, by decide⟩))
theorem MR.m18 (r : MR cA A I F n h) : h (A 18) = some (farr (cA 1) 64 (F 18)) := r.1 18 (Or.inr (Or.inr ⟨by decide, by decide⟩))
theorem MR.s18 (r : MR cA A I F n h) (g : Nat → UInt32) : MR cA A I (fset F 18 g) n (hset h (A 18) (farr (cA 1) 64 g)) := r.setF (f := fun _ => 0) (Or.inr (Or.inr ⟨by decide, by decide⟩)) (by decide) g (by decide)
theorem MR.f18 (r : MR cA A I F n h) (e : va_E) : mfr h (hset h (A 18) e) := r.fr (Or.inr (Or.inr ⟨by decide, by decide⟩))
theorem MR.m19 (r : MR cA A I F n h) : h (A 19) = some (iarr (cA 0) 64 (I 19)) := r.1 19 (Or.inr (Or.inr ⟨by decide, by decide⟩))
theorem MR.s19 (r : MR cA A I F n h) (f : Nat → Int32) : MR cA A (fset I 19 f) F n (hset h (A 19) (iarr (cA 0) 64 f)) := r.setI (g := fun _ => 0) (Or.inr (Or.inr ⟨by decide, by decide⟩)) (by decide) f (by decide)
theorem MR.f19 (r : MR cA A I F n h) (e : va_E) : mfr h (hset h (A 19) e) := r.fr (Or.inr (Or.inr ⟨by decide, by decide⟩))
theorem MR.m20 (r : MR cA A I F n h) : h (A 20) = some (iarr (cA 0) 3 (I 20)) := r.1 20 (Or.inr (Or.inr ⟨by decide, by decide⟩))
theorem MR.s20 (r : MR cA A I F n h) (f : Nat → Int32) : MR cA A (fset I 20 f) F n (hset h (A 20) (iarr (cA 0) 3 f)) := r.setI (g := fun _ => 0) (Or.inr (Or.inr ⟨by decide, by decide⟩)) (by decide) f (by decide)
theorem MR.f20 (r : MR cA A I F n h) (e : va_E) : mfr h (hset h (A 20) e) := r.fr (Or.inr (Or.inr ⟨by decide, by decide⟩))
theorem MR.m21 (r : MR cA A I F n h) : h (A 21) = some (iarr (cA 0) 3 (I 21)) := r.1 21 (Or.inr (Or.inr ⟨by decide, by decide⟩))
theorem MR.s21 (r : MR cA A I F n h) (f : Nat → Int32) : MR cA A (fset I 21 f) F n (hset h (A 21) (iarr (cA 0) 3 f)) := r.setI (g := fun _ => 0) (Or.inr (Or.inr ⟨by decide, by decide⟩)) (by decide) f (by decide)
theorem MR.f21 (r : MR cA A I F n h) (e : va_E) : mfr h (hset h (A 21) e) := r.fr (Or.inr (Or.inr ⟨by decide, by decide⟩))
theorem MR.m22 (r : MR cA A I F n h) : h (A 22) = some (iarr (cA 0) 3 (I 22)) := r.1 22 (Or.inr (Or.inr ⟨by decide, by decide⟩))
theorem MR.s22 (r : MR cA A I F n h) (f : Nat → Int32) : MR cA A (fset I 22 f) F n (hset h (A 22) (iarr (cA 0) 3 f)) := r.setI (g := fun _ => 0) (Or.inr (Or.inr ⟨by decide, by decide⟩)) (by decide) f (by decide)
theorem MR.f22 (r : MR cA A I F n h) (e : va_E) : mfr h (hset h (A 22) e) := r.fr (Or.inr (Or.inr ⟨by decide, by decide⟩))
theorem MR.m23 (r : MR cA A I F n h) : h (A 23) = some (iarr (cA 0) 3 (I 23)) := r.1 23 (Or.inr (Or.inr ⟨by decide, by decide⟩))
theorem MR.s23 (r : MR cA A I F n h) (f : Nat → Int32) : MR cA A (fset I 23 f) F n (hset h (A 23) (iarr (cA 0) 3 f)) := r.setI (g := fun _ => 0) (Or.inr (Or.inr ⟨by decide, by decide⟩)) (by decide) f (by decide)
theorem MR.f23 (r : MR cA A I F n h) (e : va_E) : mfr h (hset h (A 23) e) := r.fr (Or.inr (Or.inr ⟨by decide, by decide⟩))
theorem MR.m24 (r : MR cA A I F n h) : h (A 24) = some (iarr (cA 2) 36 (I 24)) := r.1 24 (Or.inr (Or.inr ⟨by decide, by decide⟩))
theorem MR.s24 (r : MR cA A I F n h) (f : Nat → Int32) : MR cA A (fset I 24 f) F n (hset h (A 24) (iarr (cA 2) 36 f)) := r.setI (g := fun _ => 0) (Or.inr (Or.inr ⟨by decide, by decide⟩)) (by decide) f (by decide)
theorem MR.f24 (r : MR cA A I F n h) (e : va_E) : mfr h (hset h (A 24) e) := r.fr (Or.inr (Or.inr ⟨by decide, by decide⟩))
theorem MR.m25 (r : MR cA A I F n h) : h (A 25) = some (iarr (cA 0) 3 (I 25)) := r.1 25 (Or.inr (Or.inr ⟨by decide, by decide⟩))
theorem MR.s25 (r : MR cA A I F n h) (f : Nat → Int32) : MR cA A (fset I 25 f) F n (hset h (A 25) (iarr (cA 0) 3 f)) := r.setI (g := fun _ => 0) (Or.inr (Or.inr ⟨by decide, by decide⟩)) (by decide) f (by decide)
theorem MR.f25 (r : MR cA A I F n h) (e : va_E) : mfr h (hset h (A 25) e) := r.fr (Or.inr (Or.inr ⟨by decide, by decide⟩))
theorem MR.f0 (r : MR cA A I F n h) (e : va_E) : mfr h (hset h (A 0) e) := r.fr (Or.inl rfl)
end MREP
/-- the place of a cell among the reference's -/
def cx (w p k : Nat) : Nat := 64 * p + 8 * (k / w) + k % w
theorem cx_lt {w g p k : Nat} (hw1 : 1 ≤ w) (hw : w ≤ 8) (hg : g ≤ 8) (hp : p < 5) (hk : k < w * g) : cx w p k < 320 := by
  have h1 := k_mod (k := k) hw1
  have h2 := k_div hk
  unfold cx
  omega
theorem cx_in {w g p k : Nat} (hw1 : 1 ≤ w) (hw : w ≤ 8) (hg : g ≤ 8) (hk : k < w * g) : 64 * p ≤ cx w p k ∧ cx w p k < 64 * (p + 1) := by
  have h1 := k_mod (k := k) hw1
  have h2 := k_div hk
  unfold cx
  omega
theorem cx_inj {w g w2 g2 p p2 k k2 : Nat} (hw1 : 1 ≤ w) (hw : w ≤ 8) (hg : g ≤ 8) (hk : k < w * g) (hw12 : 1 ≤ w2) (hw2 : w2 ≤ 8) (hg2 : g2 ≤ 8) (hk2 : k2 < w2 * g2) (he : cx w p k = cx w2 p2 k2) : p = p2 ∧ k / w = k2 / w2 ∧ k % w = k2 % w2 := by
  have h1 := k_mod (k := k) hw1
  have h2 := k_div hk
  have h3 := k_mod (k := k2) hw12
  have h4 := k_div hk2
  unfold cx at he
  omega
theorem cx_inj1 {w g p k k2 : Nat} (hw1 : 1 ≤ w) (hw : w ≤ 8) (hg : g ≤ 8) (hk : k < w * g) (hk2 : k2 < w * g) (he : cx w p k = cx w p k2) : k = k2 := by
  obtain ⟨-, h1, h2⟩ := cx_inj hw1 hw hg hk hw1 hw hg hk2 he
  have e1 := at_kk (w := w) k
  have e2 := at_kk (w := w) k2
  rw [h1, h2] at e1
  omega
theorem cx_at {w i j : Nat} (p : Nat) (hi : i < w) : cx w p (j * w + i) = 64 * p + 8 * j + i := by
  unfold cx
  rw [at_mod hi, at_div hi]
/-- a lot's rows -/
def PRl (I : MI) (F : MF) (k : Nat) (d : Ld) : Prop := F 3 k = ltn d ∧ I 5 k = lmt d ∧ I 6 k = lth d ∧ I 7 k = lpm d ∧ I 8 k = lld d ∧ I 4 k - I 7 k - I 8 k = llf d
/-- a cell's rows -/
def PRc (I : MI) (F : MF) (c : Nat) (d : Cd) : Prop := I 12 c = cwn d ∧ I 13 c = d.1 ∧ I 14 c = olI (clt d) ∧ F 15 c = cam d ∧ I 16 c = (if d.1 = 2 then cla d else -1) ∧ (d.1 = 2 → I 16 c + I 17 c = cdr d)
/-- a crew's rows -/
def PRr (I : MI) (c : Nat) (d : Rw) : Prop := I 20 c = olI (rpc d) ∧ I 21 c = rrt d ∧ I 22 c = rdy d ∧ I 23 c = rmt d ∧ I 25 c = rld d ∧ (∀ j, j < 12 → I 24 (12 * c + j) = if j ∈ rtr d then 1 else 0) ∧ (rtr d).Nodup
def PR (X : XS) (I : MI) (F : MF) : Prop :=
  (∀ k, k < xnl X → PRl I F k (xlo X k)) ∧ (∀ k, xnl X ≤ k → k < 12 → I 7 k = 0 ∧ I 8 k = 0) ∧
  (∀ p, p < xnp X → I 10 p = nI (xwd X p) ∧ I 11 p = nI (xhg X p)) ∧
  (∀ p, p < xnp X → ∀ k, k < xN X p → PRc I F (cx (xwd X p) p k) (xg X p k)) ∧
  (∀ c, c < 320 → I 13 c ≠ 0 → ∃ p, p < xnp X ∧ ∃ k, k < xN X p ∧ c = cx (xwd X p) p k) ∧
  (∀ c, 64 * xnp X ≤ c → c < 320 → F 15 c = 0) ∧
  ∀ c, c < 3 → PRr I c (xcr X c)
abbrev mnn (X : XS) (th : Int32) : MN := (th, xnw X, nI (xnl X), nI (xnp X))
def MW (cA : Nat → ClassId) (A : Nat → Nat) (X : XS) (th : Int32) (h : hE) : Prop := ∃ I F, MR cA A I F (mnn X th) h ∧ PR X I F
section VJN
variable {p : Program} {l : Launch} {e : Env} {R : Room} {s : State} {m : MethodId} {args : Array Value} {below : List Frame} {meth : Method} {c : Code} {D : va_G} {bs nL : Nat} {h : hE} {cells slots : Nat} {Q : State → Prop} {pc : Nat} {ls : List (Option Value)} {st : List Value}
/-- ways that meet again at pcJ -/
theorem V_join (pcJ : Nat) (P : hE → List (Option Value) → List Value → Prop) (k : ∀ h ls st, P h ls st → V p l e R s m args below meth c D bs nL h cells slots Q pcJ ls st) (main : (∀ h ls st, P h ls st → V p l e R s m args below meth c D bs nL h cells slots Q pcJ ls st) → V p l e R s m args below meth c D bs nL h cells slots Q pc ls st) : V p l e R s m args below meth c D bs nL h cells slots Q pc ls st := main k
end VJN
section LEAVES
variable {l : Launch} {D : va_G} {cA : Nat → ClassId} {bs : Nat} {A : Nat → Nat} {I : MI} {F : MF} {n : MN} {h : hE}
set_option maxHeartbeats 4000000 in
set_option maxRecDepth 100000 in
theorem r_thrown (r : MR cA A I F n h) : Mt l D cA bs yX5_thrown wsX5_thrown (rmk 0 0 0) [.ref (A 0)] h (fun v h2 => v = some (.int n.1) ∧ h2 = h) := by
  have m0 := r.m0
  refine Mt_of (cc := cX5_thrown) (maxL := 1) (ret := (some .int)) (own := RX5) [some (.ref (A 0))] rfl (by decide +kernel) rfl rfl (by exact Nat.le_of_ble_eq_true rfl) rfl ?_
  intro p9 e9 s9 m9 args9 below9 meth9 c9 C hr hnm
  refine V_aload_n (i := 0) C dX5_thrown_0 rfl rfl ?_
  refine V_get (ci := 5) (CN := RX5) (T := TX5) (N := 26) C dX5_thrown_1 (by first | assumption | exact hset_s _ _ _) rfl 0 (by decide) flX5_thrown_78 wiX5_thrown_X5 (by rfl) ?_
  exact V_iret C dX5_thrown_4 hr ⟨rfl, rfl⟩ (by exact Nat.le_of_ble_eq_true rfl) (by exact Nat.le_of_ble_eq_true rfl)
set_option maxHeartbeats 4000000 in
set_option maxRecDepth 100000 in
theorem r_in {x a b : Int32} : Mt l D cA bs yX5_in wsX5_in (rmk 0 0 0) [.int x, .int a, .int b] h (fun v h2 => v = some (.int (if okR x a b then 1 else 0)) ∧ h2 = h) := by
  refine Mt_of (cc := cX5_in) (maxL := 3) (ret := (some .boolean)) (own := RX5) [some (.int x), some (.int a), some (.int b)] rfl (by decide +kernel) rfl rfl (by exact Nat.le_of_ble_eq_true rfl) rfl ?_
  intro p9 e9 s9 m9 args9 below9 meth9 c9 C hr hnm
  refine V_iload_n (i := 0) C dX5_in_0 rfl rfl ?_
  refine V_iload_n (i := 1) C dX5_in_1 rfl rfl ?_
  refine V_icmp_lt (tgt := 14) C dX5_in_2 (by decide) (fun c2 => ?_) (fun c2 => ?_)
  · have e9 : ¬ okR x a b := fun z => Int32.not_lt.mpr z.1 c2
    refine V_iconst (v := 0) C dX5_in_14 (by decide) ?_
    exact V_zret C dX5_in_15 hr (by rfl) ⟨by first | rw [if_pos e9] | rw [if_neg e9], rfl⟩ (by exact Nat.le_of_ble_eq_true rfl) (by exact Nat.le_of_ble_eq_true rfl)
  · have c2 := Int32.not_lt.mp c2
    refine V_iload_n (i := 0) C dX5_in_5 rfl rfl ?_
    refine V_iload_n (i := 2) C dX5_in_6 rfl rfl ?_
    refine V_icmp_gt (tgt := 14) C dX5_in_7 (by decide) (fun c7 => ?_) (fun c7 => ?_)
    · have e9 : ¬ okR x a b := fun z => Int32.not_lt.mpr z.2 c7
      refine V_iconst (v := 0) C dX5_in_14 (by decide) ?_
      exact V_zret C dX5_in_15 hr (by rfl) ⟨by first | rw [if_pos e9] | rw [if_neg e9], rfl⟩ (by exact Nat.le_of_ble_eq_true rfl) (by exact Nat.le_of_ble_eq_true rfl)
    · have e9 : okR x a b := ⟨c2, Int32.not_lt.mp c7⟩
      refine V_iconst (v := 1) C dX5_in_10 (by decide) ?_
      refine V_goto (tgt := 15) C dX5_in_11 (by decide) ?_
      exact V_zret C dX5_in_15 hr (by rfl) ⟨by first | rw [if_pos e9] | rw [if_neg e9], rfl⟩ (by exact Nat.le_of_ble_eq_true rfl) (by exact Nat.le_of_ble_eq_true rfl)
set_option maxHeartbeats 4000000 in
set_option maxRecDepth 100000 in
theorem r_cellOf {p x y : Nat} : Mt l D cA bs yX5_cellOf wsX5_cellOf (rmk 0 0 0) [.int (nI p), .int (nI x), .int (nI y)] h (fun v h2 => v = some (.int (nI (64 * p + 8 * y + x))) ∧ h2 = h) := by
  have e : (64 : Int32) * nI p + 8 * nI y + nI x = nI (64 * p + 8 * y + x) := by
    rw [show (64 : Int32) = nI 64 from rfl, show (8 : Int32) = nI 8 from rfl, pk_mul, pk_mul, nI_add, nI_add]
  refine Mt_of (cc := cX5_cellOf) (maxL := 3) (ret := (some .int)) (own := RX5) [some (.int (nI p)), some (.int (nI x)), some (.int (nI y))] rfl (by decide +kernel) rfl rfl (by exact Nat.le_of_ble_eq_true rfl) rfl ?_
  intro p9 e9 s9 m9 args9 below9 meth9 c9 C hr hnm
  refine V_bipush (v := 64) C dX5_cellOf_0 (by decide) ?_
  refine V_iload_n (i := 0) C dX5_cellOf_2 rfl rfl ?_
  refine V_imul C dX5_cellOf_3 ?_
  refine V_bipush (v := 8) C dX5_cellOf_4 (by decide) ?_
  refine V_iload_n (i := 2) C dX5_cellOf_6 rfl rfl ?_
  refine V_imul C dX5_cellOf_7 ?_
  refine V_iadd C dX5_cellOf_8 ?_
  refine V_iload_n (i := 1) C dX5_cellOf_9 rfl rfl ?_
  refine V_iadd C dX5_cellOf_10 ?_
  exact V_iret C dX5_cellOf_11 hr ⟨by rw [e], rfl⟩ (by exact Nat.le_of_ble_eq_true rfl) (by exact Nat.le_of_ble_eq_true rfl)
set_option maxHeartbeats 4000000 in
set_option maxRecDepth 100000 in
theorem r_isCrew {x : Int32} : Mt l D cA bs yX5_isCrew wsX5_isCrew (rmk 1 0 0) [.int x] h (fun v h2 => v = some (.int (if okR x 0 2 then 1 else 0)) ∧ h2 = h) := by
  refine Mt_of (cc := cX5_isCrew) (maxL := 1) (ret := (some .boolean)) (own := RX5) [some (.int x)] rfl (by decide +kernel) rfl rfl (by exact Nat.le_of_ble_eq_true rfl) rfl ?_
  intro p9 e9 s9 m9 args9 below9 meth9 c9 C hr hnm
  refine V_iload_n (i := 0) C dX5_isCrew_0 rfl rfl ?_
  refine V_iconst (v := 0) C dX5_isCrew_1 (by decide) ?_
  refine V_iconst (v := 2) C dX5_isCrew_2 (by decide) ?_
  refine V_callS (n := 3) C (r_in) dX5_isCrew_3 gX5_isCrew_X5_in rfl (by decide +kernel) rfl rfl (by exact Nat.le_of_ble_eq_true rfl) ⟨Nat.le_of_ble_eq_true rfl, Nat.le_of_ble_eq_true rfl⟩ ⟨Nat.le_of_ble_eq_true rfl, Nat.le_of_ble_eq_true rfl⟩ (fun v9 h9 hr9 => ?_)
  obtain ⟨rfl, rfl⟩ := hr9
  exact V_zret C dX5_isCrew_6 hr (by split <;> rfl) ⟨rfl, rfl⟩ (by exact Nat.le_of_ble_eq_true rfl) (by exact Nat.le_of_ble_eq_true rfl)
set_option maxHeartbeats 4000000 in
set_option maxRecDepth 100000 in
theorem r_isLot (r : MR cA A I F n h) {x : Int32} : Mt l D cA bs yX5_isLot wsX5_isLot (rmk 1 0 0) [.ref (A 0), .int x] h (fun v h2 => v = some (.int (if okR x 0 (n.2.2.1 - 1) then 1 else 0)) ∧ h2 = h) := by
  have m0 := r.m0
  refine Mt_of (cc := cX5_isLot) (maxL := 2) (ret := (some .boolean)) (own := RX5) [some (.ref (A 0)), some (.int x)] rfl (by decide +kernel) rfl rfl (by exact Nat.le_of_ble_eq_true rfl) rfl ?_
  intro p9 e9 s9 m9 args9 below9 meth9 c9 C hr hnm
  refine V_iload_n (i := 1) C dX5_isLot_0 rfl rfl ?_
  refine V_iconst (v := 0) C dX5_isLot_1 (by decide) ?_
  refine V_aload_n (i := 0) C dX5_isLot_2 rfl rfl ?_
  refine V_get (ci := 5) (CN := RX5) (T := TX5) (N := 26) C dX5_isLot_3 (by first | assumption | exact hset_s _ _ _) rfl 2 (by decide) flX5_isLot_82 wiX5_isLot_X5 (by rfl) ?_
  refine V_iconst (v := 1) C dX5_isLot_6 (by decide) ?_
  refine V_isub C dX5_isLot_7 ?_
  refine V_callS (n := 3) C (r_in) dX5_isLot_8 gX5_isLot_X5_in rfl (by decide +kernel) rfl rfl (by exact Nat.le_of_ble_eq_true rfl) ⟨Nat.le_of_ble_eq_true rfl, Nat.le_of_ble_eq_true rfl⟩ ⟨Nat.le_of_ble_eq_true rfl, Nat.le_of_ble_eq_true rfl⟩ (fun v9 h9 hr9 => ?_)
  obtain ⟨rfl, rfl⟩ := hr9
  exact V_zret C dX5_isLot_11 hr (by split <;> rfl) ⟨rfl, rfl⟩ (by exact Nat.le_of_ble_eq_true rfl) (by exact Nat.le_of_ble_eq_true rfl)
set_option maxHeartbeats 4000000 in
set_option maxRecDepth 100000 in
theorem r_isPicture (r : MR cA A I F n h) {x : Int32} : Mt l D cA bs yX5_isPicture wsX5_isPicture (rmk 1 0 0) [.ref (A 0), .int x] h (fun v h2 => v = some (.int (if okR x 0 (n.2.2.2 - 1) then 1 else 0)) ∧ h2 = h) := by
  have m0 := r.m0
  refine Mt_of (cc := cX5_isPicture) (maxL := 2) (ret := (some .boolean)) (own := RX5) [some (.ref (A 0)), some (.int x)] rfl (by decide +kernel) rfl rfl (by exact Nat.le_of_ble_eq_true rfl) rfl ?_
  intro p9 e9 s9 m9 args9 below9 meth9 c9 C hr hnm
  refine V_iload_n (i := 1) C dX5_isPicture_0 rfl rfl ?_
  refine V_iconst (v := 0) C dX5_isPicture_1 (by decide) ?_
  refine V_aload_n (i := 0) C dX5_isPicture_2 rfl rfl ?_
  refine V_get (ci := 5) (CN := RX5) (T := TX5) (N := 26) C dX5_isPicture_3 (by first | assumption | exact hset_s _ _ _) rfl 9 (by decide) flX5_isPicture_89 wiX5_isPicture_X5 (by rfl) ?_
  refine V_iconst (v := 1) C dX5_isPicture_6 (by decide) ?_
  refine V_isub C dX5_isPicture_7 ?_
  refine V_callS (n := 3) C (r_in) dX5_isPicture_8 gX5_isPicture_X5_in rfl (by decide +kernel) rfl rfl (by exact Nat.le_of_ble_eq_true rfl) ⟨Nat.le_of_ble_eq_true rfl, Nat.le_of_ble_eq_true rfl⟩ ⟨Nat.le_of_ble_eq_true rfl, Nat.le_of_ble_eq_true rfl⟩ (fun v9 h9 hr9 => ?_)
  obtain ⟨rfl, rfl⟩ := hr9
  exact V_zret C dX5_isPicture_11 hr (by split <;> rfl) ⟨rfl, rfl⟩ (by exact Nat.le_of_ble_eq_true rfl) (by exact Nat.le_of_ble_eq_true rfl)
set_option maxHeartbeats 4000000 in
set_option maxRecDepth 100000 in
theorem r_left (r : MR cA A I F n h) {k : Nat} (hk : k < 12) : Mt l D cA bs yX5_left wsX5_left (rmk 0 0 0) [.ref (A 0), .int (nI k)] h (fun v h2 => v = some (.int (I 4 k - I 7 k - I 8 k)) ∧ h2 = h) := by
  have m0 := r.m0
  have m4 := r.m4
  have m7 := r.m7
  have m8 := r.m8
  refine Mt_of (cc := cX5_left) (maxL := 2) (ret := (some .int)) (own := RX5) [some (.ref (A 0)), some (.int (nI k))] rfl (by decide +kernel) rfl rfl (by exact Nat.le_of_ble_eq_true rfl) rfl ?_
  intro p9 e9 s9 m9 args9 below9 meth9 c9 C hr hnm
  refine V_aload_n (i := 0) C dX5_left_0 rfl rfl ?_
  refine V_get (ci := 5) (CN := RX5) (T := TX5) (N := 26) C dX5_left_1 (by first | assumption | exact hset_s _ _ _) rfl 4 (by decide) flX5_left_13 wiX5_left_X5 (by rfl) ?_
  refine V_iload_n (i := 1) C dX5_left_4 rfl rfl ?_
  refine V_ialdK C dX5_left_5 (by first | assumption | exact hset_s _ _ _) rfl hk (by decide) rfl ?_
  refine V_aload_n (i := 0) C dX5_left_6 rfl rfl ?_
  refine V_get (ci := 5) (CN := RX5) (T := TX5) (N := 26) C dX5_left_7 (by first | assumption | exact hset_s _ _ _) rfl 7 (by decide) flX5_left_24 wiX5_left_X5 (by rfl) ?_
  refine V_iload_n (i := 1) C dX5_left_10 rfl rfl ?_
  refine V_ialdK C dX5_left_11 (by first | assumption | exact hset_s _ _ _) rfl hk (by decide) rfl ?_
  refine V_isub C dX5_left_12 ?_
  refine V_aload_n (i := 0) C dX5_left_13 rfl rfl ?_
  refine V_get (ci := 5) (CN := RX5) (T := TX5) (N := 26) C dX5_left_14 (by first | assumption | exact hset_s _ _ _) rfl 8 (by decide) flX5_left_27 wiX5_left_X5 (by rfl) ?_
  refine V_iload_n (i := 1) C dX5_left_17 rfl rfl ?_
  refine V_ialdK C dX5_left_18 (by first | assumption | exact hset_s _ _ _) rfl hk (by decide) rfl ?_
  refine V_isub C dX5_left_19 ?_
  exact V_iret C dX5_left_20 hr ⟨rfl, rfl⟩ (by exact Nat.le_of_ble_eq_true rfl) (by exact Nat.le_of_ble_eq_true rfl)
set_option maxHeartbeats 4000000 in
set_option maxRecDepth 100000 in
theorem r_asked1 (r : MR cA A I F n h) {x : Int32} {P : Prop} [Decidable P] (hx : x = if P then 1 else 0) : Mt l D cA bs yX5_asked wsX5_asked (rmk 0 0 0) [.ref (A 0), .int x] h (fun v h2 => v = some (.int x) ∧ MR cA A I F ((if P then 0 else 1), n.2) h2 ∧ mfr h h2) := by
  have m0 := r.m0
  by_cases hp : P
  · rw [if_pos hp] at hx ⊢
    subst hx
    refine Mt_of (cc := cX5_asked) (maxL := 2) (ret := (some .boolean)) (own := RX5) [some (.ref (A 0)), some (.int 1)] rfl (by decide +kernel) rfl rfl (by exact Nat.le_of_ble_eq_true rfl) rfl ?_
    intro p9 e9 s9 m9 args9 below9 meth9 c9 C hr hnm
    refine V_aload_n (i := 0) C dX5_asked_0 rfl rfl ?_
    refine V_iload_n (i := 1) C dX5_asked_1 rfl rfl ?_
    refine V_if_eq (tgt := 9) C dX5_asked_2 (by decide) (fun z9 => absurd z9 (by decide)) (fun _ => ?_)
    refine V_iconst (v := 0) C dX5_asked_5 (by decide) ?_
    refine V_goto (tgt := 10) C dX5_asked_6 (by decide) ?_
    refine V_put (ci := 5) (CN := RX5) (T := TX5) (N := 26) (ty := (tyX5 0)) C dX5_asked_10 (by first | assumption | exact hset_s _ _ _) rfl tyX5 tyX5_ok nmX5 0 (by decide) flX5_asked_78 wiX5_asked_X5 rfl (tyX5_ok 0 (by decide)) (by rfl) (by rfl) (by exact Nat.le_of_ble_eq_true rfl) ?_
    refine V_iload_n (i := 1) C dX5_asked_13 rfl rfl ?_
    exact V_zret C dX5_asked_14 hr (by rfl) ⟨rfl, r.setN (0, n.2), r.f0 _⟩ (by exact Nat.le_of_ble_eq_true rfl) (by exact Nat.le_of_ble_eq_true rfl)
  · rw [if_neg hp] at hx ⊢
    subst hx
    refine Mt_of (cc := cX5_asked) (maxL := 2) (ret := (some .boolean)) (own := RX5) [some (.ref (A 0)), some (.int 0)] rfl (by decide +kernel) rfl rfl (by exact Nat.le_of_ble_eq_true rfl) rfl ?_
    intro p9 e9 s9 m9 args9 below9 meth9 c9 C hr hnm
    refine V_aload_n (i := 0) C dX5_asked_0 rfl rfl ?_
    refine V_iload_n (i := 1) C dX5_asked_1 rfl rfl ?_
    refine V_if_eq (tgt := 9) C dX5_asked_2 (by decide) (fun _ => ?_) (fun z9 => absurd rfl z9)
    refine V_iconst (v := 1) C dX5_asked_9 (by decide) ?_
    refine V_put (ci := 5) (CN := RX5) (T := TX5) (N := 26) (ty := (tyX5 0)) C dX5_asked_10 (by first | assumption | exact hset_s _ _ _) rfl tyX5 tyX5_ok nmX5 0 (by decide) flX5_asked_78 wiX5_asked_X5 rfl (tyX5_ok 0 (by decide)) (by rfl) (by rfl) (by exact Nat.le_of_ble_eq_true rfl) ?_
    refine V_iload_n (i := 1) C dX5_asked_13 rfl rfl ?_
    exact V_zret C dX5_asked_14 hr (by rfl) ⟨rfl, r.setN (1, n.2), r.f0 _⟩ (by exact Nat.le_of_ble_eq_true rfl) (by exact Nat.le_of_ble_eq_true rfl)
end LEAVES
