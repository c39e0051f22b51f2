/-! V: the walk over an abstract heap: cells by address; locals by position -/
abbrev hE := Nat → Option va_E
def hset (h : hE) (a : Nat) (e : va_E) : hE := fun q => if q = a then some e else h q
theorem hset_s (h : hE) (a : Nat) (e : va_E) : hset h a e a = some e := if_pos rfl
theorem hset_n {h : hE} {a q : Nat} {e : va_E} (n : q ≠ a) : hset h a e q = h q := if_neg n
theorem hset_hset (h : hE) (a : Nat) (e e' : va_E) : hset (hset h a e) a e' = hset h a e' := by
  funext q
  unfold hset
  by_cases hq : q = a
  · rw [if_pos hq, if_pos hq]
  · rw [if_neg hq, if_neg hq, if_neg hq]
theorem hset_same {h : hE} {a : Nat} {e : va_E} (he : h a = some e) : hset h a e = h := by
  funext q
  unfold hset
  by_cases hq : q = a
  · rw [if_pos hq, hq, he]
  · rw [if_neg hq]
theorem hset_comm {h : hE} {a b : Nat} {e e' : va_E} (n : a ≠ b) : hset (hset h a e) b e' = hset (hset h b e') a e := by
  funext q
  by_cases hq : q = a
  · have hb : q ≠ b := fun z => n (hq.symm.trans z)
    simp [hset, hq, n]
  · by_cases hb : q = b
    · simp [hset, hq, hb, Ne.symm n]
    · simp [hset, hq, hb]
/-- the array classes: int, float, boolean, long, and of lots, pictures, crews, cells -/
def tyl (cA : Nat → ClassId) : List (ClassId × FieldType) := [(cA 0, .object RX2), (cA 1, .object RX2), (cA 2, .object RX2), (cA 3, .object RX2), (cA 4, .object RX2), (cA 5, .object RX3), (cA 6, .object RX1), (cA 7, .object RX0)]
/-- the list ws holds what h holds -/
def hEn (h : hE) (ws : va_W) : Prop := ∀ (a : Nat) (e : va_E), h a = some e ↔ (a, e) ∈ ws
def hRp (D : va_G) (bs : Nat) (h : hE) (H : Heap) : Prop := ∃ ws : va_W, hEn h ws ∧ va_P D vwCl ws H ∧ va_D (fun q => bs ≤ q) ws
theorem hEn.at {h : hE} {ws : va_W} (w : hEn h ws) {a : Nat} {e : va_E} (he : h a = some e) : ∃ k : Nat, ws[k]? = some (a, e) := List.getElem?_of_mem ((w a e).mp he)
theorem hEn.set {h : hE} {ws : va_W} (w : hEn h ws) {A : Nat → Prop} (hD : va_D A ws) {k a : Nat} {e e' : va_E} (hk : ws[k]? = some (a, e)) : hEn (hset h a e') (ws.set k (a, e')) := by
  have hl := (List.getElem?_eq_some_iff.mp hk).1
  intro b f
  constructor
  · intro hb
    by_cases hba : b = a
    · subst hba
      rw [hset_s] at hb
      cases hb
      exact List.mem_of_getElem? (i := k) (List.getElem?_set_self hl)
    · rw [hset_n hba] at hb
      obtain ⟨j, hj⟩ := w.at hb
      have hjk : k ≠ j := by
        intro z
        subst z
        rw [hk] at hj
        cases hj
        exact hba rfl
      exact List.mem_of_getElem? (i := j) (by rw [List.getElem?_set_ne hjk]; exact hj)
  · intro hm
    obtain ⟨j, hj⟩ := List.getElem?_of_mem hm
    by_cases hjk : k = j
    · subst hjk
      rw [List.getElem?_set_self hl] at hj
      cases hj
      exact hset_s _ _ _
    · rw [List.getElem?_set_ne hjk] at hj
      have hba : b ≠ a := fun z => hjk ((hD.1 j k (b, f) (a, e) hj hk z).symm)
      rw [hset_n hba]
      exact (w b f).mpr (List.mem_of_getElem? hj)
theorem hEn.push {h : hE} {ws : va_W} (w : hEn h ws) {A : Nat → Prop} {a : Nat} {e : va_E} (hD : va_D A (ws ++ [(a, e)])) : hEn (hset h a e) (ws ++ [(a, e)]) ∧ h a = none := by
  have hn : h a = none := by
    cases hc : h a with
    | none => rfl
    | some f =>
      obtain ⟨j, hj⟩ := w.at hc
      have hl := (List.getElem?_eq_some_iff.mp hj).1
      have := hD.1 j ws.length (a, f) (a, e) (by rw [List.getElem?_append_left hl]; exact hj) (by rw [List.getElem?_append_right (Nat.le_refl _), Nat.sub_self]; rfl) rfl
      omega
  refine ⟨fun b f => ⟨fun hb => ?_, fun hm => ?_⟩, hn⟩
  · by_cases hba : b = a
    · subst hba
      rw [hset_s] at hb
      cases hb
      exact List.mem_append_right _ List.mem_cons_self
    · rw [hset_n hba] at hb
      exact List.mem_append_left _ ((w b f).mp hb)
  · rcases List.mem_append.mp hm with h1 | h1
    · have hb := (w b f).mpr h1
      have hba : b ≠ a := by
        intro z
        subst z
        rw [hn] at hb
        cases hb
      rw [hset_n hba]
      exact hb
    · cases List.mem_singleton.mp h1
      exact hset_s _ _ _
theorem hRp.lt {D : va_G} {bs : Nat} {h : hE} {H : Heap} (r : hRp D bs h H) {a : Nat} {e : va_E} (he : h a = some e) : a < H.size ∧ bs ≤ a := by
  obtain ⟨ws, w, hP, hD⟩ := r
  obtain ⟨k, hk⟩ := w.at he
  exact ⟨(hP k _ hk).lt, hD.2 k _ hk⟩
/-- an array's class is one -/
theorem va_RA.uniq {U : State} {a b : ClassId} {ty : FieldType} (h1 : va_RA U a ty) (h2 : va_RA U b ty) : a = b := by
  cases ty with
  | object C =>
    obtain ⟨_, _, -, -, -, e1⟩ := h1
    obtain ⟨_, _, -, -, -, e2⟩ := h2
    exact Option.some.inj (e1.symm.trans e2)
  | _ => exact Option.some.inj ((show U.vm.findClass _ = some a from h1).symm.trans (show U.vm.findClass _ = some b from h2))
theorem va_K.last {D : va_G} {cl : List vw_C} {tys : List (ClassId × FieldType)} {U : State} {a b : ClassId} {ty : FieldType} (h : va_K D cl (tys ++ [(a, ty)]) U) {t0 : Nat} (h0 : tys[t0]? = some (b, ty)) : a = b := by
  have hl := (List.getElem?_eq_some_iff.mp h0).1
  exact va_RA.uniq (h.2 tys.length (a, ty) (by rw [List.getElem?_append_right (Nat.le_refl _), Nat.sub_self]; rfl)).2 (h.2 t0 (b, ty) (by rw [List.getElem?_append_left hl]; exact h0)).2
/-- locals by position, all of one slot -/
def lvo (la : Array Slot) (nL : Nat) (ls : List (Option Value)) : Prop := la.size = nL ∧ lv_wf la ∧ ∀ (i : Nat) (v : Value), ls[i]? = some (some v) → la[i]? = some (.val v) ∧ v.category = 1
def lpr (ls : List (Option Value)) : List (Nat × Value) := (List.range ls.length).filterMap (fun j => match ls[j]? with | some (some v) => some (j, v) | _ => none)
theorem lpr_mem {ls : List (Option Value)} {j : Nat} {v : Value} : (j, v) ∈ lpr ls ↔ ls[j]? = some (some v) := by
  unfold lpr
  rw [List.mem_filterMap]
  constructor
  · rintro ⟨i, -, hi⟩
    split at hi
    · rename_i w hw
      cases hi
      exact hw
    · cases hi
  · intro hj
    exact ⟨j, List.mem_range.mpr (List.getElem?_eq_some_iff.mp hj).1, by rw [hj]⟩
theorem lvo.has {la : Array Slot} {nL : Nat} {ls : List (Option Value)} (h : lvo la nL ls) : lv_has la nL (lpr ls) := ⟨h.1, h.2.1, fun q hq => (h.2.2 q.1 q.2 (lpr_mem.mp hq)).1⟩
theorem lvo.at {la : Array Slot} {nL : Nat} {ls : List (Option Value)} (h : lvo la nL ls) {i : Nat} {v : Value} (hi : ls[i]? = some (some v)) : la[i]? = some (.val v) := (h.2.2 i v hi).1
theorem lvo.put {la la' : Array Slot} {nL : Nat} {ls : List (Option Value)} (h : lvo la nL ls) {i : Nat} {v : Value} {lv : List (Nat × Value)} (hlv : ∀ (j : Nat) (w : Value), ls[j]? = some (some w) → (j, w) ∈ lv) (hc : v.category = 1) (h' : lv_has la' nL ((i, v) :: lv.filter (fun q => !(q.1 == i) && !(q.1 + 1 == i && q.2.category == 2)))) : lvo la' nL (ls.set i (some v)) := by
  refine ⟨h'.1, h'.2.1, fun j w hj => ?_⟩
  by_cases hji : i = j
  · subst hji
    have hl : i < ls.length := by
      have := (List.getElem?_eq_some_iff.mp hj).1
      rwa [List.length_set] at this
    rw [List.getElem?_set_self hl] at hj
    cases hj
    exact ⟨h'.2.2 (i, v) List.mem_cons_self, hc⟩
  · rw [List.getElem?_set_ne hji] at hj
    have hw := (h.2.2 j w hj).2
    refine ⟨h'.2.2 (j, w) (List.mem_cons_of_mem _ (List.mem_filter.mpr ⟨hlv j w hj, ?_⟩)), hw⟩
    simp [Ne.symm hji, hw]
/-- fewer known locals -/
def lle : List (Option Value) → List (Option Value) → Prop
  | [], _ => True
  | none :: a, _ :: b => lle a b
  | some v :: a, x :: b => x = some v ∧ lle a b
  | _ :: _, [] => False
theorem lle_at : ∀ {a b : List (Option Value)}, lle a b → ∀ (i : Nat) (v : Value), a[i]? = some (some v) → b[i]? = some (some v)
  | [], _, _, i, v, hi => by simp at hi
  | none :: a, x :: b, h, i, v, hi => by
    cases i with
    | zero => simp at hi
    | succ i => rw [List.getElem?_cons_succ] at hi ⊢; exact lle_at (show lle a b from h) i v hi
  | some w :: a, x :: b, h, i, v, hi => by
    cases i with
    | zero => rw [List.getElem?_cons_zero] at hi ⊢; cases hi; rw [show x = some w from h.1]
    | succ i => rw [List.getElem?_cons_succ] at hi ⊢; exact lle_at (show lle a b from h.2) i v hi
  | none :: _, [], h, _, _, _ => False.elim h
  | some _ :: _, [], h, _, _, _ => False.elim h
theorem lvo.sub {la : Array Slot} {nL : Nat} {a b : List (Option Value)} (h : lvo la nL b) (hl : lle a b) : lvo la nL a := ⟨h.1, h.2.1, fun i v hi => h.2.2 i v (lle_at hl i v hi)⟩
def V (p : Program) (l : Launch) (e : Env) (R : Room) (s : State) (m : MethodId) (args : Array Value) (below : List Frame) (meth : Method) (c : Code) (D : va_G) (bs nL : Nat) (h : hE) (cells slots : Nat) (Q : State → Prop) (pc : Nat) (ls : List (Option Value)) (st : List Value) : Prop :=
  ∀ (H : Heap) (locs : List Loc) (la : Array Slot), hRp D bs h H → va_S (fun q => bs ≤ q) s.heap H locs → lvo la nL ls → W p l e R s m args below meth c H locs cells slots Q (F0 m pc la st)
/-- what stays through a walk -/
def Cx (p : Program) (s : State) (m : MethodId) (meth : Method) (c : Code) (cc : ByteArray) (nL : Nat) (args : Array Value) (Ts : List Cond) (own : String) (D : va_G) (cA : Nat → ClassId) (bs : Nat) : Prop :=
  CallFix p m c cc nL s args Ts own ∧ va_K D vwCl (tyl cA) s ∧ bs ≤ s.heap.size ∧ meth.locks = false
section VM
variable {p : Program} {l : Launch} {e : Env} {R : Room} {s : State} {m : MethodId} {args : Array Value} {below : List Frame} {meth : Method} {c : Code} {D : va_G} {cA : Nat → ClassId} {bs nL : Nat} {h : hE} {cells slots : Nat} {Q : State → Prop} {pc : Nat} {ls : List (Option Value)} {rest : List Value} {cc : ByteArray} {Ts : List Cond} {own : String}
theorem V_iconst (C : Cx p s m meth c cc nL args Ts own D cA bs) {n : Int} {v : Int32} (hdg : decode cc pc = .ok (.iconst n, 1)) (hv : Int32.ofInt n = v)
    (k : V p l e R s m args below meth c D bs nL h cells slots Q (pc + 1) (ls) (.int v :: rest)) : V p l e R s m args below meth c D bs nL h cells slots Q (pc) (ls) (rest) := by
  obtain ⟨⟨hx, hb, hml, hown, hts⟩, hK, hbs, hlkm⟩ := C
  intro H locs la hR hS hl
  exact lv_iconst hx hb hdg hv (k H locs la hR hS hl)
theorem V_lconst (C : Cx p s m meth c cc nL args Ts own D cA bs) {n : Fin 2} {v : Int64} (hdg : decode cc pc = .ok (.lconst n, 1)) (hv : Int64.ofNat (n : Nat) = v)
    (k : V p l e R s m args below meth c D bs nL h cells slots Q (pc + 1) (ls) (.long v :: rest)) : V p l e R s m args below meth c D bs nL h cells slots Q (pc) (ls) (rest) := by
  obtain ⟨⟨hx, hb, hml, hown, hts⟩, hK, hbs, hlkm⟩ := C
  intro H locs la hR hS hl
  exact lv_lconst hx hb hdg hv (k H locs la hR hS hl)
theorem V_bipush (C : Cx p s m meth c cc nL args Ts own D cA bs) {n : Int} {v : Int32} (hdg : decode cc pc = .ok (.bipush n, 2)) (hv : (Int8.ofInt n).toInt32 = v)
    (k : V p l e R s m args below meth c D bs nL h cells slots Q (pc + 2) (ls) (.int v :: rest)) : V p l e R s m args below meth c D bs nL h cells slots Q (pc) (ls) (rest) := by
  obtain ⟨⟨hx, hb, hml, hown, hts⟩, hK, hbs, hlkm⟩ := C
  intro H locs la hR hS hl
  exact lv_bipush hx hb hdg hv (k H locs la hR hS hl)
theorem V_sipush (C : Cx p s m meth c cc nL args Ts own D cA bs) {n : Int} {v : Int32} (hdg : decode cc pc = .ok (.sipush n, 3)) (hv : (Int16.ofInt n).toInt32 = v)
    (k : V p l e R s m args below meth c D bs nL h cells slots Q (pc + 3) (ls) (.int v :: rest)) : V p l e R s m args below meth c D bs nL h cells slots Q (pc) (ls) (rest) := by
  obtain ⟨⟨hx, hb, hml, hown, hts⟩, hK, hbs, hlkm⟩ := C
  intro H locs la hR hS hl
  exact lv_sipush hx hb hdg hv (k H locs la hR hS hl)
theorem V_fconst0 (C : Cx p s m meth c cc nL args Ts own D cA bs)  (hdg : decode cc pc = .ok (.fconst 0, 1)) 
    (k : V p l e R s m args below meth c D bs nL h cells slots Q (pc + 1) (ls) (.float FP.fconst0 :: rest)) : V p l e R s m args below meth c D bs nL h cells slots Q (pc) (ls) (rest) := by
  obtain ⟨⟨hx, hb, hml, hown, hts⟩, hK, hbs, hlkm⟩ := C
  intro H locs la hR hS hl
  exact lv_fconst0 hx hb hdg  (k H locs la hR hS hl)
theorem V_fconst1 (C : Cx p s m meth c cc nL args Ts own D cA bs)  (hdg : decode cc pc = .ok (.fconst 1, 1)) 
    (k : V p l e R s m args below meth c D bs nL h cells slots Q (pc + 1) (ls) (.float FP.fconst1 :: rest)) : V p l e R s m args below meth c D bs nL h cells slots Q (pc) (ls) (rest) := by
  obtain ⟨⟨hx, hb, hml, hown, hts⟩, hK, hbs, hlkm⟩ := C
  intro H locs la hR hS hl
  exact lv_fconst1 hx hb hdg  (k H locs la hR hS hl)
theorem V_fconst2 (C : Cx p s m meth c cc nL args Ts own D cA bs)  (hdg : decode cc pc = .ok (.fconst 2, 1)) 
    (k : V p l e R s m args below meth c D bs nL h cells slots Q (pc + 1) (ls) (.float FP.fconst2 :: rest)) : V p l e R s m args below meth c D bs nL h cells slots Q (pc) (ls) (rest) := by
  obtain ⟨⟨hx, hb, hml, hown, hts⟩, hK, hbs, hlkm⟩ := C
  intro H locs la hR hS hl
  exact lv_fconst2 hx hb hdg  (k H locs la hR hS hl)
theorem V_null (C : Cx p s m meth c cc nL args Ts own D cA bs)  (hdg : decode cc pc = .ok (.aconst_null, 1)) 
    (k : V p l e R s m args below meth c D bs nL h cells slots Q (pc + 1) (ls) (.null :: rest)) : V p l e R s m args below meth c D bs nL h cells slots Q (pc) (ls) (rest) := by
  obtain ⟨⟨hx, hb, hml, hown, hts⟩, hK, hbs, hlkm⟩ := C
  intro H locs la hR hS hl
  exact lv_null hx hb hdg  (k H locs la hR hS hl)
theorem V_iadd (C : Cx p s m meth c cc nL args Ts own D cA bs) {x y : Int32} (hdg : decode cc pc = .ok (.iadd, 1)) 
    (k : V p l e R s m args below meth c D bs nL h cells slots Q (pc + 1) (ls) (.int (x + y) :: rest)) : V p l e R s m args below meth c D bs nL h cells slots Q (pc) (ls) (.int y :: .int x :: rest) := by
  obtain ⟨⟨hx, hb, hml, hown, hts⟩, hK, hbs, hlkm⟩ := C
  intro H locs la hR hS hl
  exact lv_iadd hx hb hdg  (k H locs la hR hS hl)
theorem V_isub (C : Cx p s m meth c cc nL args Ts own D cA bs) {x y : Int32} (hdg : decode cc pc = .ok (.isub, 1)) 
    (k : V p l e R s m args below meth c D bs nL h cells slots Q (pc + 1) (ls) (.int (x - y) :: rest)) : V p l e R s m args below meth c D bs nL h cells slots Q (pc) (ls) (.int y :: .int x :: rest) := by
  obtain ⟨⟨hx, hb, hml, hown, hts⟩, hK, hbs, hlkm⟩ := C
  intro H locs la hR hS hl
  exact lv_isub hx hb hdg  (k H locs la hR hS hl)
theorem V_imul (C : Cx p s m meth c cc nL args Ts own D cA bs) {x y : Int32} (hdg : decode cc pc = .ok (.imul, 1)) 
    (k : V p l e R s m args below meth c D bs nL h cells slots Q (pc + 1) (ls) (.int (x * y) :: rest)) : V p l e R s m args below meth c D bs nL h cells slots Q (pc) (ls) (.int y :: .int x :: rest) := by
  obtain ⟨⟨hx, hb, hml, hown, hts⟩, hK, hbs, hlkm⟩ := C
  intro H locs la hR hS hl
  exact lv_imul hx hb hdg  (k H locs la hR hS hl)
theorem V_iand (C : Cx p s m meth c cc nL args Ts own D cA bs) {x y : Int32} (hdg : decode cc pc = .ok (.iand, 1)) 
    (k : V p l e R s m args below meth c D bs nL h cells slots Q (pc + 1) (ls) (.int (x &&& y) :: rest)) : V p l e R s m args below meth c D bs nL h cells slots Q (pc) (ls) (.int y :: .int x :: rest) := by
  obtain ⟨⟨hx, hb, hml, hown, hts⟩, hK, hbs, hlkm⟩ := C
  intro H locs la hR hS hl
  exact lv_iand hx hb hdg  (k H locs la hR hS hl)
theorem V_ior (C : Cx p s m meth c cc nL args Ts own D cA bs) {x y : Int32} (hdg : decode cc pc = .ok (.ior, 1)) 
    (k : V p l e R s m args below meth c D bs nL h cells slots Q (pc + 1) (ls) (.int (x ||| y) :: rest)) : V p l e R s m args below meth c D bs nL h cells slots Q (pc) (ls) (.int y :: .int x :: rest) := by
  obtain ⟨⟨hx, hb, hml, hown, hts⟩, hK, hbs, hlkm⟩ := C
  intro H locs la hR hS hl
  exact lv_ior hx hb hdg  (k H locs la hR hS hl)
theorem V_ishl (C : Cx p s m meth c cc nL args Ts own D cA bs) {x y : Int32} (hdg : decode cc pc = .ok (.ishl, 1)) 
    (k : V p l e R s m args below meth c D bs nL h cells slots Q (pc + 1) (ls) (.int (x <<< (y &&& 31)) :: rest)) : V p l e R s m args below meth c D bs nL h cells slots Q (pc) (ls) (.int y :: .int x :: rest) := by
  obtain ⟨⟨hx, hb, hml, hown, hts⟩, hK, hbs, hlkm⟩ := C
  intro H locs la hR hS hl
  exact lv_ishl hx hb hdg  (k H locs la hR hS hl)
theorem V_idiv (C : Cx p s m meth c cc nL args Ts own D cA bs) {x y : Int32} (hdg : decode cc pc = .ok (.idiv, 1)) (hne : ¬ y = 0)
    (k : V p l e R s m args below meth c D bs nL h cells slots Q (pc + 1) (ls) (.int (x / y) :: rest)) : V p l e R s m args below meth c D bs nL h cells slots Q (pc) (ls) (.int y :: .int x :: rest) := by
  obtain ⟨⟨hx, hb, hml, hown, hts⟩, hK, hbs, hlkm⟩ := C
  intro H locs la hR hS hl
  exact lv_idiv hx hb hdg hne (k H locs la hR hS hl)
theorem V_irem (C : Cx p s m meth c cc nL args Ts own D cA bs) {x y : Int32} (hdg : decode cc pc = .ok (.irem, 1)) (hne : ¬ y = 0)
    (k : V p l e R s m args below meth c D bs nL h cells slots Q (pc + 1) (ls) (.int (x - x / y * y) :: rest)) : V p l e R s m args below meth c D bs nL h cells slots Q (pc) (ls) (.int y :: .int x :: rest) := by
  obtain ⟨⟨hx, hb, hml, hown, hts⟩, hK, hbs, hlkm⟩ := C
  intro H locs la hR hS hl
  exact lv_irem hx hb hdg hne (k H locs la hR hS hl)
theorem V_fadd (C : Cx p s m meth c cc nL args Ts own D cA bs) {x y : UInt32} (hdg : decode cc pc = .ok (.fadd, 1)) (hne : vf_n32 (FP.fadd x y))
    (k : V p l e R s m args below meth c D bs nL h cells slots Q (pc + 1) (ls) (.float (FP.fadd x y) :: rest)) : V p l e R s m args below meth c D bs nL h cells slots Q (pc) (ls) (.float y :: .float x :: rest) := by
  obtain ⟨⟨hx, hb, hml, hown, hts⟩, hK, hbs, hlkm⟩ := C
  intro H locs la hR hS hl
  exact lv_fadd hx hb hdg hne (k H locs la hR hS hl)
theorem V_fsub (C : Cx p s m meth c cc nL args Ts own D cA bs) {x y : UInt32} (hdg : decode cc pc = .ok (.fsub, 1)) (hne : vf_n32 (FP.fsub x y))
    (k : V p l e R s m args below meth c D bs nL h cells slots Q (pc + 1) (ls) (.float (FP.fsub x y) :: rest)) : V p l e R s m args below meth c D bs nL h cells slots Q (pc) (ls) (.float y :: .float x :: rest) := by
  obtain ⟨⟨hx, hb, hml, hown, hts⟩, hK, hbs, hlkm⟩ := C
  intro H locs la hR hS hl
  exact lv_fsub hx hb hdg hne (k H locs la hR hS hl)
theorem V_fmul (C : Cx p s m meth c cc nL args Ts own D cA bs) {x y : UInt32} (hdg : decode cc pc = .ok (.fmul, 1)) (hne : vf_n32 (FP.fmul x y))
    (k : V p l e R s m args below meth c D bs nL h cells slots Q (pc + 1) (ls) (.float (FP.fmul x y) :: rest)) : V p l e R s m args below meth c D bs nL h cells slots Q (pc) (ls) (.float y :: .float x :: rest) := by
  obtain ⟨⟨hx, hb, hml, hown, hts⟩, hK, hbs, hlkm⟩ := C
  intro H locs la hR hS hl
  exact lv_fmul hx hb hdg hne (k H locs la hR hS hl)
theorem V_fdiv (C : Cx p s m meth c cc nL args Ts own D cA bs) {x y : UInt32} (hdg : decode cc pc = .ok (.fdiv, 1)) (hne : vf_n32 (FP.fdiv x y))
    (k : V p l e R s m args below meth c D bs nL h cells slots Q (pc + 1) (ls) (.float (FP.fdiv x y) :: rest)) : V p l e R s m args below meth c D bs nL h cells slots Q (pc) (ls) (.float y :: .float x :: rest) := by
  obtain ⟨⟨hx, hb, hml, hown, hts⟩, hK, hbs, hlkm⟩ := C
  intro H locs la hR hS hl
  exact lv_fdiv hx hb hdg hne (k H locs la hR hS hl)
theorem V_fneg (C : Cx p s m meth c cc nL args Ts own D cA bs) {x : UInt32} (hdg : decode cc pc = .ok (.fneg, 1)) 
    (k : V p l e R s m args below meth c D bs nL h cells slots Q (pc + 1) (ls) (.float (FP.fneg x) :: rest)) : V p l e R s m args below meth c D bs nL h cells slots Q (pc) (ls) (.float x :: rest) := by
  obtain ⟨⟨hx, hb, hml, hown, hts⟩, hK, hbs, hlkm⟩ := C
  intro H locs la hR hS hl
  exact lv_fneg hx hb hdg  (k H locs la hR hS hl)
theorem V_fcmp (C : Cx p s m meth c cc nL args Ts own D cA bs) {x y : UInt32} {op : CmpOp} (hdg : decode cc pc = .ok (.fcmp op, 1)) 
    (k : V p l e R s m args below meth c D bs nL h cells slots Q (pc + 1) (ls) (.int (Op.cmpValue (FP.fcmp x y) op) :: rest)) : V p l e R s m args below meth c D bs nL h cells slots Q (pc) (ls) (.float y :: .float x :: rest) := by
  obtain ⟨⟨hx, hb, hml, hown, hts⟩, hK, hbs, hlkm⟩ := C
  intro H locs la hR hS hl
  exact lv_fcmp hx hb hdg  (k H locs la hR hS hl)
theorem V_i2f (C : Cx p s m meth c cc nL args Ts own D cA bs) {x : Int32} (hdg : decode cc pc = .ok (.i2f, 1)) 
    (k : V p l e R s m args below meth c D bs nL h cells slots Q (pc + 1) (ls) (.float (FP.i2f x) :: rest)) : V p l e R s m args below meth c D bs nL h cells slots Q (pc) (ls) (.int x :: rest) := by
  obtain ⟨⟨hx, hb, hml, hown, hts⟩, hK, hbs, hlkm⟩ := C
  intro H locs la hR hS hl
  exact lv_i2f hx hb hdg  (k H locs la hR hS hl)
theorem V_f2i (C : Cx p s m meth c cc nL args Ts own D cA bs) {x : UInt32} (hdg : decode cc pc = .ok (.f2i, 1)) 
    (k : V p l e R s m args below meth c D bs nL h cells slots Q (pc + 1) (ls) (.int (FP.f2i x) :: rest)) : V p l e R s m args below meth c D bs nL h cells slots Q (pc) (ls) (.float x :: rest) := by
  obtain ⟨⟨hx, hb, hml, hown, hts⟩, hK, hbs, hlkm⟩ := C
  intro H locs la hR hS hl
  exact lv_f2i hx hb hdg  (k H locs la hR hS hl)
theorem V_i2l (C : Cx p s m meth c cc nL args Ts own D cA bs) {x : Int32} {v : Int64} (hdg : decode cc pc = .ok (.i2l, 1)) (hv : x.toInt64 = v)
    (k : V p l e R s m args below meth c D bs nL h cells slots Q (pc + 1) (ls) (.long v :: rest)) : V p l e R s m args below meth c D bs nL h cells slots Q (pc) (ls) (.int x :: rest) := by
  obtain ⟨⟨hx, hb, hml, hown, hts⟩, hK, hbs, hlkm⟩ := C
  intro H locs la hR hS hl
  exact lv_i2l hx hb hdg hv (k H locs la hR hS hl)
theorem V_dup (C : Cx p s m meth c cc nL args Ts own D cA bs) {va : Value} (hdg : decode cc pc = .ok (.dup, 1)) (hva : va.category = 1)
    (k : V p l e R s m args below meth c D bs nL h cells slots Q (pc + 1) (ls) (va :: va :: rest)) : V p l e R s m args below meth c D bs nL h cells slots Q (pc) (ls) (va :: rest) := by
  obtain ⟨⟨hx, hb, hml, hown, hts⟩, hK, hbs, hlkm⟩ := C
  intro H locs la hR hS hl
  exact lv_dup hx hb hdg hva (k H locs la hR hS hl)
theorem V_dup2 (C : Cx p s m meth c cc nL args Ts own D cA bs) {va vb : Value} (hdg : decode cc pc = .ok (.dup2, 1)) (hva : va.category = 1) (hvb : vb.category = 1)
    (k : V p l e R s m args below meth c D bs nL h cells slots Q (pc + 1) (ls) (va :: vb :: va :: vb :: rest)) : V p l e R s m args below meth c D bs nL h cells slots Q (pc) (ls) (va :: vb :: rest) := by
  obtain ⟨⟨hx, hb, hml, hown, hts⟩, hK, hbs, hlkm⟩ := C
  intro H locs la hR hS hl
  exact lv_dup2_11 hx hb hdg hva hvb (k H locs la hR hS hl)
theorem V_pop (C : Cx p s m meth c cc nL args Ts own D cA bs) {va : Value} (hdg : decode cc pc = .ok (.pop, 1)) (hva : va.category = 1)
    (k : V p l e R s m args below meth c D bs nL h cells slots Q (pc + 1) (ls) (rest)) : V p l e R s m args below meth c D bs nL h cells slots Q (pc) (ls) (va :: rest) := by
  obtain ⟨⟨hx, hb, hml, hown, hts⟩, hK, hbs, hlkm⟩ := C
  intro H locs la hR hS hl
  exact lv_pop hx hb hdg hva (k H locs la hR hS hl)
theorem V_ldcf (C : Cx p s m meth c cc nL args Ts own D cA bs) {index : Nat} {v : UInt32} (hdg : decode cc pc = .ok (.ldc index, 2)) (hc : Cond.constantFloat own index v ∈ Ts)
    (k : V p l e R s m args below meth c D bs nL h cells slots Q (pc + 2) (ls) (.float v :: rest)) : V p l e R s m args below meth c D bs nL h cells slots Q (pc) (ls) (rest) := by
  obtain ⟨⟨hx, hb, hml, hown, hts⟩, hK, hbs, hlkm⟩ := C
  intro H locs la hR hS hl
  exact lv_ldcf hx hb hown (hts _ hc) hdg  (k H locs la hR hS hl)
theorem V_ldci (C : Cx p s m meth c cc nL args Ts own D cA bs) {index : Nat} {v : Int32} (hdg : decode cc pc = .ok (.ldc index, 2)) (hc : Cond.constant own index v ∈ Ts)
    (k : V p l e R s m args below meth c D bs nL h cells slots Q (pc + 2) (ls) (.int v :: rest)) : V p l e R s m args below meth c D bs nL h cells slots Q (pc) (ls) (rest) := by
  obtain ⟨⟨hx, hb, hml, hown, hts⟩, hK, hbs, hlkm⟩ := C
  intro H locs la hR hS hl
  exact lv_ldc hx hb hown (hts _ hc) hdg  (k H locs la hR hS hl)
theorem V_lcmp (C : Cx p s m meth c cc nL args Ts own D cA bs) {x y : Int64} (hdg : decode cc pc = .ok (.lcmp, 1))
    (k : V p l e R s m args below meth c D bs nL h cells slots Q (pc + 1) (ls) (.int (lg_cmp x y) :: rest)) : V p l e R s m args below meth c D bs nL h cells slots Q (pc) (ls) (.long y :: .long x :: rest) := by
  obtain ⟨⟨hx, hb, hml, hown, hts⟩, hK, hbs, hlkm⟩ := C
  intro H locs la hR hS hl
  exact W.lcmp hx hb hdg (k H locs la hR hS hl)
theorem V_iload_n (C : Cx p s m meth c cc nL args Ts own D cA bs) {n : Fin 4} {i : Nat} {x : Int32} (hdg : decode cc pc = .ok (.iload_n n, 1)) (hi : (n : Nat) = i) (hv : ls[i]? = some (some (.int x)))
    (k : V p l e R s m args below meth c D bs nL h cells slots Q (pc + 1) (ls) (.int x :: rest)) : V p l e R s m args below meth c D bs nL h cells slots Q (pc) (ls) (rest) := by
  obtain ⟨⟨hx, hb, hml, hown, hts⟩, hK, hbs, hlkm⟩ := C
  intro H locs la hR hS hl
  exact lv_iload_n hx hb hdg hi (hl.at hv) (k H locs la hR hS hl)
theorem V_iload (C : Cx p s m meth c cc nL args Ts own D cA bs) {i : Nat} {x : Int32} (hdg : decode cc pc = .ok (.iload i, 2)) (hv : ls[i]? = some (some (.int x)))
    (k : V p l e R s m args below meth c D bs nL h cells slots Q (pc + 2) (ls) (.int x :: rest)) : V p l e R s m args below meth c D bs nL h cells slots Q (pc) (ls) (rest) := by
  obtain ⟨⟨hx, hb, hml, hown, hts⟩, hK, hbs, hlkm⟩ := C
  intro H locs la hR hS hl
  exact lv_iload hx hb hdg (hl.at hv) (k H locs la hR hS hl)
theorem V_fload_n (C : Cx p s m meth c cc nL args Ts own D cA bs) {n : Fin 4} {i : Nat} {x : UInt32} (hdg : decode cc pc = .ok (.fload_n n, 1)) (hi : (n : Nat) = i) (hv : ls[i]? = some (some (.float x)))
    (k : V p l e R s m args below meth c D bs nL h cells slots Q (pc + 1) (ls) (.float x :: rest)) : V p l e R s m args below meth c D bs nL h cells slots Q (pc) (ls) (rest) := by
  obtain ⟨⟨hx, hb, hml, hown, hts⟩, hK, hbs, hlkm⟩ := C
  intro H locs la hR hS hl
  exact lv_fload_n hx hb hdg hi (hl.at hv) (k H locs la hR hS hl)
theorem V_fload (C : Cx p s m meth c cc nL args Ts own D cA bs) {i : Nat} {x : UInt32} (hdg : decode cc pc = .ok (.fload i, 2)) (hv : ls[i]? = some (some (.float x)))
    (k : V p l e R s m args below meth c D bs nL h cells slots Q (pc + 2) (ls) (.float x :: rest)) : V p l e R s m args below meth c D bs nL h cells slots Q (pc) (ls) (rest) := by
  obtain ⟨⟨hx, hb, hml, hown, hts⟩, hK, hbs, hlkm⟩ := C
  intro H locs la hR hS hl
  exact lv_fload hx hb hdg (hl.at hv) (k H locs la hR hS hl)
theorem V_aload_n (C : Cx p s m meth c cc nL args Ts own D cA bs) {n : Fin 4} {i : Nat} {x : Nat} (hdg : decode cc pc = .ok (.aload_n n, 1)) (hi : (n : Nat) = i) (hv : ls[i]? = some (some (.ref x)))
    (k : V p l e R s m args below meth c D bs nL h cells slots Q (pc + 1) (ls) (.ref x :: rest)) : V p l e R s m args below meth c D bs nL h cells slots Q (pc) (ls) (rest) := by
  obtain ⟨⟨hx, hb, hml, hown, hts⟩, hK, hbs, hlkm⟩ := C
  intro H locs la hR hS hl
  exact lv_aload_n hx hb hdg hi (hl.at hv) (k H locs la hR hS hl)
theorem V_aload (C : Cx p s m meth c cc nL args Ts own D cA bs) {i : Nat} {x : Nat} (hdg : decode cc pc = .ok (.aload i, 2)) (hv : ls[i]? = some (some (.ref x)))
    (k : V p l e R s m args below meth c D bs nL h cells slots Q (pc + 2) (ls) (.ref x :: rest)) : V p l e R s m args below meth c D bs nL h cells slots Q (pc) (ls) (rest) := by
  obtain ⟨⟨hx, hb, hml, hown, hts⟩, hK, hbs, hlkm⟩ := C
  intro H locs la hR hS hl
  exact lv_aload hx hb hdg (hl.at hv) (k H locs la hR hS hl)
theorem V_aload_nN (C : Cx p s m meth c cc nL args Ts own D cA bs) {n : Fin 4} {i : Nat} (hdg : decode cc pc = .ok (.aload_n n, 1)) (hi : (n : Nat) = i) (hv : ls[i]? = some (some .null))
    (k : V p l e R s m args below meth c D bs nL h cells slots Q (pc + 1) (ls) (.null :: rest)) : V p l e R s m args below meth c D bs nL h cells slots Q (pc) (ls) (rest) := by
  obtain ⟨⟨hx, hb, hml, hown, hts⟩, hK, hbs, hlkm⟩ := C
  intro H locs la hR hS hl
  exact lv_aload_nN hx hb hdg hi (hl.at hv) (k H locs la hR hS hl)
theorem V_aloadN (C : Cx p s m meth c cc nL args Ts own D cA bs) {i : Nat} (hdg : decode cc pc = .ok (.aload i, 2)) (hv : ls[i]? = some (some .null))
    (k : V p l e R s m args below meth c D bs nL h cells slots Q (pc + 2) (ls) (.null :: rest)) : V p l e R s m args below meth c D bs nL h cells slots Q (pc) (ls) (rest) := by
  obtain ⟨⟨hx, hb, hml, hown, hts⟩, hK, hbs, hlkm⟩ := C
  intro H locs la hR hS hl
  exact lv_aloadN hx hb hdg (hl.at hv) (k H locs la hR hS hl)
theorem V_istore0 (C : Cx p s m meth c cc nL args Ts own D cA bs) {x0 : Option Value} {t : List (Option Value)} {x : Int32} (hdg : decode cc pc = .ok (.istore_n 0, 1)) (hn : 0 < nL)
    (k : V p l e R s m args below meth c D bs nL h cells slots Q (pc + 1) (some (.int x) :: t) (rest)) : V p l e R s m args below meth c D bs nL h cells slots Q (pc) (x0 :: t) (.int x :: rest) := by
  obtain ⟨⟨hx, hb, hml, hown, hts⟩, hK, hbs, hlkm⟩ := C
  intro H locs la hR hS hl
  exact lv_istore_n hx hb hdg rfl hl.has hn rfl (fun la2 hl2 => k H locs la2 hR hS (lvo.put hl (i := 0) (v := .int x) (lv := lpr (x0 :: t)) (fun j w hj => lpr_mem.mpr hj) rfl hl2))
theorem V_fstore0 (C : Cx p s m meth c cc nL args Ts own D cA bs) {x0 : Option Value} {t : List (Option Value)} {x : UInt32} (hdg : decode cc pc = .ok (.fstore_n 0, 1)) (hn : 0 < nL)
    (k : V p l e R s m args below meth c D bs nL h cells slots Q (pc + 1) (some (.float x) :: t) (rest)) : V p l e R s m args below meth c D bs nL h cells slots Q (pc) (x0 :: t) (.float x :: rest) := by
  obtain ⟨⟨hx, hb, hml, hown, hts⟩, hK, hbs, hlkm⟩ := C
  intro H locs la hR hS hl
  exact lv_fstore_n hx hb hdg rfl hl.has hn rfl (fun la2 hl2 => k H locs la2 hR hS (lvo.put hl (i := 0) (v := .float x) (lv := lpr (x0 :: t)) (fun j w hj => lpr_mem.mpr hj) rfl hl2))
theorem V_astore0 (C : Cx p s m meth c cc nL args Ts own D cA bs) {x0 : Option Value} {t : List (Option Value)} {x : Nat} (hdg : decode cc pc = .ok (.astore_n 0, 1)) (hn : 0 < nL)
    (k : V p l e R s m args below meth c D bs nL h cells slots Q (pc + 1) (some (.ref x) :: t) (rest)) : V p l e R s m args below meth c D bs nL h cells slots Q (pc) (x0 :: t) (.ref x :: rest) := by
  obtain ⟨⟨hx, hb, hml, hown, hts⟩, hK, hbs, hlkm⟩ := C
  intro H locs la hR hS hl
  exact lv_astore_n hx hb hdg rfl hl.has hn rfl (fun la2 hl2 => k H locs la2 hR hS (lvo.put hl (i := 0) (v := .ref x) (lv := lpr (x0 :: t)) (fun j w hj => lpr_mem.mpr hj) rfl hl2))
theorem V_astoreN0 (C : Cx p s m meth c cc nL args Ts own D cA bs) {x0 : Option Value} {t : List (Option Value)}  (hdg : decode cc pc = .ok (.astore_n 0, 1)) (hn : 0 < nL)
    (k : V p l e R s m args below meth c D bs nL h cells slots Q (pc + 1) (some (.null) :: t) (rest)) : V p l e R s m args below meth c D bs nL h cells slots Q (pc) (x0 :: t) (.null :: rest) := by
  obtain ⟨⟨hx, hb, hml, hown, hts⟩, hK, hbs, hlkm⟩ := C
  intro H locs la hR hS hl
  exact lv_astore_nN hx hb hdg rfl hl.has hn rfl (fun la2 hl2 => k H locs la2 hR hS (lvo.put hl (i := 0) (v := .null) (lv := lpr (x0 :: t)) (fun j w hj => lpr_mem.mpr hj) rfl hl2))
theorem V_iinc0 (C : Cx p s m meth c cc nL args Ts own D cA bs) {t : List (Option Value)} {n : Int} {x v : Int32} (hdg : decode cc pc = .ok (.iinc 0 n, 3)) (hv : x + Int32.ofInt n = v) (hn : 0 < nL)
    (k : V p l e R s m args below meth c D bs nL h cells slots Q (pc + 3) (some (.int v) :: t) (rest)) : V p l e R s m args below meth c D bs nL h cells slots Q (pc) (some (.int x) :: t) (rest) := by
  obtain ⟨⟨hx, hb, hml, hown, hts⟩, hK, hbs, hlkm⟩ := C
  intro H locs la hR hS hl
  have hx1 : lv_has la nL ((0, .int x) :: lpr (some (.int x) :: t)) := ⟨hl.1, hl.2.1, fun q hq => (List.mem_cons.mp hq).elim (fun z => by rw [z]; exact hl.at (i := 0) rfl) (fun z => hl.has.2.2 q z)⟩
  exact lv_iinc (k := 0) hx hb hdg hx1 rfl hv hn rfl (fun la2 hl2 => k H locs la2 hR hS (lvo.put hl (i := 0) (v := .int v) (lv := (0, .int x) :: lpr (some (.int x) :: t)) (fun j w hj => List.mem_cons_of_mem _ (lpr_mem.mpr hj)) rfl hl2))
theorem V_istore1 (C : Cx p s m meth c cc nL args Ts own D cA bs) {x0 x1 : Option Value} {t : List (Option Value)} {x : Int32} (hdg : decode cc pc = .ok (.istore_n 1, 1)) (hn : 1 < nL)
    (k : V p l e R s m args below meth c D bs nL h cells slots Q (pc + 1) (x0 :: some (.int x) :: t) (rest)) : V p l e R s m args below meth c D bs nL h cells slots Q (pc) (x0 :: x1 :: t) (.int x :: rest) := by
  obtain ⟨⟨hx, hb, hml, hown, hts⟩, hK, hbs, hlkm⟩ := C
  intro H locs la hR hS hl
  exact lv_istore_n hx hb hdg rfl hl.has hn rfl (fun la2 hl2 => k H locs la2 hR hS (lvo.put hl (i := 1) (v := .int x) (lv := lpr (x0 :: x1 :: t)) (fun j w hj => lpr_mem.mpr hj) rfl hl2))
theorem V_fstore1 (C : Cx p s m meth c cc nL args Ts own D cA bs) {x0 x1 : Option Value} {t : List (Option Value)} {x : UInt32} (hdg : decode cc pc = .ok (.fstore_n 1, 1)) (hn : 1 < nL)
    (k : V p l e R s m args below meth c D bs nL h cells slots Q (pc + 1) (x0 :: some (.float x) :: t) (rest)) : V p l e R s m args below meth c D bs nL h cells slots Q (pc) (x0 :: x1 :: t) (.float x :: rest) := by
  obtain ⟨⟨hx, hb, hml, hown, hts⟩, hK, hbs, hlkm⟩ := C
  intro H locs la hR hS hl
  exact lv_fstore_n hx hb hdg rfl hl.has hn rfl (fun la2 hl2 => k H locs la2 hR hS (lvo.put hl (i := 1) (v := .float x) (lv := lpr (x0 :: x1 :: t)) (fun j w hj => lpr_mem.mpr hj) rfl hl2))
theorem V_astore1 (C : Cx p s m meth c cc nL args Ts own D cA bs) {x0 x1 : Option Value} {t : List (Option Value)} {x : Nat} (hdg : decode cc pc = .ok (.astore_n 1, 1)) (hn : 1 < nL)
    (k : V p l e R s m args below meth c D bs nL h cells slots Q (pc + 1) (x0 :: some (.ref x) :: t) (rest)) : V p l e R s m args below meth c D bs nL h cells slots Q (pc) (x0 :: x1 :: t) (.ref x :: rest) := by
  obtain ⟨⟨hx, hb, hml, hown, hts⟩, hK, hbs, hlkm⟩ := C
  intro H locs la hR hS hl
  exact lv_astore_n hx hb hdg rfl hl.has hn rfl (fun la2 hl2 => k H locs la2 hR hS (lvo.put hl (i := 1) (v := .ref x) (lv := lpr (x0 :: x1 :: t)) (fun j w hj => lpr_mem.mpr hj) rfl hl2))
theorem V_astoreN1 (C : Cx p s m meth c cc nL args Ts own D cA bs) {x0 x1 : Option Value} {t : List (Option Value)}  (hdg : decode cc pc = .ok (.astore_n 1, 1)) (hn : 1 < nL)
    (k : V p l e R s m args below meth c D bs nL h cells slots Q (pc + 1) (x0 :: some (.null) :: t) (rest)) : V p l e R s m args below meth c D bs nL h cells slots Q (pc) (x0 :: x1 :: t) (.null :: rest) := by
  obtain ⟨⟨hx, hb, hml, hown, hts⟩, hK, hbs, hlkm⟩ := C
  intro H locs la hR hS hl
  exact lv_astore_nN hx hb hdg rfl hl.has hn rfl (fun la2 hl2 => k H locs la2 hR hS (lvo.put hl (i := 1) (v := .null) (lv := lpr (x0 :: x1 :: t)) (fun j w hj => lpr_mem.mpr hj) rfl hl2))
theorem V_iinc1 (C : Cx p s m meth c cc nL args Ts own D cA bs) {x0 : Option Value} {t : List (Option Value)} {n : Int} {x v : Int32} (hdg : decode cc pc = .ok (.iinc 1 n, 3)) (hv : x + Int32.ofInt n = v) (hn : 1 < nL)
    (k : V p l e R s m args below meth c D bs nL h cells slots Q (pc + 3) (x0 :: some (.int v) :: t) (rest)) : V p l e R s m args below meth c D bs nL h cells slots Q (pc) (x0 :: some (.int x) :: t) (rest) := by
  obtain ⟨⟨hx, hb, hml, hown, hts⟩, hK, hbs, hlkm⟩ := C
  intro H locs la hR hS hl
  have hx1 : lv_has la nL ((1, .int x) :: lpr (x0 :: some (.int x) :: t)) := ⟨hl.1, hl.2.1, fun q hq => (List.mem_cons.mp hq).elim (fun z => by rw [z]; exact hl.at (i := 1) rfl) (fun z => hl.has.2.2 q z)⟩
  exact lv_iinc (k := 0) hx hb hdg hx1 rfl hv hn rfl (fun la2 hl2 => k H locs la2 hR hS (lvo.put hl (i := 1) (v := .int v) (lv := (1, .int x) :: lpr (x0 :: some (.int x) :: t)) (fun j w hj => List.mem_cons_of_mem _ (lpr_mem.mpr hj)) rfl hl2))
theorem V_istore2 (C : Cx p s m meth c cc nL args Ts own D cA bs) {x0 x1 x2 : Option Value} {t : List (Option Value)} {x : Int32} (hdg : decode cc pc = .ok (.istore_n 2, 1)) (hn : 2 < nL)
    (k : V p l e R s m args below meth c D bs nL h cells slots Q (pc + 1) (x0 :: x1 :: some (.int x) :: t) (rest)) : V p l e R s m args below meth c D bs nL h cells slots Q (pc) (x0 :: x1 :: x2 :: t) (.int x :: rest) := by
  obtain ⟨⟨hx, hb, hml, hown, hts⟩, hK, hbs, hlkm⟩ := C
  intro H locs la hR hS hl
  exact lv_istore_n hx hb hdg rfl hl.has hn rfl (fun la2 hl2 => k H locs la2 hR hS (lvo.put hl (i := 2) (v := .int x) (lv := lpr (x0 :: x1 :: x2 :: t)) (fun j w hj => lpr_mem.mpr hj) rfl hl2))
theorem V_fstore2 (C : Cx p s m meth c cc nL args Ts own D cA bs) {x0 x1 x2 : Option Value} {t : List (Option Value)} {x : UInt32} (hdg : decode cc pc = .ok (.fstore_n 2, 1)) (hn : 2 < nL)
    (k : V p l e R s m args below meth c D bs nL h cells slots Q (pc + 1) (x0 :: x1 :: some (.float x) :: t) (rest)) : V p l e R s m args below meth c D bs nL h cells slots Q (pc) (x0 :: x1 :: x2 :: t) (.float x :: rest) := by
  obtain ⟨⟨hx, hb, hml, hown, hts⟩, hK, hbs, hlkm⟩ := C
  intro H locs la hR hS hl
  exact lv_fstore_n hx hb hdg rfl hl.has hn rfl (fun la2 hl2 => k H locs la2 hR hS (lvo.put hl (i := 2) (v := .float x) (lv := lpr (x0 :: x1 :: x2 :: t)) (fun j w hj => lpr_mem.mpr hj) rfl hl2))
theorem V_astore2 (C : Cx p s m meth c cc nL args Ts own D cA bs) {x0 x1 x2 : Option Value} {t : List (Option Value)} {x : Nat} (hdg : decode cc pc = .ok (.astore_n 2, 1)) (hn : 2 < nL)
    (k : V p l e R s m args below meth c D bs nL h cells slots Q (pc + 1) (x0 :: x1 :: some (.ref x) :: t) (rest)) : V p l e R s m args below meth c D bs nL h cells slots Q (pc) (x0 :: x1 :: x2 :: t) (.ref x :: rest) := by
  obtain ⟨⟨hx, hb, hml, hown, hts⟩, hK, hbs, hlkm⟩ := C
  intro H locs la hR hS hl
  exact lv_astore_n hx hb hdg rfl hl.has hn rfl (fun la2 hl2 => k H locs la2 hR hS (lvo.put hl (i := 2) (v := .ref x) (lv := lpr (x0 :: x1 :: x2 :: t)) (fun j w hj => lpr_mem.mpr hj) rfl hl2))
theorem V_astoreN2 (C : Cx p s m meth c cc nL args Ts own D cA bs) {x0 x1 x2 : Option Value} {t : List (Option Value)}  (hdg : decode cc pc = .ok (.astore_n 2, 1)) (hn : 2 < nL)
    (k : V p l e R s m args below meth c D bs nL h cells slots Q (pc + 1) (x0 :: x1 :: some (.null) :: t) (rest)) : V p l e R s m args below meth c D bs nL h cells slots Q (pc) (x0 :: x1 :: x2 :: t) (.null :: rest) := by
  obtain ⟨⟨hx, hb, hml, hown, hts⟩, hK, hbs, hlkm⟩ := C
  intro H locs la hR hS hl
  exact lv_astore_nN hx hb hdg rfl hl.has hn rfl (fun la2 hl2 => k H locs la2 hR hS (lvo.put hl (i := 2) (v := .null) (lv := lpr (x0 :: x1 :: x2 :: t)) (fun j w hj => lpr_mem.mpr hj) rfl hl2))
theorem V_iinc2 (C : Cx p s m meth c cc nL args Ts own D cA bs) {x0 x1 : Option Value} {t : List (Option Value)} {n : Int} {x v : Int32} (hdg : decode cc pc = .ok (.iinc 2 n, 3)) (hv : x + Int32.ofInt n = v) (hn : 2 < nL)
    (k : V p l e R s m args below meth c D bs nL h cells slots Q (pc + 3) (x0 :: x1 :: some (.int v) :: t) (rest)) : V p l e R s m args below meth c D bs nL h cells slots Q (pc) (x0 :: x1 :: some (.int x) :: t) (rest) := by
  obtain ⟨⟨hx, hb, hml, hown, hts⟩, hK, hbs, hlkm⟩ := C
  intro H locs la hR hS hl
  have hx1 : lv_has la nL ((2, .int x) :: lpr (x0 :: x1 :: some (.int x) :: t)) := ⟨hl.1, hl.2.1, fun q hq => (List.mem_cons.mp hq).elim (fun z => by rw [z]; exact hl.at (i := 2) rfl) (fun z => hl.has.2.2 q z)⟩
  exact lv_iinc (k := 0) hx hb hdg hx1 rfl hv hn rfl (fun la2 hl2 => k H locs la2 hR hS (lvo.put hl (i := 2) (v := .int v) (lv := (2, .int x) :: lpr (x0 :: x1 :: some (.int x) :: t)) (fun j w hj => List.mem_cons_of_mem _ (lpr_mem.mpr hj)) rfl hl2))
theorem V_istore3 (C : Cx p s m meth c cc nL args Ts own D cA bs) {x0 x1 x2 x3 : Option Value} {t : List (Option Value)} {x : Int32} (hdg : decode cc pc = .ok (.istore_n 3, 1)) (hn : 3 < nL)
    (k : V p l e R s m args below meth c D bs nL h cells slots Q (pc + 1) (x0 :: x1 :: x2 :: some (.int x) :: t) (rest)) : V p l e R s m args below meth c D bs nL h cells slots Q (pc) (x0 :: x1 :: x2 :: x3 :: t) (.int x :: rest) := by
  obtain ⟨⟨hx, hb, hml, hown, hts⟩, hK, hbs, hlkm⟩ := C
  intro H locs la hR hS hl
  exact lv_istore_n hx hb hdg rfl hl.has hn rfl (fun la2 hl2 => k H locs la2 hR hS (lvo.put hl (i := 3) (v := .int x) (lv := lpr (x0 :: x1 :: x2 :: x3 :: t)) (fun j w hj => lpr_mem.mpr hj) rfl hl2))
theorem V_fstore3 (C : Cx p s m meth c cc nL args Ts own D cA bs) {x0 x1 x2 x3 : Option Value} {t : List (Option Value)} {x : UInt32} (hdg : decode cc pc = .ok (.fstore_n 3, 1)) (hn : 3 < nL)
    (k : V p l e R s m args below meth c D bs nL h cells slots Q (pc + 1) (x0 :: x1 :: x2 :: some (.float x) :: t) (rest)) : V p l e R s m args below meth c D bs nL h cells slots Q (pc) (x0 :: x1 :: x2 :: x3 :: t) (.float x :: rest) := by
  obtain ⟨⟨hx, hb, hml, hown, hts⟩, hK, hbs, hlkm⟩ := C
  intro H locs la hR hS hl
  exact lv_fstore_n hx hb hdg rfl hl.has hn rfl (fun la2 hl2 => k H locs la2 hR hS (lvo.put hl (i := 3) (v := .float x) (lv := lpr (x0 :: x1 :: x2 :: x3 :: t)) (fun j w hj => lpr_mem.mpr hj) rfl hl2))
theorem V_astore3 (C : Cx p s m meth c cc nL args Ts own D cA bs) {x0 x1 x2 x3 : Option Value} {t : List (Option Value)} {x : Nat} (hdg : decode cc pc = .ok (.astore_n 3, 1)) (hn : 3 < nL)
    (k : V p l e R s m args below meth c D bs nL h cells slots Q (pc + 1) (x0 :: x1 :: x2 :: some (.ref x) :: t) (rest)) : V p l e R s m args below meth c D bs nL h cells slots Q (pc) (x0 :: x1 :: x2 :: x3 :: t) (.ref x :: rest) := by
  obtain ⟨⟨hx, hb, hml, hown, hts⟩, hK, hbs, hlkm⟩ := C
  intro H locs la hR hS hl
  exact lv_astore_n hx hb hdg rfl hl.has hn rfl (fun la2 hl2 => k H locs la2 hR hS (lvo.put hl (i := 3) (v := .ref x) (lv := lpr (x0 :: x1 :: x2 :: x3 :: t)) (fun j w hj => lpr_mem.mpr hj) rfl hl2))
theorem V_astoreN3 (C : Cx p s m meth c cc nL args Ts own D cA bs) {x0 x1 x2 x3 : Option Value} {t : List (Option Value)}  (hdg : decode cc pc = .ok (.astore_n 3, 1)) (hn : 3 < nL)
    (k : V p l e R s m args below meth c D bs nL h cells slots Q (pc + 1) (x0 :: x1 :: x2 :: some (.null) :: t) (rest)) : V p l e R s m args below meth c D bs nL h cells slots Q (pc) (x0 :: x1 :: x2 :: x3 :: t) (.null :: rest) := by
  obtain ⟨⟨hx, hb, hml, hown, hts⟩, hK, hbs, hlkm⟩ := C
  intro H locs la hR hS hl
  exact lv_astore_nN hx hb hdg rfl hl.has hn rfl (fun la2 hl2 => k H locs la2 hR hS (lvo.put hl (i := 3) (v := .null) (lv := lpr (x0 :: x1 :: x2 :: x3 :: t)) (fun j w hj => lpr_mem.mpr hj) rfl hl2))
theorem V_iinc3 (C : Cx p s m meth c cc nL args Ts own D cA bs) {x0 x1 x2 : Option Value} {t : List (Option Value)} {n : Int} {x v : Int32} (hdg : decode cc pc = .ok (.iinc 3 n, 3)) (hv : x + Int32.ofInt n = v) (hn : 3 < nL)
    (k : V p l e R s m args below meth c D bs nL h cells slots Q (pc + 3) (x0 :: x1 :: x2 :: some (.int v) :: t) (rest)) : V p l e R s m args below meth c D bs nL h cells slots Q (pc) (x0 :: x1 :: x2 :: some (.int x) :: t) (rest) := by
  obtain ⟨⟨hx, hb, hml, hown, hts⟩, hK, hbs, hlkm⟩ := C
  intro H locs la hR hS hl
  have hx1 : lv_has la nL ((3, .int x) :: lpr (x0 :: x1 :: x2 :: some (.int x) :: t)) := ⟨hl.1, hl.2.1, fun q hq => (List.mem_cons.mp hq).elim (fun z => by rw [z]; exact hl.at (i := 3) rfl) (fun z => hl.has.2.2 q z)⟩
  exact lv_iinc (k := 0) hx hb hdg hx1 rfl hv hn rfl (fun la2 hl2 => k H locs la2 hR hS (lvo.put hl (i := 3) (v := .int v) (lv := (3, .int x) :: lpr (x0 :: x1 :: x2 :: some (.int x) :: t)) (fun j w hj => List.mem_cons_of_mem _ (lpr_mem.mpr hj)) rfl hl2))
theorem V_istore4 (C : Cx p s m meth c cc nL args Ts own D cA bs) {x0 x1 x2 x3 x4 : Option Value} {t : List (Option Value)} {x : Int32} (hdg : decode cc pc = .ok (.istore 4, 2)) (hn : 4 < nL)
    (k : V p l e R s m args below meth c D bs nL h cells slots Q (pc + 2) (x0 :: x1 :: x2 :: x3 :: some (.int x) :: t) (rest)) : V p l e R s m args below meth c D bs nL h cells slots Q (pc) (x0 :: x1 :: x2 :: x3 :: x4 :: t) (.int x :: rest) := by
  obtain ⟨⟨hx, hb, hml, hown, hts⟩, hK, hbs, hlkm⟩ := C
  intro H locs la hR hS hl
  exact lv_istore hx hb hdg hl.has hn rfl (fun la2 hl2 => k H locs la2 hR hS (lvo.put hl (i := 4) (v := .int x) (lv := lpr (x0 :: x1 :: x2 :: x3 :: x4 :: t)) (fun j w hj => lpr_mem.mpr hj) rfl hl2))
theorem V_fstore4 (C : Cx p s m meth c cc nL args Ts own D cA bs) {x0 x1 x2 x3 x4 : Option Value} {t : List (Option Value)} {x : UInt32} (hdg : decode cc pc = .ok (.fstore 4, 2)) (hn : 4 < nL)
    (k : V p l e R s m args below meth c D bs nL h cells slots Q (pc + 2) (x0 :: x1 :: x2 :: x3 :: some (.float x) :: t) (rest)) : V p l e R s m args below meth c D bs nL h cells slots Q (pc) (x0 :: x1 :: x2 :: x3 :: x4 :: t) (.float x :: rest) := by
  obtain ⟨⟨hx, hb, hml, hown, hts⟩, hK, hbs, hlkm⟩ := C
  intro H locs la hR hS hl
  exact lv_fstore hx hb hdg hl.has hn rfl (fun la2 hl2 => k H locs la2 hR hS (lvo.put hl (i := 4) (v := .float x) (lv := lpr (x0 :: x1 :: x2 :: x3 :: x4 :: t)) (fun j w hj => lpr_mem.mpr hj) rfl hl2))
theorem V_astore4 (C : Cx p s m meth c cc nL args Ts own D cA bs) {x0 x1 x2 x3 x4 : Option Value} {t : List (Option Value)} {x : Nat} (hdg : decode cc pc = .ok (.astore 4, 2)) (hn : 4 < nL)
    (k : V p l e R s m args below meth c D bs nL h cells slots Q (pc + 2) (x0 :: x1 :: x2 :: x3 :: some (.ref x) :: t) (rest)) : V p l e R s m args below meth c D bs nL h cells slots Q (pc) (x0 :: x1 :: x2 :: x3 :: x4 :: t) (.ref x :: rest) := by
  obtain ⟨⟨hx, hb, hml, hown, hts⟩, hK, hbs, hlkm⟩ := C
  intro H locs la hR hS hl
  exact lv_astore hx hb hdg hl.has hn rfl (fun la2 hl2 => k H locs la2 hR hS (lvo.put hl (i := 4) (v := .ref x) (lv := lpr (x0 :: x1 :: x2 :: x3 :: x4 :: t)) (fun j w hj => lpr_mem.mpr hj) rfl hl2))
theorem V_astoreN4 (C : Cx p s m meth c cc nL args Ts own D cA bs) {x0 x1 x2 x3 x4 : Option Value} {t : List (Option Value)}  (hdg : decode cc pc = .ok (.astore 4, 2)) (hn : 4 < nL)
    (k : V p l e R s m args below meth c D bs nL h cells slots Q (pc + 2) (x0 :: x1 :: x2 :: x3 :: some (.null) :: t) (rest)) : V p l e R s m args below meth c D bs nL h cells slots Q (pc) (x0 :: x1 :: x2 :: x3 :: x4 :: t) (.null :: rest) := by
  obtain ⟨⟨hx, hb, hml, hown, hts⟩, hK, hbs, hlkm⟩ := C
  intro H locs la hR hS hl
  exact lv_astoreN hx hb hdg hl.has hn rfl (fun la2 hl2 => k H locs la2 hR hS (lvo.put hl (i := 4) (v := .null) (lv := lpr (x0 :: x1 :: x2 :: x3 :: x4 :: t)) (fun j w hj => lpr_mem.mpr hj) rfl hl2))
theorem V_iinc4 (C : Cx p s m meth c cc nL args Ts own D cA bs) {x0 x1 x2 x3 : Option Value} {t : List (Option Value)} {n : Int} {x v : Int32} (hdg : decode cc pc = .ok (.iinc 4 n, 3)) (hv : x + Int32.ofInt n = v) (hn : 4 < nL)
    (k : V p l e R s m args below meth c D bs nL h cells slots Q (pc + 3) (x0 :: x1 :: x2 :: x3 :: some (.int v) :: t) (rest)) : V p l e R s m args below meth c D bs nL h cells slots Q (pc) (x0 :: x1 :: x2 :: x3 :: some (.int x) :: t) (rest) := by
  obtain ⟨⟨hx, hb, hml, hown, hts⟩, hK, hbs, hlkm⟩ := C
  intro H locs la hR hS hl
  have hx1 : lv_has la nL ((4, .int x) :: lpr (x0 :: x1 :: x2 :: x3 :: some (.int x) :: t)) := ⟨hl.1, hl.2.1, fun q hq => (List.mem_cons.mp hq).elim (fun z => by rw [z]; exact hl.at (i := 4) rfl) (fun z => hl.has.2.2 q z)⟩
  exact lv_iinc (k := 0) hx hb hdg hx1 rfl hv hn rfl (fun la2 hl2 => k H locs la2 hR hS (lvo.put hl (i := 4) (v := .int v) (lv := (4, .int x) :: lpr (x0 :: x1 :: x2 :: x3 :: some (.int x) :: t)) (fun j w hj => List.mem_cons_of_mem _ (lpr_mem.mpr hj)) rfl hl2))
theorem V_istore5 (C : Cx p s m meth c cc nL args Ts own D cA bs) {x0 x1 x2 x3 x4 x5 : Option Value} {t : List (Option Value)} {x : Int32} (hdg : decode cc pc = .ok (.istore 5, 2)) (hn : 5 < nL)
    (k : V p l e R s m args below meth c D bs nL h cells slots Q (pc + 2) (x0 :: x1 :: x2 :: x3 :: x4 :: some (.int x) :: t) (rest)) : V p l e R s m args below meth c D bs nL h cells slots Q (pc) (x0 :: x1 :: x2 :: x3 :: x4 :: x5 :: t) (.int x :: rest) := by
  obtain ⟨⟨hx, hb, hml, hown, hts⟩, hK, hbs, hlkm⟩ := C
  intro H locs la hR hS hl
  exact lv_istore hx hb hdg hl.has hn rfl (fun la2 hl2 => k H locs la2 hR hS (lvo.put hl (i := 5) (v := .int x) (lv := lpr (x0 :: x1 :: x2 :: x3 :: x4 :: x5 :: t)) (fun j w hj => lpr_mem.mpr hj) rfl hl2))
theorem V_fstore5 (C : Cx p s m meth c cc nL args Ts own D cA bs) {x0 x1 x2 x3 x4 x5 : Option Value} {t : List (Option Value)} {x : UInt32} (hdg : decode cc pc = .ok (.fstore 5, 2)) (hn : 5 < nL)
    (k : V p l e R s m args below meth c D bs nL h cells slots Q (pc + 2) (x0 :: x1 :: x2 :: x3 :: x4 :: some (.float x) :: t) (rest)) : V p l e R s m args below meth c D bs nL h cells slots Q (pc) (x0 :: x1 :: x2 :: x3 :: x4 :: x5 :: t) (.float x :: rest) := by
  obtain ⟨⟨hx, hb, hml, hown, hts⟩, hK, hbs, hlkm⟩ := C
  intro H locs la hR hS hl
  exact lv_fstore hx hb hdg hl.has hn rfl (fun la2 hl2 => k H locs la2 hR hS (lvo.put hl (i := 5) (v := .float x) (lv := lpr (x0 :: x1 :: x2 :: x3 :: x4 :: x5 :: t)) (fun j w hj => lpr_mem.mpr hj) rfl hl2))
theorem V_astore5 (C : Cx p s m meth c cc nL args Ts own D cA bs) {x0 x1 x2 x3 x4 x5 : Option Value} {t : List (Option Value)} {x : Nat} (hdg : decode cc pc = .ok (.astore 5, 2)) (hn : 5 < nL)
    (k : V p l e R s m args below meth c D bs nL h cells slots Q (pc + 2) (x0 :: x1 :: x2 :: x3 :: x4 :: some (.ref x) :: t) (rest)) : V p l e R s m args below meth c D bs nL h cells slots Q (pc) (x0 :: x1 :: x2 :: x3 :: x4 :: x5 :: t) (.ref x :: rest) := by
  obtain ⟨⟨hx, hb, hml, hown, hts⟩, hK, hbs, hlkm⟩ := C
  intro H locs la hR hS hl
  exact lv_astore hx hb hdg hl.has hn rfl (fun la2 hl2 => k H locs la2 hR hS (lvo.put hl (i := 5) (v := .ref x) (lv := lpr (x0 :: x1 :: x2 :: x3 :: x4 :: x5 :: t)) (fun j w hj => lpr_mem.mpr hj) rfl hl2))
theorem V_astoreN5 (C : Cx p s m meth c cc nL args Ts own D cA bs) {x0 x1 x2 x3 x4 x5 : Option Value} {t : List (Option Value)}  (hdg : decode cc pc = .ok (.astore 5, 2)) (hn : 5 < nL)
    (k : V p l e R s m args below meth c D bs nL h cells slots Q (pc + 2) (x0 :: x1 :: x2 :: x3 :: x4 :: some (.null) :: t) (rest)) : V p l e R s m args below meth c D bs nL h cells slots Q (pc) (x0 :: x1 :: x2 :: x3 :: x4 :: x5 :: t) (.null :: rest) := by
  obtain ⟨⟨hx, hb, hml, hown, hts⟩, hK, hbs, hlkm⟩ := C
  intro H locs la hR hS hl
  exact lv_astoreN hx hb hdg hl.has hn rfl (fun la2 hl2 => k H locs la2 hR hS (lvo.put hl (i := 5) (v := .null) (lv := lpr (x0 :: x1 :: x2 :: x3 :: x4 :: x5 :: t)) (fun j w hj => lpr_mem.mpr hj) rfl hl2))
theorem V_iinc5 (C : Cx p s m meth c cc nL args Ts own D cA bs) {x0 x1 x2 x3 x4 : Option Value} {t : List (Option Value)} {n : Int} {x v : Int32} (hdg : decode cc pc = .ok (.iinc 5 n, 3)) (hv : x + Int32.ofInt n = v) (hn : 5 < nL)
    (k : V p l e R s m args below meth c D bs nL h cells slots Q (pc + 3) (x0 :: x1 :: x2 :: x3 :: x4 :: some (.int v) :: t) (rest)) : V p l e R s m args below meth c D bs nL h cells slots Q (pc) (x0 :: x1 :: x2 :: x3 :: x4 :: some (.int x) :: t) (rest) := by
  obtain ⟨⟨hx, hb, hml, hown, hts⟩, hK, hbs, hlkm⟩ := C
  intro H locs la hR hS hl
  have hx1 : lv_has la nL ((5, .int x) :: lpr (x0 :: x1 :: x2 :: x3 :: x4 :: some (.int x) :: t)) := ⟨hl.1, hl.2.1, fun q hq => (List.mem_cons.mp hq).elim (fun z => by rw [z]; exact hl.at (i := 5) rfl) (fun z => hl.has.2.2 q z)⟩
  exact lv_iinc (k := 0) hx hb hdg hx1 rfl hv hn rfl (fun la2 hl2 => k H locs la2 hR hS (lvo.put hl (i := 5) (v := .int v) (lv := (5, .int x) :: lpr (x0 :: x1 :: x2 :: x3 :: x4 :: some (.int x) :: t)) (fun j w hj => List.mem_cons_of_mem _ (lpr_mem.mpr hj)) rfl hl2))
theorem V_istore6 (C : Cx p s m meth c cc nL args Ts own D cA bs) {x0 x1 x2 x3 x4 x5 x6 : Option Value} {t : List (Option Value)} {x : Int32} (hdg : decode cc pc = .ok (.istore 6, 2)) (hn : 6 < nL)
    (k : V p l e R s m args below meth c D bs nL h cells slots Q (pc + 2) (x0 :: x1 :: x2 :: x3 :: x4 :: x5 :: some (.int x) :: t) (rest)) : V p l e R s m args below meth c D bs nL h cells slots Q (pc) (x0 :: x1 :: x2 :: x3 :: x4 :: x5 :: x6 :: t) (.int x :: rest) := by
  obtain ⟨⟨hx, hb, hml, hown, hts⟩, hK, hbs, hlkm⟩ := C
  intro H locs la hR hS hl
  exact lv_istore hx hb hdg hl.has hn rfl (fun la2 hl2 => k H locs la2 hR hS (lvo.put hl (i := 6) (v := .int x) (lv := lpr (x0 :: x1 :: x2 :: x3 :: x4 :: x5 :: x6 :: t)) (fun j w hj => lpr_mem.mpr hj) rfl hl2))
theorem V_fstore6 (C : Cx p s m meth c cc nL args Ts own D cA bs) {x0 x1 x2 x3 x4 x5 x6 : Option Value} {t : List (Option Value)} {x : UInt32} (hdg : decode cc pc = .ok (.fstore 6, 2)) (hn : 6 < nL)
    (k : V p l e R s m args below meth c D bs nL h cells slots Q (pc + 2) (x0 :: x1 :: x2 :: x3 :: x4 :: x5 :: some (.float x) :: t) (rest)) : V p l e R s m args below meth c D bs nL h cells slots Q (pc) (x0 :: x1 :: x2 :: x3 :: x4 :: x5 :: x6 :: t) (.float x :: rest) := by
  obtain ⟨⟨hx, hb, hml, hown, hts⟩, hK, hbs, hlkm⟩ := C
  intro H locs la hR hS hl
  exact lv_fstore hx hb hdg hl.has hn rfl (fun la2 hl2 => k H locs la2 hR hS (lvo.put hl (i := 6) (v := .float x) (lv := lpr (x0 :: x1 :: x2 :: x3 :: x4 :: x5 :: x6 :: t)) (fun j w hj => lpr_mem.mpr hj) rfl hl2))
theorem V_astore6 (C : Cx p s m meth c cc nL args Ts own D cA bs) {x0 x1 x2 x3 x4 x5 x6 : Option Value} {t : List (Option Value)} {x : Nat} (hdg : decode cc pc = .ok (.astore 6, 2)) (hn : 6 < nL)
    (k : V p l e R s m args below meth c D bs nL h cells slots Q (pc + 2) (x0 :: x1 :: x2 :: x3 :: x4 :: x5 :: some (.ref x) :: t) (rest)) : V p l e R s m args below meth c D bs nL h cells slots Q (pc) (x0 :: x1 :: x2 :: x3 :: x4 :: x5 :: x6 :: t) (.ref x :: rest) := by
  obtain ⟨⟨hx, hb, hml, hown, hts⟩, hK, hbs, hlkm⟩ := C
  intro H locs la hR hS hl
  exact lv_astore hx hb hdg hl.has hn rfl (fun la2 hl2 => k H locs la2 hR hS (lvo.put hl (i := 6) (v := .ref x) (lv := lpr (x0 :: x1 :: x2 :: x3 :: x4 :: x5 :: x6 :: t)) (fun j w hj => lpr_mem.mpr hj) rfl hl2))
theorem V_astoreN6 (C : Cx p s m meth c cc nL args Ts own D cA bs) {x0 x1 x2 x3 x4 x5 x6 : Option Value} {t : List (Option Value)}  (hdg : decode cc pc = .ok (.astore 6, 2)) (hn : 6 < nL)
    (k : V p l e R s m args below meth c D bs nL h cells slots Q (pc + 2) (x0 :: x1 :: x2 :: x3 :: x4 :: x5 :: some (.null) :: t) (rest)) : V p l e R s m args below meth c D bs nL h cells slots Q (pc) (x0 :: x1 :: x2 :: x3 :: x4 :: x5 :: x6 :: t) (.null :: rest) := by
  obtain ⟨⟨hx, hb, hml, hown, hts⟩, hK, hbs, hlkm⟩ := C
  intro H locs la hR hS hl
  exact lv_astoreN hx hb hdg hl.has hn rfl (fun la2 hl2 => k H locs la2 hR hS (lvo.put hl (i := 6) (v := .null) (lv := lpr (x0 :: x1 :: x2 :: x3 :: x4 :: x5 :: x6 :: t)) (fun j w hj => lpr_mem.mpr hj) rfl hl2))
theorem V_iinc6 (C : Cx p s m meth c cc nL args Ts own D cA bs) {x0 x1 x2 x3 x4 x5 : Option Value} {t : List (Option Value)} {n : Int} {x v : Int32} (hdg : decode cc pc = .ok (.iinc 6 n, 3)) (hv : x + Int32.ofInt n = v) (hn : 6 < nL)
    (k : V p l e R s m args below meth c D bs nL h cells slots Q (pc + 3) (x0 :: x1 :: x2 :: x3 :: x4 :: x5 :: some (.int v) :: t) (rest)) : V p l e R s m args below meth c D bs nL h cells slots Q (pc) (x0 :: x1 :: x2 :: x3 :: x4 :: x5 :: some (.int x) :: t) (rest) := by
  obtain ⟨⟨hx, hb, hml, hown, hts⟩, hK, hbs, hlkm⟩ := C
  intro H locs la hR hS hl
  have hx1 : lv_has la nL ((6, .int x) :: lpr (x0 :: x1 :: x2 :: x3 :: x4 :: x5 :: some (.int x) :: t)) := ⟨hl.1, hl.2.1, fun q hq => (List.mem_cons.mp hq).elim (fun z => by rw [z]; exact hl.at (i := 6) rfl) (fun z => hl.has.2.2 q z)⟩
  exact lv_iinc (k := 0) hx hb hdg hx1 rfl hv hn rfl (fun la2 hl2 => k H locs la2 hR hS (lvo.put hl (i := 6) (v := .int v) (lv := (6, .int x) :: lpr (x0 :: x1 :: x2 :: x3 :: x4 :: x5 :: some (.int x) :: t)) (fun j w hj => List.mem_cons_of_mem _ (lpr_mem.mpr hj)) rfl hl2))
theorem V_istore7 (C : Cx p s m meth c cc nL args Ts own D cA bs) {x0 x1 x2 x3 x4 x5 x6 x7 : Option Value} {t : List (Option Value)} {x : Int32} (hdg : decode cc pc = .ok (.istore 7, 2)) (hn : 7 < nL)
    (k : V p l e R s m args below meth c D bs nL h cells slots Q (pc + 2) (x0 :: x1 :: x2 :: x3 :: x4 :: x5 :: x6 :: some (.int x) :: t) (rest)) : V p l e R s m args below meth c D bs nL h cells slots Q (pc) (x0 :: x1 :: x2 :: x3 :: x4 :: x5 :: x6 :: x7 :: t) (.int x :: rest) := by
  obtain ⟨⟨hx, hb, hml, hown, hts⟩, hK, hbs, hlkm⟩ := C
  intro H locs la hR hS hl
  exact lv_istore hx hb hdg hl.has hn rfl (fun la2 hl2 => k H locs la2 hR hS (lvo.put hl (i := 7) (v := .int x) (lv := lpr (x0 :: x1 :: x2 :: x3 :: x4 :: x5 :: x6 :: x7 :: t)) (fun j w hj => lpr_mem.mpr hj) rfl hl2))
theorem V_fstore7 (C : Cx p s m meth c cc nL args Ts own D cA bs) {x0 x1 x2 x3 x4 x5 x6 x7 : Option Value} {t : List (Option Value)} {x : UInt32} (hdg : decode cc pc = .ok (.fstore 7, 2)) (hn : 7 < nL)
    (k : V p l e R s m args below meth c D bs nL h cells slots Q (pc + 2) (x0 :: x1 :: x2 :: x3 :: x4 :: x5 :: x6 :: some (.float x) :: t) (rest)) : V p l e R s m args below meth c D bs nL h cells slots Q (pc) (x0 :: x1 :: x2 :: x3 :: x4 :: x5 :: x6 :: x7 :: t) (.float x :: rest) := by
  obtain ⟨⟨hx, hb, hml, hown, hts⟩, hK, hbs, hlkm⟩ := C
  intro H locs la hR hS hl
  exact lv_fstore hx hb hdg hl.has hn rfl (fun la2 hl2 => k H locs la2 hR hS (lvo.put hl (i := 7) (v := .float x) (lv := lpr (x0 :: x1 :: x2 :: x3 :: x4 :: x5 :: x6 :: x7 :: t)) (fun j w hj => lpr_mem.mpr hj) rfl hl2))
theorem V_astore7 (C : Cx p s m meth c cc nL args Ts own D cA bs) {x0 x1 x2 x3 x4 x5 x6 x7 : Option Value} {t : List (Option Value)} {x : Nat} (hdg : decode cc pc = .ok (.astore 7, 2)) (hn : 7 < nL)
    (k : V p l e R s m args below meth c D bs nL h cells slots Q (pc + 2) (x0 :: x1 :: x2 :: x3 :: x4 :: x5 :: x6 :: some (.ref x) :: t) (rest)) : V p l e R s m args below meth c D bs nL h cells slots Q (pc) (x0 :: x1 :: x2 :: x3 :: x4 :: x5 :: x6 :: x7 :: t) (.ref x :: rest) := by
  obtain ⟨⟨hx, hb, hml, hown, hts⟩, hK, hbs, hlkm⟩ := C
  intro H locs la hR hS hl
  exact lv_astore hx hb hdg hl.has hn rfl (fun la2 hl2 => k H locs la2 hR hS (lvo.put hl (i := 7) (v := .ref x) (lv := lpr (x0 :: x1 :: x2 :: x3 :: x4 :: x5 :: x6 :: x7 :: t)) (fun j w hj => lpr_mem.mpr hj) rfl hl2))
theorem V_astoreN7 (C : Cx p s m meth c cc nL args Ts own D cA bs) {x0 x1 x2 x3 x4 x5 x6 x7 : Option Value} {t : List (Option Value)}  (hdg : decode cc pc = .ok (.astore 7, 2)) (hn : 7 < nL)
    (k : V p l e R s m args below meth c D bs nL h cells slots Q (pc + 2) (x0 :: x1 :: x2 :: x3 :: x4 :: x5 :: x6 :: some (.null) :: t) (rest)) : V p l e R s m args below meth c D bs nL h cells slots Q (pc) (x0 :: x1 :: x2 :: x3 :: x4 :: x5 :: x6 :: x7 :: t) (.null :: rest) := by
  obtain ⟨⟨hx, hb, hml, hown, hts⟩, hK, hbs, hlkm⟩ := C
  intro H locs la hR hS hl
  exact lv_astoreN hx hb hdg hl.has hn rfl (fun la2 hl2 => k H locs la2 hR hS (lvo.put hl (i := 7) (v := .null) (lv := lpr (x0 :: x1 :: x2 :: x3 :: x4 :: x5 :: x6 :: x7 :: t)) (fun j w hj => lpr_mem.mpr hj) rfl hl2))
theorem V_iinc7 (C : Cx p s m meth c cc nL args Ts own D cA bs) {x0 x1 x2 x3 x4 x5 x6 : Option Value} {t : List (Option Value)} {n : Int} {x v : Int32} (hdg : decode cc pc = .ok (.iinc 7 n, 3)) (hv : x + Int32.ofInt n = v) (hn : 7 < nL)
    (k : V p l e R s m args below meth c D bs nL h cells slots Q (pc + 3) (x0 :: x1 :: x2 :: x3 :: x4 :: x5 :: x6 :: some (.int v) :: t) (rest)) : V p l e R s m args below meth c D bs nL h cells slots Q (pc) (x0 :: x1 :: x2 :: x3 :: x4 :: x5 :: x6 :: some (.int x) :: t) (rest) := by
  obtain ⟨⟨hx, hb, hml, hown, hts⟩, hK, hbs, hlkm⟩ := C
  intro H locs la hR hS hl
  have hx1 : lv_has la nL ((7, .int x) :: lpr (x0 :: x1 :: x2 :: x3 :: x4 :: x5 :: x6 :: some (.int x) :: t)) := ⟨hl.1, hl.2.1, fun q hq => (List.mem_cons.mp hq).elim (fun z => by rw [z]; exact hl.at (i := 7) rfl) (fun z => hl.has.2.2 q z)⟩
  exact lv_iinc (k := 0) hx hb hdg hx1 rfl hv hn rfl (fun la2 hl2 => k H locs la2 hR hS (lvo.put hl (i := 7) (v := .int v) (lv := (7, .int x) :: lpr (x0 :: x1 :: x2 :: x3 :: x4 :: x5 :: x6 :: some (.int x) :: t)) (fun j w hj => List.mem_cons_of_mem _ (lpr_mem.mpr hj)) rfl hl2))
theorem V_istore8 (C : Cx p s m meth c cc nL args Ts own D cA bs) {x0 x1 x2 x3 x4 x5 x6 x7 x8 : Option Value} {t : List (Option Value)} {x : Int32} (hdg : decode cc pc = .ok (.istore 8, 2)) (hn : 8 < nL)
    (k : V p l e R s m args below meth c D bs nL h cells slots Q (pc + 2) (x0 :: x1 :: x2 :: x3 :: x4 :: x5 :: x6 :: x7 :: some (.int x) :: t) (rest)) : V p l e R s m args below meth c D bs nL h cells slots Q (pc) (x0 :: x1 :: x2 :: x3 :: x4 :: x5 :: x6 :: x7 :: x8 :: t) (.int x :: rest) := by
  obtain ⟨⟨hx, hb, hml, hown, hts⟩, hK, hbs, hlkm⟩ := C
  intro H locs la hR hS hl
  exact lv_istore hx hb hdg hl.has hn rfl (fun la2 hl2 => k H locs la2 hR hS (lvo.put hl (i := 8) (v := .int x) (lv := lpr (x0 :: x1 :: x2 :: x3 :: x4 :: x5 :: x6 :: x7 :: x8 :: t)) (fun j w hj => lpr_mem.mpr hj) rfl hl2))
theorem V_fstore8 (C : Cx p s m meth c cc nL args Ts own D cA bs) {x0 x1 x2 x3 x4 x5 x6 x7 x8 : Option Value} {t : List (Option Value)} {x : UInt32} (hdg : decode cc pc = .ok (.fstore 8, 2)) (hn : 8 < nL)
    (k : V p l e R s m args below meth c D bs nL h cells slots Q (pc + 2) (x0 :: x1 :: x2 :: x3 :: x4 :: x5 :: x6 :: x7 :: some (.float x) :: t) (rest)) : V p l e R s m args below meth c D bs nL h cells slots Q (pc) (x0 :: x1 :: x2 :: x3 :: x4 :: x5 :: x6 :: x7 :: x8 :: t) (.float x :: rest) := by
  obtain ⟨⟨hx, hb, hml, hown, hts⟩, hK, hbs, hlkm⟩ := C
  intro H locs la hR hS hl
  exact lv_fstore hx hb hdg hl.has hn rfl (fun la2 hl2 => k H locs la2 hR hS (lvo.put hl (i := 8) (v := .float x) (lv := lpr (x0 :: x1 :: x2 :: x3 :: x4 :: x5 :: x6 :: x7 :: x8 :: t)) (fun j w hj => lpr_mem.mpr hj) rfl hl2))
theorem V_astore8 (C : Cx p s m meth c cc nL args Ts own D cA bs) {x0 x1 x2 x3 x4 x5 x6 x7 x8 : Option Value} {t : List (Option Value)} {x : Nat} (hdg : decode cc pc = .ok (.astore 8, 2)) (hn : 8 < nL)
    (k : V p l e R s m args below meth c D bs nL h cells slots Q (pc + 2) (x0 :: x1 :: x2 :: x3 :: x4 :: x5 :: x6 :: x7 :: some (.ref x) :: t) (rest)) : V p l e R s m args below meth c D bs nL h cells slots Q (pc) (x0 :: x1 :: x2 :: x3 :: x4 :: x5 :: x6 :: x7 :: x8 :: t) (.ref x :: rest) := by
  obtain ⟨⟨hx, hb, hml, hown, hts⟩, hK, hbs, hlkm⟩ := C
  intro H locs la hR hS hl
  exact lv_astore hx hb hdg hl.has hn rfl (fun la2 hl2 => k H locs la2 hR hS (lvo.put hl (i := 8) (v := .ref x) (lv := lpr (x0 :: x1 :: x2 :: x3 :: x4 :: x5 :: x6 :: x7 :: x8 :: t)) (fun j w hj => lpr_mem.mpr hj) rfl hl2))
theorem V_astoreN8 (C : Cx p s m meth c cc nL args Ts own D cA bs) {x0 x1 x2 x3 x4 x5 x6 x7 x8 : Option Value} {t : List (Option Value)}  (hdg : decode cc pc = .ok (.astore 8, 2)) (hn : 8 < nL)
    (k : V p l e R s m args below meth c D bs nL h cells slots Q (pc + 2) (x0 :: x1 :: x2 :: x3 :: x4 :: x5 :: x6 :: x7 :: some (.null) :: t) (rest)) : V p l e R s m args below meth c D bs nL h cells slots Q (pc) (x0 :: x1 :: x2 :: x3 :: x4 :: x5 :: x6 :: x7 :: x8 :: t) (.null :: rest) := by
  obtain ⟨⟨hx, hb, hml, hown, hts⟩, hK, hbs, hlkm⟩ := C
  intro H locs la hR hS hl
  exact lv_astoreN hx hb hdg hl.has hn rfl (fun la2 hl2 => k H locs la2 hR hS (lvo.put hl (i := 8) (v := .null) (lv := lpr (x0 :: x1 :: x2 :: x3 :: x4 :: x5 :: x6 :: x7 :: x8 :: t)) (fun j w hj => lpr_mem.mpr hj) rfl hl2))
theorem V_iinc8 (C : Cx p s m meth c cc nL args Ts own D cA bs) {x0 x1 x2 x3 x4 x5 x6 x7 : Option Value} {t : List (Option Value)} {n : Int} {x v : Int32} (hdg : decode cc pc = .ok (.iinc 8 n, 3)) (hv : x + Int32.ofInt n = v) (hn : 8 < nL)
    (k : V p l e R s m args below meth c D bs nL h cells slots Q (pc + 3) (x0 :: x1 :: x2 :: x3 :: x4 :: x5 :: x6 :: x7 :: some (.int v) :: t) (rest)) : V p l e R s m args below meth c D bs nL h cells slots Q (pc) (x0 :: x1 :: x2 :: x3 :: x4 :: x5 :: x6 :: x7 :: some (.int x) :: t) (rest) := by
  obtain ⟨⟨hx, hb, hml, hown, hts⟩, hK, hbs, hlkm⟩ := C
  intro H locs la hR hS hl
  have hx1 : lv_has la nL ((8, .int x) :: lpr (x0 :: x1 :: x2 :: x3 :: x4 :: x5 :: x6 :: x7 :: some (.int x) :: t)) := ⟨hl.1, hl.2.1, fun q hq => (List.mem_cons.mp hq).elim (fun z => by rw [z]; exact hl.at (i := 8) rfl) (fun z => hl.has.2.2 q z)⟩
  exact lv_iinc (k := 0) hx hb hdg hx1 rfl hv hn rfl (fun la2 hl2 => k H locs la2 hR hS (lvo.put hl (i := 8) (v := .int v) (lv := (8, .int x) :: lpr (x0 :: x1 :: x2 :: x3 :: x4 :: x5 :: x6 :: x7 :: some (.int x) :: t)) (fun j w hj => List.mem_cons_of_mem _ (lpr_mem.mpr hj)) rfl hl2))
theorem V_istore9 (C : Cx p s m meth c cc nL args Ts own D cA bs) {x0 x1 x2 x3 x4 x5 x6 x7 x8 x9 : Option Value} {t : List (Option Value)} {x : Int32} (hdg : decode cc pc = .ok (.istore 9, 2)) (hn : 9 < nL)
    (k : V p l e R s m args below meth c D bs nL h cells slots Q (pc + 2) (x0 :: x1 :: x2 :: x3 :: x4 :: x5 :: x6 :: x7 :: x8 :: some (.int x) :: t) (rest)) : V p l e R s m args below meth c D bs nL h cells slots Q (pc) (x0 :: x1 :: x2 :: x3 :: x4 :: x5 :: x6 :: x7 :: x8 :: x9 :: t) (.int x :: rest) := by
  obtain ⟨⟨hx, hb, hml, hown, hts⟩, hK, hbs, hlkm⟩ := C
  intro H locs la hR hS hl
  exact lv_istore hx hb hdg hl.has hn rfl (fun la2 hl2 => k H locs la2 hR hS (lvo.put hl (i := 9) (v := .int x) (lv := lpr (x0 :: x1 :: x2 :: x3 :: x4 :: x5 :: x6 :: x7 :: x8 :: x9 :: t)) (fun j w hj => lpr_mem.mpr hj) rfl hl2))
theorem V_fstore9 (C : Cx p s m meth c cc nL args Ts own D cA bs) {x0 x1 x2 x3 x4 x5 x6 x7 x8 x9 : Option Value} {t : List (Option Value)} {x : UInt32} (hdg : decode cc pc = .ok (.fstore 9, 2)) (hn : 9 < nL)
    (k : V p l e R s m args below meth c D bs nL h cells slots Q (pc + 2) (x0 :: x1 :: x2 :: x3 :: x4 :: x5 :: x6 :: x7 :: x8 :: some (.float x) :: t) (rest)) : V p l e R s m args below meth c D bs nL h cells slots Q (pc) (x0 :: x1 :: x2 :: x3 :: x4 :: x5 :: x6 :: x7 :: x8 :: x9 :: t) (.float x :: rest) := by
  obtain ⟨⟨hx, hb, hml, hown, hts⟩, hK, hbs, hlkm⟩ := C
  intro H locs la hR hS hl
  exact lv_fstore hx hb hdg hl.has hn rfl (fun la2 hl2 => k H locs la2 hR hS (lvo.put hl (i := 9) (v := .float x) (lv := lpr (x0 :: x1 :: x2 :: x3 :: x4 :: x5 :: x6 :: x7 :: x8 :: x9 :: t)) (fun j w hj => lpr_mem.mpr hj) rfl hl2))
theorem V_astore9 (C : Cx p s m meth c cc nL args Ts own D cA bs) {x0 x1 x2 x3 x4 x5 x6 x7 x8 x9 : Option Value} {t : List (Option Value)} {x : Nat} (hdg : decode cc pc = .ok (.astore 9, 2)) (hn : 9 < nL)
    (k : V p l e R s m args below meth c D bs nL h cells slots Q (pc + 2) (x0 :: x1 :: x2 :: x3 :: x4 :: x5 :: x6 :: x7 :: x8 :: some (.ref x) :: t) (rest)) : V p l e R s m args below meth c D bs nL h cells slots Q (pc) (x0 :: x1 :: x2 :: x3 :: x4 :: x5 :: x6 :: x7 :: x8 :: x9 :: t) (.ref x :: rest) := by
  obtain ⟨⟨hx, hb, hml, hown, hts⟩, hK, hbs, hlkm⟩ := C
  intro H locs la hR hS hl
  exact lv_astore hx hb hdg hl.has hn rfl (fun la2 hl2 => k H locs la2 hR hS (lvo.put hl (i := 9) (v := .ref x) (lv := lpr (x0 :: x1 :: x2 :: x3 :: x4 :: x5 :: x6 :: x7 :: x8 :: x9 :: t)) (fun j w hj => lpr_mem.mpr hj) rfl hl2))
theorem V_astoreN9 (C : Cx p s m meth c cc nL args Ts own D cA bs) {x0 x1 x2 x3 x4 x5 x6 x7 x8 x9 : Option Value} {t : List (Option Value)}  (hdg : decode cc pc = .ok (.astore 9, 2)) (hn : 9 < nL)
    (k : V p l e R s m args below meth c D bs nL h cells slots Q (pc + 2) (x0 :: x1 :: x2 :: x3 :: x4 :: x5 :: x6 :: x7 :: x8 :: some (.null) :: t) (rest)) : V p l e R s m args below meth c D bs nL h cells slots Q (pc) (x0 :: x1 :: x2 :: x3 :: x4 :: x5 :: x6 :: x7 :: x8 :: x9 :: t) (.null :: rest) := by
  obtain ⟨⟨hx, hb, hml, hown, hts⟩, hK, hbs, hlkm⟩ := C
  intro H locs la hR hS hl
  exact lv_astoreN hx hb hdg hl.has hn rfl (fun la2 hl2 => k H locs la2 hR hS (lvo.put hl (i := 9) (v := .null) (lv := lpr (x0 :: x1 :: x2 :: x3 :: x4 :: x5 :: x6 :: x7 :: x8 :: x9 :: t)) (fun j w hj => lpr_mem.mpr hj) rfl hl2))
theorem V_iinc9 (C : Cx p s m meth c cc nL args Ts own D cA bs) {x0 x1 x2 x3 x4 x5 x6 x7 x8 : Option Value} {t : List (Option Value)} {n : Int} {x v : Int32} (hdg : decode cc pc = .ok (.iinc 9 n, 3)) (hv : x + Int32.ofInt n = v) (hn : 9 < nL)
    (k : V p l e R s m args below meth c D bs nL h cells slots Q (pc + 3) (x0 :: x1 :: x2 :: x3 :: x4 :: x5 :: x6 :: x7 :: x8 :: some (.int v) :: t) (rest)) : V p l e R s m args below meth c D bs nL h cells slots Q (pc) (x0 :: x1 :: x2 :: x3 :: x4 :: x5 :: x6 :: x7 :: x8 :: some (.int x) :: t) (rest) := by
  obtain ⟨⟨hx, hb, hml, hown, hts⟩, hK, hbs, hlkm⟩ := C
  intro H locs la hR hS hl
  have hx1 : lv_has la nL ((9, .int x) :: lpr (x0 :: x1 :: x2 :: x3 :: x4 :: x5 :: x6 :: x7 :: x8 :: some (.int x) :: t)) := ⟨hl.1, hl.2.1, fun q hq => (List.mem_cons.mp hq).elim (fun z => by rw [z]; exact hl.at (i := 9) rfl) (fun z => hl.has.2.2 q z)⟩
  exact lv_iinc (k := 0) hx hb hdg hx1 rfl hv hn rfl (fun la2 hl2 => k H locs la2 hR hS (lvo.put hl (i := 9) (v := .int v) (lv := (9, .int x) :: lpr (x0 :: x1 :: x2 :: x3 :: x4 :: x5 :: x6 :: x7 :: x8 :: some (.int x) :: t)) (fun j w hj => List.mem_cons_of_mem _ (lpr_mem.mpr hj)) rfl hl2))
theorem V_istore10 (C : Cx p s m meth c cc nL args Ts own D cA bs) {x0 x1 x2 x3 x4 x5 x6 x7 x8 x9 x10 : Option Value} {t : List (Option Value)} {x : Int32} (hdg : decode cc pc = .ok (.istore 10, 2)) (hn : 10 < nL)
    (k : V p l e R s m args below meth c D bs nL h cells slots Q (pc + 2) (x0 :: x1 :: x2 :: x3 :: x4 :: x5 :: x6 :: x7 :: x8 :: x9 :: some (.int x) :: t) (rest)) : V p l e R s m args below meth c D bs nL h cells slots Q (pc) (x0 :: x1 :: x2 :: x3 :: x4 :: x5 :: x6 :: x7 :: x8 :: x9 :: x10 :: t) (.int x :: rest) := by
  obtain ⟨⟨hx, hb, hml, hown, hts⟩, hK, hbs, hlkm⟩ := C
  intro H locs la hR hS hl
  exact lv_istore hx hb hdg hl.has hn rfl (fun la2 hl2 => k H locs la2 hR hS (lvo.put hl (i := 10) (v := .int x) (lv := lpr (x0 :: x1 :: x2 :: x3 :: x4 :: x5 :: x6 :: x7 :: x8 :: x9 :: x10 :: t)) (fun j w hj => lpr_mem.mpr hj) rfl hl2))
theorem V_fstore10 (C : Cx p s m meth c cc nL args Ts own D cA bs) {x0 x1 x2 x3 x4 x5 x6 x7 x8 x9 x10 : Option Value} {t : List (Option Value)} {x : UInt32} (hdg : decode cc pc = .ok (.fstore 10, 2)) (hn : 10 < nL)
    (k : V p l e R s m args below meth c D bs nL h cells slots Q (pc + 2) (x0 :: x1 :: x2 :: x3 :: x4 :: x5 :: x6 :: x7 :: x8 :: x9 :: some (.float x) :: t) (rest)) : V p l e R s m args below meth c D bs nL h cells slots Q (pc) (x0 :: x1 :: x2 :: x3 :: x4 :: x5 :: x6 :: x7 :: x8 :: x9 :: x10 :: t) (.float x :: rest) := by
  obtain ⟨⟨hx, hb, hml, hown, hts⟩, hK, hbs, hlkm⟩ := C
  intro H locs la hR hS hl
  exact lv_fstore hx hb hdg hl.has hn rfl (fun la2 hl2 => k H locs la2 hR hS (lvo.put hl (i := 10) (v := .float x) (lv := lpr (x0 :: x1 :: x2 :: x3 :: x4 :: x5 :: x6 :: x7 :: x8 :: x9 :: x10 :: t)) (fun j w hj => lpr_mem.mpr hj) rfl hl2))
theorem V_astore10 (C : Cx p s m meth c cc nL args Ts own D cA bs) {x0 x1 x2 x3 x4 x5 x6 x7 x8 x9 x10 : Option Value} {t : List (Option Value)} {x : Nat} (hdg : decode cc pc = .ok (.astore 10, 2)) (hn : 10 < nL)
    (k : V p l e R s m args below meth c D bs nL h cells slots Q (pc + 2) (x0 :: x1 :: x2 :: x3 :: x4 :: x5 :: x6 :: x7 :: x8 :: x9 :: some (.ref x) :: t) (rest)) : V p l e R s m args below meth c D bs nL h cells slots Q (pc) (x0 :: x1 :: x2 :: x3 :: x4 :: x5 :: x6 :: x7 :: x8 :: x9 :: x10 :: t) (.ref x :: rest) := by
  obtain ⟨⟨hx, hb, hml, hown, hts⟩, hK, hbs, hlkm⟩ := C
  intro H locs la hR hS hl
  exact lv_astore hx hb hdg hl.has hn rfl (fun la2 hl2 => k H locs la2 hR hS (lvo.put hl (i := 10) (v := .ref x) (lv := lpr (x0 :: x1 :: x2 :: x3 :: x4 :: x5 :: x6 :: x7 :: x8 :: x9 :: x10 :: t)) (fun j w hj => lpr_mem.mpr hj) rfl hl2))
theorem V_astoreN10 (C : Cx p s m meth c cc nL args Ts own D cA bs) {x0 x1 x2 x3 x4 x5 x6 x7 x8 x9 x10 : Option Value} {t : List (Option Value)}  (hdg : decode cc pc = .ok (.astore 10, 2)) (hn : 10 < nL)
    (k : V p l e R s m args below meth c D bs nL h cells slots Q (pc + 2) (x0 :: x1 :: x2 :: x3 :: x4 :: x5 :: x6 :: x7 :: x8 :: x9 :: some (.null) :: t) (rest)) : V p l e R s m args below meth c D bs nL h cells slots Q (pc) (x0 :: x1 :: x2 :: x3 :: x4 :: x5 :: x6 :: x7 :: x8 :: x9 :: x10 :: t) (.null :: rest) := by
  obtain ⟨⟨hx, hb, hml, hown, hts⟩, hK, hbs, hlkm⟩ := C
  intro H locs la hR hS hl
  exact lv_astoreN hx hb hdg hl.has hn rfl (fun la2 hl2 => k H locs la2 hR hS (lvo.put hl (i := 10) (v := .null) (lv := lpr (x0 :: x1 :: x2 :: x3 :: x4 :: x5 :: x6 :: x7 :: x8 :: x9 :: x10 :: t)) (fun j w hj => lpr_mem.mpr hj) rfl hl2))
theorem V_iinc10 (C : Cx p s m meth c cc nL args Ts own D cA bs) {x0 x1 x2 x3 x4 x5 x6 x7 x8 x9 : Option Value} {t : List (Option Value)} {n : Int} {x v : Int32} (hdg : decode cc pc = .ok (.iinc 10 n, 3)) (hv : x + Int32.ofInt n = v) (hn : 10 < nL)
    (k : V p l e R s m args below meth c D bs nL h cells slots Q (pc + 3) (x0 :: x1 :: x2 :: x3 :: x4 :: x5 :: x6 :: x7 :: x8 :: x9 :: some (.int v) :: t) (rest)) : V p l e R s m args below meth c D bs nL h cells slots Q (pc) (x0 :: x1 :: x2 :: x3 :: x4 :: x5 :: x6 :: x7 :: x8 :: x9 :: some (.int x) :: t) (rest) := by
  obtain ⟨⟨hx, hb, hml, hown, hts⟩, hK, hbs, hlkm⟩ := C
  intro H locs la hR hS hl
  have hx1 : lv_has la nL ((10, .int x) :: lpr (x0 :: x1 :: x2 :: x3 :: x4 :: x5 :: x6 :: x7 :: x8 :: x9 :: some (.int x) :: t)) := ⟨hl.1, hl.2.1, fun q hq => (List.mem_cons.mp hq).elim (fun z => by rw [z]; exact hl.at (i := 10) rfl) (fun z => hl.has.2.2 q z)⟩
  exact lv_iinc (k := 0) hx hb hdg hx1 rfl hv hn rfl (fun la2 hl2 => k H locs la2 hR hS (lvo.put hl (i := 10) (v := .int v) (lv := (10, .int x) :: lpr (x0 :: x1 :: x2 :: x3 :: x4 :: x5 :: x6 :: x7 :: x8 :: x9 :: some (.int x) :: t)) (fun j w hj => List.mem_cons_of_mem _ (lpr_mem.mpr hj)) rfl hl2))
theorem V_istore11 (C : Cx p s m meth c cc nL args Ts own D cA bs) {x0 x1 x2 x3 x4 x5 x6 x7 x8 x9 x10 x11 : Option Value} {t : List (Option Value)} {x : Int32} (hdg : decode cc pc = .ok (.istore 11, 2)) (hn : 11 < nL)
    (k : V p l e R s m args below meth c D bs nL h cells slots Q (pc + 2) (x0 :: x1 :: x2 :: x3 :: x4 :: x5 :: x6 :: x7 :: x8 :: x9 :: x10 :: some (.int x) :: t) (rest)) : V p l e R s m args below meth c D bs nL h cells slots Q (pc) (x0 :: x1 :: x2 :: x3 :: x4 :: x5 :: x6 :: x7 :: x8 :: x9 :: x10 :: x11 :: t) (.int x :: rest) := by
  obtain ⟨⟨hx, hb, hml, hown, hts⟩, hK, hbs, hlkm⟩ := C
  intro H locs la hR hS hl
  exact lv_istore hx hb hdg hl.has hn rfl (fun la2 hl2 => k H locs la2 hR hS (lvo.put hl (i := 11) (v := .int x) (lv := lpr (x0 :: x1 :: x2 :: x3 :: x4 :: x5 :: x6 :: x7 :: x8 :: x9 :: x10 :: x11 :: t)) (fun j w hj => lpr_mem.mpr hj) rfl hl2))
theorem V_fstore11 (C : Cx p s m meth c cc nL args Ts own D cA bs) {x0 x1 x2 x3 x4 x5 x6 x7 x8 x9 x10 x11 : Option Value} {t : List (Option Value)} {x : UInt32} (hdg : decode cc pc = .ok (.fstore 11, 2)) (hn : 11 < nL)
    (k : V p l e R s m args below meth c D bs nL h cells slots Q (pc + 2) (x0 :: x1 :: x2 :: x3 :: x4 :: x5 :: x6 :: x7 :: x8 :: x9 :: x10 :: some (.float x) :: t) (rest)) : V p l e R s m args below meth c D bs nL h cells slots Q (pc) (x0 :: x1 :: x2 :: x3 :: x4 :: x5 :: x6 :: x7 :: x8 :: x9 :: x10 :: x11 :: t) (.float x :: rest) := by
  obtain ⟨⟨hx, hb, hml, hown, hts⟩, hK, hbs, hlkm⟩ := C
  intro H locs la hR hS hl
  exact lv_fstore hx hb hdg hl.has hn rfl (fun la2 hl2 => k H locs la2 hR hS (lvo.put hl (i := 11) (v := .float x) (lv := lpr (x0 :: x1 :: x2 :: x3 :: x4 :: x5 :: x6 :: x7 :: x8 :: x9 :: x10 :: x11 :: t)) (fun j w hj => lpr_mem.mpr hj) rfl hl2))
theorem V_astore11 (C : Cx p s m meth c cc nL args Ts own D cA bs) {x0 x1 x2 x3 x4 x5 x6 x7 x8 x9 x10 x11 : Option Value} {t : List (Option Value)} {x : Nat} (hdg : decode cc pc = .ok (.astore 11, 2)) (hn : 11 < nL)
    (k : V p l e R s m args below meth c D bs nL h cells slots Q (pc + 2) (x0 :: x1 :: x2 :: x3 :: x4 :: x5 :: x6 :: x7 :: x8 :: x9 :: x10 :: some (.ref x) :: t) (rest)) : V p l e R s m args below meth c D bs nL h cells slots Q (pc) (x0 :: x1 :: x2 :: x3 :: x4 :: x5 :: x6 :: x7 :: x8 :: x9 :: x10 :: x11 :: t) (.ref x :: rest) := by
  obtain ⟨⟨hx, hb, hml, hown, hts⟩, hK, hbs, hlkm⟩ := C
  intro H locs la hR hS hl
  exact lv_astore hx hb hdg hl.has hn rfl (fun la2 hl2 => k H locs la2 hR hS (lvo.put hl (i := 11) (v := .ref x) (lv := lpr (x0 :: x1 :: x2 :: x3 :: x4 :: x5 :: x6 :: x7 :: x8 :: x9 :: x10 :: x11 :: t)) (fun j w hj => lpr_mem.mpr hj) rfl hl2))
theorem V_astoreN11 (C : Cx p s m meth c cc nL args Ts own D cA bs) {x0 x1 x2 x3 x4 x5 x6 x7 x8 x9 x10 x11 : Option Value} {t : List (Option Value)}  (hdg : decode cc pc = .ok (.astore 11, 2)) (hn : 11 < nL)
    (k : V p l e R s m args below meth c D bs nL h cells slots Q (pc + 2) (x0 :: x1 :: x2 :: x3 :: x4 :: x5 :: x6 :: x7 :: x8 :: x9 :: x10 :: some (.null) :: t) (rest)) : V p l e R s m args below meth c D bs nL h cells slots Q (pc) (x0 :: x1 :: x2 :: x3 :: x4 :: x5 :: x6 :: x7 :: x8 :: x9 :: x10 :: x11 :: t) (.null :: rest) := by
  obtain ⟨⟨hx, hb, hml, hown, hts⟩, hK, hbs, hlkm⟩ := C
  intro H locs la hR hS hl
  exact lv_astoreN hx hb hdg hl.has hn rfl (fun la2 hl2 => k H locs la2 hR hS (lvo.put hl (i := 11) (v := .null) (lv := lpr (x0 :: x1 :: x2 :: x3 :: x4 :: x5 :: x6 :: x7 :: x8 :: x9 :: x10 :: x11 :: t)) (fun j w hj => lpr_mem.mpr hj) rfl hl2))
theorem V_iinc11 (C : Cx p s m meth c cc nL args Ts own D cA bs) {x0 x1 x2 x3 x4 x5 x6 x7 x8 x9 x10 : Option Value} {t : List (Option Value)} {n : Int} {x v : Int32} (hdg : decode cc pc = .ok (.iinc 11 n, 3)) (hv : x + Int32.ofInt n = v) (hn : 11 < nL)
    (k : V p l e R s m args below meth c D bs nL h cells slots Q (pc + 3) (x0 :: x1 :: x2 :: x3 :: x4 :: x5 :: x6 :: x7 :: x8 :: x9 :: x10 :: some (.int v) :: t) (rest)) : V p l e R s m args below meth c D bs nL h cells slots Q (pc) (x0 :: x1 :: x2 :: x3 :: x4 :: x5 :: x6 :: x7 :: x8 :: x9 :: x10 :: some (.int x) :: t) (rest) := by
  obtain ⟨⟨hx, hb, hml, hown, hts⟩, hK, hbs, hlkm⟩ := C
  intro H locs la hR hS hl
  have hx1 : lv_has la nL ((11, .int x) :: lpr (x0 :: x1 :: x2 :: x3 :: x4 :: x5 :: x6 :: x7 :: x8 :: x9 :: x10 :: some (.int x) :: t)) := ⟨hl.1, hl.2.1, fun q hq => (List.mem_cons.mp hq).elim (fun z => by rw [z]; exact hl.at (i := 11) rfl) (fun z => hl.has.2.2 q z)⟩
  exact lv_iinc (k := 0) hx hb hdg hx1 rfl hv hn rfl (fun la2 hl2 => k H locs la2 hR hS (lvo.put hl (i := 11) (v := .int v) (lv := (11, .int x) :: lpr (x0 :: x1 :: x2 :: x3 :: x4 :: x5 :: x6 :: x7 :: x8 :: x9 :: x10 :: some (.int x) :: t)) (fun j w hj => List.mem_cons_of_mem _ (lpr_mem.mpr hj)) rfl hl2))
theorem V_istore12 (C : Cx p s m meth c cc nL args Ts own D cA bs) {x0 x1 x2 x3 x4 x5 x6 x7 x8 x9 x10 x11 x12 : Option Value} {t : List (Option Value)} {x : Int32} (hdg : decode cc pc = .ok (.istore 12, 2)) (hn : 12 < nL)
    (k : V p l e R s m args below meth c D bs nL h cells slots Q (pc + 2) (x0 :: x1 :: x2 :: x3 :: x4 :: x5 :: x6 :: x7 :: x8 :: x9 :: x10 :: x11 :: some (.int x) :: t) (rest)) : V p l e R s m args below meth c D bs nL h cells slots Q (pc) (x0 :: x1 :: x2 :: x3 :: x4 :: x5 :: x6 :: x7 :: x8 :: x9 :: x10 :: x11 :: x12 :: t) (.int x :: rest) := by
  obtain ⟨⟨hx, hb, hml, hown, hts⟩, hK, hbs, hlkm⟩ := C
  intro H locs la hR hS hl
  exact lv_istore hx hb hdg hl.has hn rfl (fun la2 hl2 => k H locs la2 hR hS (lvo.put hl (i := 12) (v := .int x) (lv := lpr (x0 :: x1 :: x2 :: x3 :: x4 :: x5 :: x6 :: x7 :: x8 :: x9 :: x10 :: x11 :: x12 :: t)) (fun j w hj => lpr_mem.mpr hj) rfl hl2))
theorem V_fstore12 (C : Cx p s m meth c cc nL args Ts own D cA bs) {x0 x1 x2 x3 x4 x5 x6 x7 x8 x9 x10 x11 x12 : Option Value} {t : List (Option Value)} {x : UInt32} (hdg : decode cc pc = .ok (.fstore 12, 2)) (hn : 12 < nL)
    (k : V p l e R s m args below meth c D bs nL h cells slots Q (pc + 2) (x0 :: x1 :: x2 :: x3 :: x4 :: x5 :: x6 :: x7 :: x8 :: x9 :: x10 :: x11 :: some (.float x) :: t) (rest)) : V p l e R s m args below meth c D bs nL h cells slots Q (pc) (x0 :: x1 :: x2 :: x3 :: x4 :: x5 :: x6 :: x7 :: x8 :: x9 :: x10 :: x11 :: x12 :: t) (.float x :: rest) := by
  obtain ⟨⟨hx, hb, hml, hown, hts⟩, hK, hbs, hlkm⟩ := C
  intro H locs la hR hS hl
  exact lv_fstore hx hb hdg hl.has hn rfl (fun la2 hl2 => k H locs la2 hR hS (lvo.put hl (i := 12) (v := .float x) (lv := lpr (x0 :: x1 :: x2 :: x3 :: x4 :: x5 :: x6 :: x7 :: x8 :: x9 :: x10 :: x11 :: x12 :: t)) (fun j w hj => lpr_mem.mpr hj) rfl hl2))
theorem V_astore12 (C : Cx p s m meth c cc nL args Ts own D cA bs) {x0 x1 x2 x3 x4 x5 x6 x7 x8 x9 x10 x11 x12 : Option Value} {t : List (Option Value)} {x : Nat} (hdg : decode cc pc = .ok (.astore 12, 2)) (hn : 12 < nL)
    (k : V p l e R s m args below meth c D bs nL h cells slots Q (pc + 2) (x0 :: x1 :: x2 :: x3 :: x4 :: x5 :: x6 :: x7 :: x8 :: x9 :: x10 :: x11 :: some (.ref x) :: t) (rest)) : V p l e R s m args below meth c D bs nL h cells slots Q (pc) (x0 :: x1 :: x2 :: x3 :: x4 :: x5 :: x6 :: x7 :: x8 :: x9 :: x10 :: x11 :: x12 :: t) (.ref x :: rest) := by
  obtain ⟨⟨hx, hb, hml, hown, hts⟩, hK, hbs, hlkm⟩ := C
  intro H locs la hR hS hl
  exact lv_astore hx hb hdg hl.has hn rfl (fun la2 hl2 => k H locs la2 hR hS (lvo.put hl (i := 12) (v := .ref x) (lv := lpr (x0 :: x1 :: x2 :: x3 :: x4 :: x5 :: x6 :: x7 :: x8 :: x9 :: x10 :: x11 :: x12 :: t)) (fun j w hj => lpr_mem.mpr hj) rfl hl2))
theorem V_astoreN12 (C : Cx p s m meth c cc nL args Ts own D cA bs) {x0 x1 x2 x3 x4 x5 x6 x7 x8 x9 x10 x11 x12 : Option Value} {t : List (Option Value)}  (hdg : decode cc pc = .ok (.astore 12, 2)) (hn : 12 < nL)
    (k : V p l e R s m args below meth c D bs nL h cells slots Q (pc + 2) (x0 :: x1 :: x2 :: x3 :: x4 :: x5 :: x6 :: x7 :: x8 :: x9 :: x10 :: x11 :: some (.null) :: t) (rest)) : V p l e R s m args below meth c D bs nL h cells slots Q (pc) (x0 :: x1 :: x2 :: x3 :: x4 :: x5 :: x6 :: x7 :: x8 :: x9 :: x10 :: x11 :: x12 :: t) (.null :: rest) := by
  obtain ⟨⟨hx, hb, hml, hown, hts⟩, hK, hbs, hlkm⟩ := C
  intro H locs la hR hS hl
  exact lv_astoreN hx hb hdg hl.has hn rfl (fun la2 hl2 => k H locs la2 hR hS (lvo.put hl (i := 12) (v := .null) (lv := lpr (x0 :: x1 :: x2 :: x3 :: x4 :: x5 :: x6 :: x7 :: x8 :: x9 :: x10 :: x11 :: x12 :: t)) (fun j w hj => lpr_mem.mpr hj) rfl hl2))
theorem V_iinc12 (C : Cx p s m meth c cc nL args Ts own D cA bs) {x0 x1 x2 x3 x4 x5 x6 x7 x8 x9 x10 x11 : Option Value} {t : List (Option Value)} {n : Int} {x v : Int32} (hdg : decode cc pc = .ok (.iinc 12 n, 3)) (hv : x + Int32.ofInt n = v) (hn : 12 < nL)
    (k : V p l e R s m args below meth c D bs nL h cells slots Q (pc + 3) (x0 :: x1 :: x2 :: x3 :: x4 :: x5 :: x6 :: x7 :: x8 :: x9 :: x10 :: x11 :: some (.int v) :: t) (rest)) : V p l e R s m args below meth c D bs nL h cells slots Q (pc) (x0 :: x1 :: x2 :: x3 :: x4 :: x5 :: x6 :: x7 :: x8 :: x9 :: x10 :: x11 :: some (.int x) :: t) (rest) := by
  obtain ⟨⟨hx, hb, hml, hown, hts⟩, hK, hbs, hlkm⟩ := C
  intro H locs la hR hS hl
  have hx1 : lv_has la nL ((12, .int x) :: lpr (x0 :: x1 :: x2 :: x3 :: x4 :: x5 :: x6 :: x7 :: x8 :: x9 :: x10 :: x11 :: some (.int x) :: t)) := ⟨hl.1, hl.2.1, fun q hq => (List.mem_cons.mp hq).elim (fun z => by rw [z]; exact hl.at (i := 12) rfl) (fun z => hl.has.2.2 q z)⟩
  exact lv_iinc (k := 0) hx hb hdg hx1 rfl hv hn rfl (fun la2 hl2 => k H locs la2 hR hS (lvo.put hl (i := 12) (v := .int v) (lv := (12, .int x) :: lpr (x0 :: x1 :: x2 :: x3 :: x4 :: x5 :: x6 :: x7 :: x8 :: x9 :: x10 :: x11 :: some (.int x) :: t)) (fun j w hj => List.mem_cons_of_mem _ (lpr_mem.mpr hj)) rfl hl2))
theorem V_istore13 (C : Cx p s m meth c cc nL args Ts own D cA bs) {x0 x1 x2 x3 x4 x5 x6 x7 x8 x9 x10 x11 x12 x13 : Option Value} {t : List (Option Value)} {x : Int32} (hdg : decode cc pc = .ok (.istore 13, 2)) (hn : 13 < nL)
    (k : V p l e R s m args below meth c D bs nL h cells slots Q (pc + 2) (x0 :: x1 :: x2 :: x3 :: x4 :: x5 :: x6 :: x7 :: x8 :: x9 :: x10 :: x11 :: x12 :: some (.int x) :: t) (rest)) : V p l e R s m args below meth c D bs nL h cells slots Q (pc) (x0 :: x1 :: x2 :: x3 :: x4 :: x5 :: x6 :: x7 :: x8 :: x9 :: x10 :: x11 :: x12 :: x13 :: t) (.int x :: rest) := by
  obtain ⟨⟨hx, hb, hml, hown, hts⟩, hK, hbs, hlkm⟩ := C
  intro H locs la hR hS hl
  exact lv_istore hx hb hdg hl.has hn rfl (fun la2 hl2 => k H locs la2 hR hS (lvo.put hl (i := 13) (v := .int x) (lv := lpr (x0 :: x1 :: x2 :: x3 :: x4 :: x5 :: x6 :: x7 :: x8 :: x9 :: x10 :: x11 :: x12 :: x13 :: t)) (fun j w hj => lpr_mem.mpr hj) rfl hl2))
theorem V_fstore13 (C : Cx p s m meth c cc nL args Ts own D cA bs) {x0 x1 x2 x3 x4 x5 x6 x7 x8 x9 x10 x11 x12 x13 : Option Value} {t : List (Option Value)} {x : UInt32} (hdg : decode cc pc = .ok (.fstore 13, 2)) (hn : 13 < nL)
    (k : V p l e R s m args below meth c D bs nL h cells slots Q (pc + 2) (x0 :: x1 :: x2 :: x3 :: x4 :: x5 :: x6 :: x7 :: x8 :: x9 :: x10 :: x11 :: x12 :: some (.float x) :: t) (rest)) : V p l e R s m args below meth c D bs nL h cells slots Q (pc) (x0 :: x1 :: x2 :: x3 :: x4 :: x5 :: x6 :: x7 :: x8 :: x9 :: x10 :: x11 :: x12 :: x13 :: t) (.float x :: rest) := by
  obtain ⟨⟨hx, hb, hml, hown, hts⟩, hK, hbs, hlkm⟩ := C
  intro H locs la hR hS hl
  exact lv_fstore hx hb hdg hl.has hn rfl (fun la2 hl2 => k H locs la2 hR hS (lvo.put hl (i := 13) (v := .float x) (lv := lpr (x0 :: x1 :: x2 :: x3 :: x4 :: x5 :: x6 :: x7 :: x8 :: x9 :: x10 :: x11 :: x12 :: x13 :: t)) (fun j w hj => lpr_mem.mpr hj) rfl hl2))
theorem V_astore13 (C : Cx p s m meth c cc nL args Ts own D cA bs) {x0 x1 x2 x3 x4 x5 x6 x7 x8 x9 x10 x11 x12 x13 : Option Value} {t : List (Option Value)} {x : Nat} (hdg : decode cc pc = .ok (.astore 13, 2)) (hn : 13 < nL)
    (k : V p l e R s m args below meth c D bs nL h cells slots Q (pc + 2) (x0 :: x1 :: x2 :: x3 :: x4 :: x5 :: x6 :: x7 :: x8 :: x9 :: x10 :: x11 :: x12 :: some (.ref x) :: t) (rest)) : V p l e R s m args below meth c D bs nL h cells slots Q (pc) (x0 :: x1 :: x2 :: x3 :: x4 :: x5 :: x6 :: x7 :: x8 :: x9 :: x10 :: x11 :: x12 :: x13 :: t) (.ref x :: rest) := by
  obtain ⟨⟨hx, hb, hml, hown, hts⟩, hK, hbs, hlkm⟩ := C
  intro H locs la hR hS hl
  exact lv_astore hx hb hdg hl.has hn rfl (fun la2 hl2 => k H locs la2 hR hS (lvo.put hl (i := 13) (v := .ref x) (lv := lpr (x0 :: x1 :: x2 :: x3 :: x4 :: x5 :: x6 :: x7 :: x8 :: x9 :: x10 :: x11 :: x12 :: x13 :: t)) (fun j w hj => lpr_mem.mpr hj) rfl hl2))
theorem V_astoreN13 (C : Cx p s m meth c cc nL args Ts own D cA bs) {x0 x1 x2 x3 x4 x5 x6 x7 x8 x9 x10 x11 x12 x13 : Option Value} {t : List (Option Value)}  (hdg : decode cc pc = .ok (.astore 13, 2)) (hn : 13 < nL)
    (k : V p l e R s m args below meth c D bs nL h cells slots Q (pc + 2) (x0 :: x1 :: x2 :: x3 :: x4 :: x5 :: x6 :: x7 :: x8 :: x9 :: x10 :: x11 :: x12 :: some (.null) :: t) (rest)) : V p l e R s m args below meth c D bs nL h cells slots Q (pc) (x0 :: x1 :: x2 :: x3 :: x4 :: x5 :: x6 :: x7 :: x8 :: x9 :: x10 :: x11 :: x12 :: x13 :: t) (.null :: rest) := by
  obtain ⟨⟨hx, hb, hml, hown, hts⟩, hK, hbs, hlkm⟩ := C
  intro H locs la hR hS hl
  exact lv_astoreN hx hb hdg hl.has hn rfl (fun la2 hl2 => k H locs la2 hR hS (lvo.put hl (i := 13) (v := .null) (lv := lpr (x0 :: x1 :: x2 :: x3 :: x4 :: x5 :: x6 :: x7 :: x8 :: x9 :: x10 :: x11 :: x12 :: x13 :: t)) (fun j w hj => lpr_mem.mpr hj) rfl hl2))
theorem V_iinc13 (C : Cx p s m meth c cc nL args Ts own D cA bs) {x0 x1 x2 x3 x4 x5 x6 x7 x8 x9 x10 x11 x12 : Option Value} {t : List (Option Value)} {n : Int} {x v : Int32} (hdg : decode cc pc = .ok (.iinc 13 n, 3)) (hv : x + Int32.ofInt n = v) (hn : 13 < nL)
    (k : V p l e R s m args below meth c D bs nL h cells slots Q (pc + 3) (x0 :: x1 :: x2 :: x3 :: x4 :: x5 :: x6 :: x7 :: x8 :: x9 :: x10 :: x11 :: x12 :: some (.int v) :: t) (rest)) : V p l e R s m args below meth c D bs nL h cells slots Q (pc) (x0 :: x1 :: x2 :: x3 :: x4 :: x5 :: x6 :: x7 :: x8 :: x9 :: x10 :: x11 :: x12 :: some (.int x) :: t) (rest) := by
  obtain ⟨⟨hx, hb, hml, hown, hts⟩, hK, hbs, hlkm⟩ := C
  intro H locs la hR hS hl
  have hx1 : lv_has la nL ((13, .int x) :: lpr (x0 :: x1 :: x2 :: x3 :: x4 :: x5 :: x6 :: x7 :: x8 :: x9 :: x10 :: x11 :: x12 :: some (.int x) :: t)) := ⟨hl.1, hl.2.1, fun q hq => (List.mem_cons.mp hq).elim (fun z => by rw [z]; exact hl.at (i := 13) rfl) (fun z => hl.has.2.2 q z)⟩
  exact lv_iinc (k := 0) hx hb hdg hx1 rfl hv hn rfl (fun la2 hl2 => k H locs la2 hR hS (lvo.put hl (i := 13) (v := .int v) (lv := (13, .int x) :: lpr (x0 :: x1 :: x2 :: x3 :: x4 :: x5 :: x6 :: x7 :: x8 :: x9 :: x10 :: x11 :: x12 :: some (.int x) :: t)) (fun j w hj => List.mem_cons_of_mem _ (lpr_mem.mpr hj)) rfl hl2))
theorem V_if_eq (C : Cx p s m meth c cc nL args Ts own D cA bs) {x : Int32} {off : Int} {tgt : Nat} (hdg : decode cc pc = .ok (.ifCond .eq off, 3)) (ht : (pc : Int) + off = (tgt : Int))
    (kt : x = 0 → V p l e R s m args below meth c D bs nL h cells slots Q (tgt) (ls) (rest)) (kf : ¬ x = 0 → V p l e R s m args below meth c D bs nL h cells slots Q (pc + 3) (ls) (rest)) : V p l e R s m args below meth c D bs nL h cells slots Q (pc) (ls) (.int x :: rest) := by
  obtain ⟨⟨hx, hb, hml, hown, hts⟩, hK, hbs, hlkm⟩ := C
  intro H locs la hR hS hl
  exact lv_if_eq hx hb hdg ht (fun z => kt z H locs la hR hS hl) (fun z => kf z H locs la hR hS hl)
theorem V_if_ne (C : Cx p s m meth c cc nL args Ts own D cA bs) {x : Int32} {off : Int} {tgt : Nat} (hdg : decode cc pc = .ok (.ifCond .ne off, 3)) (ht : (pc : Int) + off = (tgt : Int))
    (kt : ¬ x = 0 → V p l e R s m args below meth c D bs nL h cells slots Q (tgt) (ls) (rest)) (kf : x = 0 → V p l e R s m args below meth c D bs nL h cells slots Q (pc + 3) (ls) (rest)) : V p l e R s m args below meth c D bs nL h cells slots Q (pc) (ls) (.int x :: rest) := by
  obtain ⟨⟨hx, hb, hml, hown, hts⟩, hK, hbs, hlkm⟩ := C
  intro H locs la hR hS hl
  exact lv_if_ne hx hb hdg ht (fun z => kt z H locs la hR hS hl) (fun z => kf z H locs la hR hS hl)
theorem V_if_lt (C : Cx p s m meth c cc nL args Ts own D cA bs) {x : Int32} {off : Int} {tgt : Nat} (hdg : decode cc pc = .ok (.ifCond .lt off, 3)) (ht : (pc : Int) + off = (tgt : Int))
    (kt : x < 0 → V p l e R s m args below meth c D bs nL h cells slots Q (tgt) (ls) (rest)) (kf : ¬ x < 0 → V p l e R s m args below meth c D bs nL h cells slots Q (pc + 3) (ls) (rest)) : V p l e R s m args below meth c D bs nL h cells slots Q (pc) (ls) (.int x :: rest) := by
  obtain ⟨⟨hx, hb, hml, hown, hts⟩, hK, hbs, hlkm⟩ := C
  intro H locs la hR hS hl
  exact lv_if_lt hx hb hdg ht (fun z => kt z H locs la hR hS hl) (fun z => kf z H locs la hR hS hl)
theorem V_if_ge (C : Cx p s m meth c cc nL args Ts own D cA bs) {x : Int32} {off : Int} {tgt : Nat} (hdg : decode cc pc = .ok (.ifCond .ge off, 3)) (ht : (pc : Int) + off = (tgt : Int))
    (kt : 0 ≤ x → V p l e R s m args below meth c D bs nL h cells slots Q (tgt) (ls) (rest)) (kf : ¬ 0 ≤ x → V p l e R s m args below meth c D bs nL h cells slots Q (pc + 3) (ls) (rest)) : V p l e R s m args below meth c D bs nL h cells slots Q (pc) (ls) (.int x :: rest) := by
  obtain ⟨⟨hx, hb, hml, hown, hts⟩, hK, hbs, hlkm⟩ := C
  intro H locs la hR hS hl
  exact lv_if_ge hx hb hdg ht (fun z => kt z H locs la hR hS hl) (fun z => kf z H locs la hR hS hl)
theorem V_if_gt (C : Cx p s m meth c cc nL args Ts own D cA bs) {x : Int32} {off : Int} {tgt : Nat} (hdg : decode cc pc = .ok (.ifCond .gt off, 3)) (ht : (pc : Int) + off = (tgt : Int))
    (kt : 0 < x → V p l e R s m args below meth c D bs nL h cells slots Q (tgt) (ls) (rest)) (kf : ¬ 0 < x → V p l e R s m args below meth c D bs nL h cells slots Q (pc + 3) (ls) (rest)) : V p l e R s m args below meth c D bs nL h cells slots Q (pc) (ls) (.int x :: rest) := by
  obtain ⟨⟨hx, hb, hml, hown, hts⟩, hK, hbs, hlkm⟩ := C
  intro H locs la hR hS hl
  exact lv_if_gt hx hb hdg ht (fun z => kt z H locs la hR hS hl) (fun z => kf z H locs la hR hS hl)
theorem V_if_le (C : Cx p s m meth c cc nL args Ts own D cA bs) {x : Int32} {off : Int} {tgt : Nat} (hdg : decode cc pc = .ok (.ifCond .le off, 3)) (ht : (pc : Int) + off = (tgt : Int))
    (kt : x ≤ 0 → V p l e R s m args below meth c D bs nL h cells slots Q (tgt) (ls) (rest)) (kf : ¬ x ≤ 0 → V p l e R s m args below meth c D bs nL h cells slots Q (pc + 3) (ls) (rest)) : V p l e R s m args below meth c D bs nL h cells slots Q (pc) (ls) (.int x :: rest) := by
  obtain ⟨⟨hx, hb, hml, hown, hts⟩, hK, hbs, hlkm⟩ := C
  intro H locs la hR hS hl
  exact lv_if_le hx hb hdg ht (fun z => kt z H locs la hR hS hl) (fun z => kf z H locs la hR hS hl)
theorem V_icmp_eq (C : Cx p s m meth c cc nL args Ts own D cA bs) {x y : Int32} {off : Int} {tgt : Nat} (hdg : decode cc pc = .ok (.if_icmp .eq off, 3)) (ht : (pc : Int) + off = (tgt : Int))
    (kt : x = y → V p l e R s m args below meth c D bs nL h cells slots Q (tgt) (ls) (rest)) (kf : ¬ x = y → V p l e R s m args below meth c D bs nL h cells slots Q (pc + 3) (ls) (rest)) : V p l e R s m args below meth c D bs nL h cells slots Q (pc) (ls) (.int y :: .int x :: rest) := by
  obtain ⟨⟨hx, hb, hml, hown, hts⟩, hK, hbs, hlkm⟩ := C
  intro H locs la hR hS hl
  exact lv_icmp_eq hx hb hdg ht (fun z => kt z H locs la hR hS hl) (fun z => kf z H locs la hR hS hl)
theorem V_icmp_ne (C : Cx p s m meth c cc nL args Ts own D cA bs) {x y : Int32} {off : Int} {tgt : Nat} (hdg : decode cc pc = .ok (.if_icmp .ne off, 3)) (ht : (pc : Int) + off = (tgt : Int))
    (kt : ¬ x = y → V p l e R s m args below meth c D bs nL h cells slots Q (tgt) (ls) (rest)) (kf : x = y → V p l e R s m args below meth c D bs nL h cells slots Q (pc + 3) (ls) (rest)) : V p l e R s m args below meth c D bs nL h cells slots Q (pc) (ls) (.int y :: .int x :: rest) := by
  obtain ⟨⟨hx, hb, hml, hown, hts⟩, hK, hbs, hlkm⟩ := C
  intro H locs la hR hS hl
  exact lv_icmp_ne hx hb hdg ht (fun z => kt z H locs la hR hS hl) (fun z => kf z H locs la hR hS hl)
theorem V_icmp_lt (C : Cx p s m meth c cc nL args Ts own D cA bs) {x y : Int32} {off : Int} {tgt : Nat} (hdg : decode cc pc = .ok (.if_icmp .lt off, 3)) (ht : (pc : Int) + off = (tgt : Int))
    (kt : x < y → V p l e R s m args below meth c D bs nL h cells slots Q (tgt) (ls) (rest)) (kf : ¬ x < y → V p l e R s m args below meth c D bs nL h cells slots Q (pc + 3) (ls) (rest)) : V p l e R s m args below meth c D bs nL h cells slots Q (pc) (ls) (.int y :: .int x :: rest) := by
  obtain ⟨⟨hx, hb, hml, hown, hts⟩, hK, hbs, hlkm⟩ := C
  intro H locs la hR hS hl
  exact lv_icmp_lt hx hb hdg ht (fun z => kt z H locs la hR hS hl) (fun z => kf z H locs la hR hS hl)
theorem V_icmp_ge (C : Cx p s m meth c cc nL args Ts own D cA bs) {x y : Int32} {off : Int} {tgt : Nat} (hdg : decode cc pc = .ok (.if_icmp .ge off, 3)) (ht : (pc : Int) + off = (tgt : Int))
    (kt : y ≤ x → V p l e R s m args below meth c D bs nL h cells slots Q (tgt) (ls) (rest)) (kf : ¬ y ≤ x → V p l e R s m args below meth c D bs nL h cells slots Q (pc + 3) (ls) (rest)) : V p l e R s m args below meth c D bs nL h cells slots Q (pc) (ls) (.int y :: .int x :: rest) := by
  obtain ⟨⟨hx, hb, hml, hown, hts⟩, hK, hbs, hlkm⟩ := C
  intro H locs la hR hS hl
  exact lv_icmp_ge hx hb hdg ht (fun z => kt z H locs la hR hS hl) (fun z => kf z H locs la hR hS hl)
theorem V_icmp_gt (C : Cx p s m meth c cc nL args Ts own D cA bs) {x y : Int32} {off : Int} {tgt : Nat} (hdg : decode cc pc = .ok (.if_icmp .gt off, 3)) (ht : (pc : Int) + off = (tgt : Int))
    (kt : y < x → V p l e R s m args below meth c D bs nL h cells slots Q (tgt) (ls) (rest)) (kf : ¬ y < x → V p l e R s m args below meth c D bs nL h cells slots Q (pc + 3) (ls) (rest)) : V p l e R s m args below meth c D bs nL h cells slots Q (pc) (ls) (.int y :: .int x :: rest) := by
  obtain ⟨⟨hx, hb, hml, hown, hts⟩, hK, hbs, hlkm⟩ := C
  intro H locs la hR hS hl
  exact lv_icmp_gt hx hb hdg ht (fun z => kt z H locs la hR hS hl) (fun z => kf z H locs la hR hS hl)
theorem V_icmp_le (C : Cx p s m meth c cc nL args Ts own D cA bs) {x y : Int32} {off : Int} {tgt : Nat} (hdg : decode cc pc = .ok (.if_icmp .le off, 3)) (ht : (pc : Int) + off = (tgt : Int))
    (kt : x ≤ y → V p l e R s m args below meth c D bs nL h cells slots Q (tgt) (ls) (rest)) (kf : ¬ x ≤ y → V p l e R s m args below meth c D bs nL h cells slots Q (pc + 3) (ls) (rest)) : V p l e R s m args below meth c D bs nL h cells slots Q (pc) (ls) (.int y :: .int x :: rest) := by
  obtain ⟨⟨hx, hb, hml, hown, hts⟩, hK, hbs, hlkm⟩ := C
  intro H locs la hR hS hl
  exact lv_icmp_le hx hb hdg ht (fun z => kt z H locs la hR hS hl) (fun z => kf z H locs la hR hS hl)
theorem V_acmp_eq (C : Cx p s m meth c cc nL args Ts own D cA bs) {x y : Nat} {off : Int} {tgt : Nat} (hdg : decode cc pc = .ok (.if_acmp .eq off, 3)) (ht : (pc : Int) + off = (tgt : Int))
    (kt : x = y → V p l e R s m args below meth c D bs nL h cells slots Q (tgt) (ls) (rest)) (kf : ¬ x = y → V p l e R s m args below meth c D bs nL h cells slots Q (pc + 3) (ls) (rest)) : V p l e R s m args below meth c D bs nL h cells slots Q (pc) (ls) (.ref y :: .ref x :: rest) := by
  obtain ⟨⟨hx, hb, hml, hown, hts⟩, hK, hbs, hlkm⟩ := C
  intro H locs la hR hS hl
  exact lv_acmp_eq (rx := some x) (ry := some y) hx hb hdg ht (fun z => kt (by simpa using z) H locs la hR hS hl) (fun z => kf (by simpa using z) H locs la hR hS hl)
theorem V_acmp_ne (C : Cx p s m meth c cc nL args Ts own D cA bs) {x y : Nat} {off : Int} {tgt : Nat} (hdg : decode cc pc = .ok (.if_acmp .ne off, 3)) (ht : (pc : Int) + off = (tgt : Int))
    (kt : ¬ x = y → V p l e R s m args below meth c D bs nL h cells slots Q (tgt) (ls) (rest)) (kf : x = y → V p l e R s m args below meth c D bs nL h cells slots Q (pc + 3) (ls) (rest)) : V p l e R s m args below meth c D bs nL h cells slots Q (pc) (ls) (.ref y :: .ref x :: rest) := by
  obtain ⟨⟨hx, hb, hml, hown, hts⟩, hK, hbs, hlkm⟩ := C
  intro H locs la hR hS hl
  exact lv_acmp_ne (rx := some x) (ry := some y) hx hb hdg ht (fun z => kt (by simpa using z) H locs la hR hS hl) (fun z => kf (by simpa using z) H locs la hR hS hl)
theorem V_goto (C : Cx p s m meth c cc nL args Ts own D cA bs) {off : Int} {tgt : Nat} (hdg : decode cc pc = .ok (.goto off, 3)) (ht : (pc : Int) + off = (tgt : Int))
    (k : V p l e R s m args below meth c D bs nL h cells slots Q (tgt) (ls) (rest)) : V p l e R s m args below meth c D bs nL h cells slots Q (pc) (ls) (rest) := by
  obtain ⟨⟨hx, hb, hml, hown, hts⟩, hK, hbs, hlkm⟩ := C
  intro H locs la hR hS hl
  exact lv_goto hx hb hdg ht (k H locs la hR hS hl)
theorem V_ifnull (C : Cx p s m meth c cc nL args Ts own D cA bs) {x : Nat} {off : Int} (hdg : decode cc pc = .ok (.ifnull off, 3))
    (k : V p l e R s m args below meth c D bs nL h cells slots Q (pc + 3) (ls) (rest)) : V p l e R s m args below meth c D bs nL h cells slots Q (pc) (ls) (.ref x :: rest) := by
  obtain ⟨⟨hx, hb, hml, hown, hts⟩, hK, hbs, hlkm⟩ := C
  intro H locs la hR hS hl
  exact lv_ifnull hx hb hdg (k H locs la hR hS hl)
theorem V_ifnullN (C : Cx p s m meth c cc nL args Ts own D cA bs) {off : Int} {tgt : Nat} (hdg : decode cc pc = .ok (.ifnull off, 3)) (ht : (pc : Int) + off = (tgt : Int))
    (k : V p l e R s m args below meth c D bs nL h cells slots Q (tgt) (ls) (rest)) : V p l e R s m args below meth c D bs nL h cells slots Q (pc) (ls) (.null :: rest) := by
  obtain ⟨⟨hx, hb, hml, hown, hts⟩, hK, hbs, hlkm⟩ := C
  intro H locs la hR hS hl
  exact lv_ifnullN hx hb hdg ht (k H locs la hR hS hl)
theorem V_ifnonnull (C : Cx p s m meth c cc nL args Ts own D cA bs) {x : Nat} {off : Int} {tgt : Nat} (hdg : decode cc pc = .ok (.ifnonnull off, 3)) (ht : (pc : Int) + off = (tgt : Int))
    (k : V p l e R s m args below meth c D bs nL h cells slots Q (tgt) (ls) (rest)) : V p l e R s m args below meth c D bs nL h cells slots Q (pc) (ls) (.ref x :: rest) := by
  obtain ⟨⟨hx, hb, hml, hown, hts⟩, hK, hbs, hlkm⟩ := C
  intro H locs la hR hS hl
  exact lv_ifnonnull hx hb hdg ht (k H locs la hR hS hl)
theorem V_ifnonnullN (C : Cx p s m meth c cc nL args Ts own D cA bs) {off : Int} (hdg : decode cc pc = .ok (.ifnonnull off, 3))
    (k : V p l e R s m args below meth c D bs nL h cells slots Q (pc + 3) (ls) (rest)) : V p l e R s m args below meth c D bs nL h cells slots Q (pc) (ls) (.null :: rest) := by
  obtain ⟨⟨hx, hb, hml, hown, hts⟩, hK, hbs, hlkm⟩ := C
  intro H locs la hR hS hl
  exact lv_ifnonnullN hx hb hdg (k H locs la hR hS hl)
theorem V_tableIn (C : Cx p s m meth c cc nL args Ts own D cA bs) {dflt lo hi : Int} {offs : Array Int} {len : Nat} {x : Int32} {off : Int} {tgt : Nat} (hdg : decode cc pc = .ok (.tableswitch dflt lo hi offs, len)) (h1 : ¬ x.toInt < lo) (h2 : ¬ hi < x.toInt) (ho : offs[(x.toInt - lo).toNat]? = some off) (ht : (pc : Int) + off = (tgt : Int))
    (k : V p l e R s m args below meth c D bs nL h cells slots Q (tgt) (ls) (rest)) : V p l e R s m args below meth c D bs nL h cells slots Q (pc) (ls) (.int x :: rest) := by
  obtain ⟨⟨hx, hb, hml, hown, hts⟩, hK, hbs, hlkm⟩ := C
  intro H locs la hR hS hl
  exact lv_tableIn hx hb hdg h1 h2 ho ht (k H locs la hR hS hl)
theorem V_tableOut (C : Cx p s m meth c cc nL args Ts own D cA bs) {dflt lo hi : Int} {offs : Array Int} {len : Nat} {x : Int32} {tgt : Nat} (hdg : decode cc pc = .ok (.tableswitch dflt lo hi offs, len)) (h1 : x.toInt < lo ∨ hi < x.toInt) (ht : (pc : Int) + dflt = (tgt : Int))
    (k : V p l e R s m args below meth c D bs nL h cells slots Q (tgt) (ls) (rest)) : V p l e R s m args below meth c D bs nL h cells slots Q (pc) (ls) (.int x :: rest) := by
  obtain ⟨⟨hx, hb, hml, hown, hts⟩, hK, hbs, hlkm⟩ := C
  intro H locs la hR hS hl
  exact lv_tableOut hx hb hdg h1 ht (k H locs la hR hS hl)
theorem V_wk {ls2 : List (Option Value)} (hle : lle ls2 ls) (k : V p l e R s m args below meth c D bs nL h cells slots Q (pc) (ls2) (rest)) : V p l e R s m args below meth c D bs nL h cells slots Q (pc) (ls) (rest) := fun H locs la hR hS hl => k H locs la hR hS (hl.sub hle)
theorem V_wid {k2 n2 : Nat} (h1 : cells ≤ k2) (h2 : slots ≤ n2) (k : V p l e R s m args below meth c D bs nL h k2 n2 Q (pc) (ls) (rest)) : V p l e R s m args below meth c D bs nL h cells slots Q (pc) (ls) (rest) := fun H locs la hR hS hl => W.widen (k := k2) (n := n2) h1 h2 (k H locs la hR hS hl)
theorem V_h {h2 : hE} (he : h = h2) (k : V p l e R s m args below meth c D bs nL h2 cells slots Q (pc) (ls) (rest)) : V p l e R s m args below meth c D bs nL h cells slots Q (pc) (ls) (rest) := he ▸ k
theorem V_st {st st2 : List Value} (he : st = st2) (k : V p l e R s m args below meth c D bs nL h cells slots Q (pc) (ls) (st2)) : V p l e R s m args below meth c D bs nL h cells slots Q (pc) (ls) (st) := he ▸ k
theorem V_ls {ls2 : List (Option Value)} (he : ls = ls2) (k : V p l e R s m args below meth c D bs nL h cells slots Q (pc) (ls2) (rest)) : V p l e R s m args below meth c D bs nL h cells slots Q (pc) (ls) (rest) := he ▸ k
theorem V_get (C : Cx p s m meth c cc nL args Ts own D cA bs) {idx ci : Nat} {CN : String} {T : u_T} {N : Nat} {a : Nat} {fs : List Value} {v : Value} (hdg : decode cc pc = .ok (.getfield idx, 3)) (hh : h a = some (.inr (ci, fs))) (hc : vwCl[ci]? = some (CN, T, N)) (k : Nat) (hk : k < N) (hlk : Cond.fieldLink own idx (T k).1 (T k).2.1 (T k).2.2.1 ∈ Ts) (hin : ∀ w ∈ u_ws CN T N, w ∈ Ts) (hv : fs[k]? = some v)
    (kk : V p l e R s m args below meth c D bs nL h cells slots Q (pc + 3) (ls) (v :: rest)) : V p l e R s m args below meth c D bs nL h cells slots Q (pc) (ls) (.ref a :: rest) := by
  obtain ⟨⟨hx, hb, hml, hown, hts⟩, hK, hbs, hlkm⟩ := C
  intro H locs la hR hS hl
  obtain ⟨ws, w, hP, hD⟩ := id hR
  obtain ⟨q0, hq⟩ := w.at hh
  exact va_get hx hb hts hin hown hK hP q0 hq hc k hk (hts _ hlk) (fun _ z => z) hv hdg (kk H locs la hR hS hl)
theorem V_aald (C : Cx p s m meth c cc nL args Ts own D cA bs) {t0 a n : Nat} {CN : String} {f : Nat → Option Nat} {i : Int32} (hdg : decode cc pc = .ok (.aaload, 1)) (hh : h a = some (.inl (cA t0, n, .inr (.inr (.inr (.inr f)))))) (ht : (tyl cA)[t0]? = some (cA t0, .object CN)) (hi : vp_in i n)
    (k : V p l e R s m args below meth c D bs nL h cells slots Q (pc + 1) (ls) (va_rf (f i.toNatClampNeg) :: rest)) : V p l e R s m args below meth c D bs nL h cells slots Q (pc) (ls) (.int i :: .ref a :: rest) := by
  obtain ⟨⟨hx, hb, hml, hown, hts⟩, hK, hbs, hlkm⟩ := C
  intro H locs la hR hS hl
  obtain ⟨ws, w, hP, hD⟩ := id hR
  obtain ⟨q0, hq⟩ := w.at hh
  exact va_aldq hx hb hK hP q0 t0 hq ht hi hdg (k H locs la hR hS hl)
theorem V_alen (C : Cx p s m meth c cc nL args Ts own D cA bs) {t0 a : Nat} {x : vp_A} {ty : FieldType} {v : Int32} (hdg : decode cc pc = .ok (.arraylength, 1)) (hh : h a = some (.inl (cA t0, x))) (ht : (tyl cA)[t0]? = some (cA t0, ty)) (hv : Int32.ofNat x.1 = v)
    (k : V p l e R s m args below meth c D bs nL h cells slots Q (pc + 1) (ls) (.int v :: rest)) : V p l e R s m args below meth c D bs nL h cells slots Q (pc) (ls) (.ref a :: rest) := by
  obtain ⟨⟨hx, hb, hml, hown, hts⟩, hK, hbs, hlkm⟩ := C
  intro H locs la hR hS hl
  obtain ⟨ws, w, hP, hD⟩ := id hR
  obtain ⟨q0, hq⟩ := w.at hh
  exact va_alen hx hb hK hP q0 t0 hq ht hv hdg (k H locs la hR hS hl)
theorem V_put (C : Cx p s m meth c cc nL args Ts own D cA bs) {idx ci : Nat} {CN : String} {T : u_T} {N : Nat} {a : Nat} {fs : List Value} {v : Value} {ty : FieldType} (hdg : decode cc pc = .ok (.putfield idx, 3)) (hh : h a = some (.inr (ci, fs))) (hc : vwCl[ci]? = some (CN, T, N)) (ty0 : Nat → FieldType) (hty : ∀ k, k < N → parseFieldDescriptor (T k).2.2.1 = some (ty0 k)) (hnm : ∀ a, a < N → ∀ b, b < N → a ≠ b → (T a).2.1 ≠ (T b).2.1) (k : Nat) (hk : k < N) (hlk : Cond.fieldLink own idx (T k).1 (T k).2.1 (T k).2.2.1 ∈ Ts) (hin : ∀ w ∈ u_ws CN T N, w ∈ Ts) (hfin : (T k).2.2.2 = false) (hd : parseFieldDescriptor (T k).2.2.1 = some ty) (hn : narrow ty v = v) (hfit : fits ty v = true) (hlen : k < fs.length)
    (kk : V p l e R s m args below meth c D bs nL (hset h a (.inr (ci, fs.set k v))) cells slots Q (pc + 3) (ls) (rest)) : V p l e R s m args below meth c D bs nL h cells slots Q (pc) (ls) (v :: .ref a :: rest) := by
  obtain ⟨⟨hx, hb, hml, hown, hts⟩, hK, hbs, hlkm⟩ := C
  intro H locs la hR hS hl
  obtain ⟨ws, w, hP, hD⟩ := id hR
  obtain ⟨q0, hq⟩ := w.at hh
  exact va_put hx hb hts hin ty0 hty hnm hown hK hP hD hS q0 hq hc k hk (hts _ hlk) (fun _ z => z) hfin hd hn hfit hlen hdg (fun H1 locs1 hP1 hD1 hS1 => kk H1 locs1 la ⟨_, w.set hD hq, hP1, hD1⟩ hS1 hl)
theorem V_putF (C : Cx p s m meth c cc nL args Ts own D cA bs) {idx ci : Nat} {CN : String} {T : u_T} {N : Nat} {a : Nat} {fs : List Value} {v : Value} {ty : FieldType} (hdg : decode cc pc = .ok (.putfield idx, 3)) (hh : h a = some (.inr (ci, fs))) (hc : vwCl[ci]? = some (CN, T, N)) (ty0 : Nat → FieldType) (hty : ∀ k, k < N → parseFieldDescriptor (T k).2.2.1 = some (ty0 k)) (hnm : ∀ a, a < N → ∀ b, b < N → a ≠ b → (T a).2.1 ≠ (T b).2.1) (k : Nat) (hk : k < N) (hlk : Cond.fieldLink own idx (T k).1 (T k).2.1 (T k).2.2.1 ∈ Ts) (hin : ∀ w ∈ u_ws CN T N, w ∈ Ts) (hfin : (T k).2.2.2 = true) (hin2 : meth.name = "<init>") (hdecl : (T k).1 = own) (hd : parseFieldDescriptor (T k).2.2.1 = some ty) (hn : narrow ty v = v) (hfit : fits ty v = true) (hlen : k < fs.length)
    (kk : V p l e R s m args below meth c D bs nL (hset h a (.inr (ci, fs.set k v))) cells slots Q (pc + 3) (ls) (rest)) : V p l e R s m args below meth c D bs nL h cells slots Q (pc) (ls) (v :: .ref a :: rest) := by
  obtain ⟨⟨hx, hb, hml, hown, hts⟩, hK, hbs, hlkm⟩ := C
  intro H locs la hR hS hl
  obtain ⟨ws, w, hP, hD⟩ := id hR
  obtain ⟨q0, hq⟩ := w.at hh
  exact va_putF hx hb hts hin ty0 hty hnm hown hK hP hD hS q0 hq hc k hk (hts _ hlk) (fun _ z => z) hfin hin2 hdecl hd hn hfit hlen hdg (fun H1 locs1 hP1 hD1 hS1 => kk H1 locs1 la ⟨_, w.set hD hq, hP1, hD1⟩ hS1 hl)
theorem V_aast (C : Cx p s m meth c cc nL args Ts own D cA bs) {t0 a n ci v : Nat} {r : vw_C} {vs : List Value} {f : Nat → Option Nat} {i : Int32} (hdg : decode cc pc = .ok (.aastore, 1)) (hh : h a = some (.inl (cA t0, n, .inr (.inr (.inr (.inr f)))))) (ht : (tyl cA)[t0]? = some (cA t0, .object r.1)) (hv : h v = some (.inr (ci, vs))) (hc : vwCl[ci]? = some r) (hi : vp_in i n)
    (k : V p l e R s m args below meth c D bs nL (hset h a (.inl (cA t0, n, .inr (.inr (.inr (.inr (va_up f i.toNatClampNeg (some v)))))))) cells slots Q (pc + 1) (ls) (rest)) : V p l e R s m args below meth c D bs nL h cells slots Q (pc) (ls) (.ref v :: .int i :: .ref a :: rest) := by
  obtain ⟨⟨hx, hb, hml, hown, hts⟩, hK, hbs, hlkm⟩ := C
  intro H locs la hR hS hl
  obtain ⟨ws, w, hP, hD⟩ := id hR
  obtain ⟨q0, hq⟩ := w.at hh
  obtain ⟨qk, hqk⟩ := w.at hv
  exact va_astq hx hb hK hP hD hS q0 t0 qk ci hq ht hqk hc hi hdg (fun H1 locs1 hP1 hD1 hS1 => k H1 locs1 la ⟨_, w.set hD hq, hP1, hD1⟩ hS1 hl)
theorem V_new (C : Cx p s m meth c cc nL args Ts own D cA bs) {idx ci : Nat} {CN : String} {T : u_T} {N : Nat} {fs : List Value} (hdg : decode cc pc = .ok (.new idx, 3)) (hc : vwCl[ci]? = some (CN, T, N)) (ty : Nat → FieldType) (hty : ∀ k, k < N → parseFieldDescriptor (T k).2.2.1 = some (ty k)) (hin : ∀ w ∈ u_ws CN T N, w ∈ Ts) (hcl : Cond.classLink own idx CN ∈ Ts) (hinst : Cond.instantiable CN N ∈ Ts) (hini : Cond.initialized CN ∈ Ts) (hfs : ∀ j, j < N → defaultValue (ty j) = vp_V fs j) (hcells : cells + 1 ≤ R.cells) (hslots : slots + N ≤ R.slots)
    (kk : ∀ q : Nat, h q = none → bs ≤ q → V p l e R s m args below meth c D bs nL (hset h q (.inr (ci, fs))) (cells + 1) (slots + N) Q (pc + 3) (ls) (.ref q :: rest)) : V p l e R s m args below meth c D bs nL h cells slots Q (pc) (ls) (rest) := by
  obtain ⟨⟨hx, hb, hml, hown, hts⟩, hK, hbs, hlkm⟩ := C
  intro H locs la hR hS hl
  obtain ⟨ws, w, hP, hD⟩ := id hR
  exact va_new hx hb hts hin ty hty hown (hts _ hcl) (hts _ hinst) (hts _ hini) hK hP hD hS (fun q z => Nat.le_trans hbs z) hc hfs hcells hslots hdg (fun q H1 hP1 hD1 hS1 => kk q (w.push hD1).2 (hD1.2 ws.length (q, _) (by rw [List.getElem?_append_right (Nat.le_refl _), Nat.sub_self]; rfl)) H1 locs la ⟨_, (w.push hD1).1, hP1, hD1⟩ hS1 hl)
theorem V_newa (C : Cx p s m meth c cc nL args Ts own D cA bs) {atype : ArrayType} {ty : FieldType} {t0 : Nat} {n : Int32} {N2 : Nat} {a0 : vp_A} (hdg : decode cc pc = .ok (.newarray atype, 2)) (harr : Cond.arrayClass (newarray.typeOf atype) ∈ Ts) (hty : newarray.typeOf atype = ty) (ht : (tyl cA)[t0]? = some (cA t0, ty)) (ha : ∀ cB : ClassId, vp_cell cB a0 = arrV cB N2 (fun _ => defaultValue ty)) (hn : ¬ n < 0) (hN : n.toNatClampNeg = N2) (hbytes : N2 * componentBytes ty ≤ 536870912) (hcells : cells + 1 ≤ R.cells) (hslots : slots + N2 ≤ R.slots)
    (kk : ∀ q : Nat, h q = none → bs ≤ q → V p l e R s m args below meth c D bs nL (hset h q (.inl (cA t0, a0))) (cells + 1) (slots + N2) Q (pc + 2) (ls) (.ref q :: rest)) : V p l e R s m args below meth c D bs nL h cells slots Q (pc) (ls) (.int n :: rest) := by
  obtain ⟨⟨hx, hb, hml, hown, hts⟩, hK, hbs, hlkm⟩ := C
  intro H locs la hR hS hl
  obtain ⟨ws, w, hP, hD⟩ := id hR
  refine va_newa hx hb (hts _ harr) hty hK hP hD hS (fun q z => Nat.le_trans hbs z) ha hn hN hbytes hcells hslots hdg (fun q cB H1 hK1 hP1 hD1 hS1 => ?_)
  cases hK1.last ht
  exact kk q (w.push hD1).2 (hD1.2 ws.length (q, _) (by rw [List.getElem?_append_right (Nat.le_refl _), Nat.sub_self]; rfl)) H1 locs la ⟨_, (w.push hD1).1, hP1, hD1⟩ hS1 hl
theorem V_newq (C : Cx p s m meth c cc nL args Ts own D cA bs) {idx t0 : Nat} {CN : String} {n : Int32} {N2 : Nat} (hdg : decode cc pc = .ok (.anewarray idx, 3)) (hcl : Cond.classLink own idx CN ∈ Ts) (hover : va_AO CN s) (ht : (tyl cA)[t0]? = some (cA t0, .object CN)) (hn : ¬ n < 0) (hN : n.toNatClampNeg = N2) (hbytes : N2 * 4 ≤ 536870912) (hcells : cells + 1 ≤ R.cells) (hslots : slots + N2 ≤ R.slots)
    (kk : ∀ q : Nat, h q = none → bs ≤ q → V p l e R s m args below meth c D bs nL (hset h q (.inl (cA t0, N2, .inr (.inr (.inr (.inr (fun _ => none))))))) (cells + 1) (slots + N2) Q (pc + 3) (ls) (.ref q :: rest)) : V p l e R s m args below meth c D bs nL h cells slots Q (pc) (ls) (.int n :: rest) := by
  obtain ⟨⟨hx, hb, hml, hown, hts⟩, hK, hbs, hlkm⟩ := C
  intro H locs la hR hS hl
  obtain ⟨ws, w, hP, hD⟩ := id hR
  refine va_newq hx hb hown (hts _ hcl) hover hK hP hD hS (fun q z => Nat.le_trans hbs z) hn hN hbytes hcells hslots hdg (fun q cB H1 hK1 hP1 hD1 hS1 => ?_)
  cases hK1.last ht
  exact kk q (w.push hD1).2 (hD1.2 ws.length (q, _) (by rw [List.getElem?_append_right (Nat.le_refl _), Nat.sub_self]; rfl)) H1 locs la ⟨_, (w.push hD1).1, hP1, hD1⟩ hS1 hl
end VM
