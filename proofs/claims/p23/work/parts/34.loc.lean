/-! the locals 14 and 15 -/
section VML
variable {p : Program} {l : Launch} {e : Env} {R : Room} {s : State} {m : MethodId} {args : Array Value} {below : List Frame} {meth : Method} {c : Code} {D : va_G} {cA : Nat → ClassId} {bs nL : Nat} {h : hE} {cells slots : Nat} {Q : State → Prop} {pc : Nat} {rest : List Value} {cc : ByteArray} {Ts : List Cond} {own : String}
theorem V_istore14 (C : Cx p s m meth c cc nL args Ts own D cA bs) {x0 x1 x2 x3 x4 x5 x6 x7 x8 x9 x10 x11 x12 x13 x14 : Option Value} {t : List (Option Value)} {x : Int32} (hdg : decode cc pc = .ok (.istore 14, 2)) (hn : 14 < nL)
    (k : V p l e R s m args below meth c D bs nL h cells slots Q (pc + 2) (x0 :: x1 :: x2 :: x3 :: x4 :: x5 :: x6 :: x7 :: x8 :: x9 :: x10 :: x11 :: x12 :: x13 :: some (.int x) :: t) (rest)) : V p l e R s m args below meth c D bs nL h cells slots Q (pc) (x0 :: x1 :: x2 :: x3 :: x4 :: x5 :: x6 :: x7 :: x8 :: x9 :: x10 :: x11 :: x12 :: x13 :: x14 :: t) (.int x :: rest) := by
  obtain ⟨⟨hx, hb, hml, hown, hts⟩, hK, hbs, hlkm⟩ := C
  intro H locs la hR hS hl
  exact lv_istore hx hb hdg hl.has hn rfl (fun la2 hl2 => k H locs la2 hR hS (lvo.put hl (i := 14) (v := .int x) (lv := lpr (x0 :: x1 :: x2 :: x3 :: x4 :: x5 :: x6 :: x7 :: x8 :: x9 :: x10 :: x11 :: x12 :: x13 :: x14 :: t)) (fun j w hj => lpr_mem.mpr hj) rfl hl2))
theorem V_iinc14 (C : Cx p s m meth c cc nL args Ts own D cA bs) {x0 x1 x2 x3 x4 x5 x6 x7 x8 x9 x10 x11 x12 x13 : Option Value} {t : List (Option Value)} {n : Int} {x v : Int32} (hdg : decode cc pc = .ok (.iinc 14 n, 3)) (hv : x + Int32.ofInt n = v) (hn : 14 < nL)
    (k : V p l e R s m args below meth c D bs nL h cells slots Q (pc + 3) (x0 :: x1 :: x2 :: x3 :: x4 :: x5 :: x6 :: x7 :: x8 :: x9 :: x10 :: x11 :: x12 :: x13 :: some (.int v) :: t) (rest)) : V p l e R s m args below meth c D bs nL h cells slots Q (pc) (x0 :: x1 :: x2 :: x3 :: x4 :: x5 :: x6 :: x7 :: x8 :: x9 :: x10 :: x11 :: x12 :: x13 :: some (.int x) :: t) (rest) := by
  obtain ⟨⟨hx, hb, hml, hown, hts⟩, hK, hbs, hlkm⟩ := C
  intro H locs la hR hS hl
  have hx1 : lv_has la nL ((14, .int x) :: lpr (x0 :: x1 :: x2 :: x3 :: x4 :: x5 :: x6 :: x7 :: x8 :: x9 :: x10 :: x11 :: x12 :: x13 :: some (.int x) :: t)) := ⟨hl.1, hl.2.1, fun q hq => (List.mem_cons.mp hq).elim (fun z => by rw [z]; exact hl.at (i := 14) rfl) (fun z => hl.has.2.2 q z)⟩
  exact lv_iinc (k := 0) hx hb hdg hx1 rfl hv hn rfl (fun la2 hl2 => k H locs la2 hR hS (lvo.put hl (i := 14) (v := .int v) (lv := (14, .int x) :: lpr (x0 :: x1 :: x2 :: x3 :: x4 :: x5 :: x6 :: x7 :: x8 :: x9 :: x10 :: x11 :: x12 :: x13 :: some (.int x) :: t)) (fun j w hj => List.mem_cons_of_mem _ (lpr_mem.mpr hj)) rfl hl2))
theorem V_istore15 (C : Cx p s m meth c cc nL args Ts own D cA bs) {x0 x1 x2 x3 x4 x5 x6 x7 x8 x9 x10 x11 x12 x13 x14 x15 : Option Value} {t : List (Option Value)} {x : Int32} (hdg : decode cc pc = .ok (.istore 15, 2)) (hn : 15 < nL)
    (k : V p l e R s m args below meth c D bs nL h cells slots Q (pc + 2) (x0 :: x1 :: x2 :: x3 :: x4 :: x5 :: x6 :: x7 :: x8 :: x9 :: x10 :: x11 :: x12 :: x13 :: x14 :: some (.int x) :: t) (rest)) : V p l e R s m args below meth c D bs nL h cells slots Q (pc) (x0 :: x1 :: x2 :: x3 :: x4 :: x5 :: x6 :: x7 :: x8 :: x9 :: x10 :: x11 :: x12 :: x13 :: x14 :: x15 :: t) (.int x :: rest) := by
  obtain ⟨⟨hx, hb, hml, hown, hts⟩, hK, hbs, hlkm⟩ := C
  intro H locs la hR hS hl
  exact lv_istore hx hb hdg hl.has hn rfl (fun la2 hl2 => k H locs la2 hR hS (lvo.put hl (i := 15) (v := .int x) (lv := lpr (x0 :: x1 :: x2 :: x3 :: x4 :: x5 :: x6 :: x7 :: x8 :: x9 :: x10 :: x11 :: x12 :: x13 :: x14 :: x15 :: t)) (fun j w hj => lpr_mem.mpr hj) rfl hl2))
theorem V_iinc15 (C : Cx p s m meth c cc nL args Ts own D cA bs) {x0 x1 x2 x3 x4 x5 x6 x7 x8 x9 x10 x11 x12 x13 x14 : Option Value} {t : List (Option Value)} {n : Int} {x v : Int32} (hdg : decode cc pc = .ok (.iinc 15 n, 3)) (hv : x + Int32.ofInt n = v) (hn : 15 < nL)
    (k : V p l e R s m args below meth c D bs nL h cells slots Q (pc + 3) (x0 :: x1 :: x2 :: x3 :: x4 :: x5 :: x6 :: x7 :: x8 :: x9 :: x10 :: x11 :: x12 :: x13 :: x14 :: some (.int v) :: t) (rest)) : V p l e R s m args below meth c D bs nL h cells slots Q (pc) (x0 :: x1 :: x2 :: x3 :: x4 :: x5 :: x6 :: x7 :: x8 :: x9 :: x10 :: x11 :: x12 :: x13 :: x14 :: some (.int x) :: t) (rest) := by
  obtain ⟨⟨hx, hb, hml, hown, hts⟩, hK, hbs, hlkm⟩ := C
  intro H locs la hR hS hl
  have hx1 : lv_has la nL ((15, .int x) :: lpr (x0 :: x1 :: x2 :: x3 :: x4 :: x5 :: x6 :: x7 :: x8 :: x9 :: x10 :: x11 :: x12 :: x13 :: x14 :: some (.int x) :: t)) := ⟨hl.1, hl.2.1, fun q hq => (List.mem_cons.mp hq).elim (fun z => by rw [z]; exact hl.at (i := 15) rfl) (fun z => hl.has.2.2 q z)⟩
  exact lv_iinc (k := 0) hx hb hdg hx1 rfl hv hn rfl (fun la2 hl2 => k H locs la2 hR hS (lvo.put hl (i := 15) (v := .int v) (lv := (15, .int x) :: lpr (x0 :: x1 :: x2 :: x3 :: x4 :: x5 :: x6 :: x7 :: x8 :: x9 :: x10 :: x11 :: x12 :: x13 :: x14 :: some (.int x) :: t)) (fun j w hj => List.mem_cons_of_mem _ (lpr_mem.mpr hj)) rfl hl2))
end VML
