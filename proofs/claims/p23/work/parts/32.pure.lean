/-! what is brought is of no account between the calls; to design once more changes nothing -/
section PURE
variable {w g N n a b i k : Nat} {L : Nat → Ld} {G H : Nat → Cd} {rd kd : Int32}
theorem fg_at (G : Nat → Cd) (N k : Nat) : (fgG G N k).1 = (G k).1 ∧ clt (fgG G N k) = clt (G k) ∧ cwn (fgG G N k) = cwn (G k) ∧ cam (fgG G N k) = cam (G k) ∧ crd (fgG G N k) = crd (G k) ∧ cla (fgG G N k) = cla (G k) := by
  unfold fgG
  split
  · exact ⟨rfl, rfl, rfl, rfl, rfl, rfl⟩
  · exact ⟨rfl, rfl, rfl, rfl, rfl, rfl⟩
theorem fg_in (hk : k < N) : fgG G N k = cdB (G k) FP.fconst0 := if_pos hk
theorem fg_out (hk : N ≤ k) : fgG G N k = G k := if_neg (Nat.not_lt.mpr hk)
theorem fg_set {d : Cd} (hk : k < N) : fset (fgG G N) k (cdB d FP.fconst0) = fgG (fset G k d) N := by
  funext j
  by_cases hj : j = k
  · subst hj
    rw [fset_s, fg_in hk, fset_s]
  · rw [fset_n hj]
    by_cases hN : j < N
    · rw [fg_in hN, fg_in hN, fset_n hj]
    · rw [fg_out (Nat.not_lt.mp hN), fg_out (Nat.not_lt.mp hN), fset_n hj]
theorem fg_fg : fgG (fgG G N) N = fgG G N := by
  funext j
  by_cases hN : j < N
  · rw [fg_in hN, fg_in hN]
    rfl
  · rw [fg_out (Nat.not_lt.mp hN)]
theorem tb1_z (h1 : (G k).1 = 1) (h2 : clt (G k) = none) : tb1 L G k = (L, G) := by
  unfold tb1
  rw [if_pos h1]
  split
  · rename_i c hc
    rw [h2] at hc
    cases hc
  · rfl
theorem tb1_fg (hk : k < N) : tb1 L (fgG G N) k = ((tb1 L G k).1, fgG (tb1 L G k).2 N) := by
  obtain ⟨f1, f2, -⟩ := fg_at G N k
  by_cases h1 : (G k).1 = 1
  · cases h2 : clt (G k) with
    | none =>
      rw [tb1_z h1 h2, tb1_z (f1.trans h1) (f2.trans h2)] <;> rfl
    | some c =>
      rw [tb1_p h1 h2, tb1_p (f1.trans h1) (f2.trans h2), fg_in hk]
      show (_, fset (fgG G N) k (cdB (cdP (G k) 0 none) FP.fconst0)) = (_, fgG (fset G k (cdP (G k) 0 none)) N)
      rw [fg_set hk] <;> rfl
  · rw [tb1_n h1, tb1_n (fun z => h1 (f1.symm.trans z))] <;> rfl
theorem tbS_fg (hi : i ≤ N) : tbS L (fgG G N) i = ((tbS L G i).1, fgG (tbS L G i).2 N) := by
  induction i with
  | zero => rfl
  | succ i ih =>
    show tb1 (tbS L (fgG G N) i).1 (tbS L (fgG G N) i).2 i = _
    rw [ih (by omega)]
    exact tb1_fg (by omega)
theorem dsT_fg : dsT w g n N L (fgG G N) = dsT w g n N L G := by
  unfold dsT
  rw [tbS_fg (Nat.le_refl _)]
  show dsS w g n _ (fgG (fgG _ N) N) N = _
  rw [fg_fg]
theorem cntN_fg : cntN (fgG G N) kd i = cntN G kd i := by
  induction i with
  | zero => rfl
  | succ i ih =>
    unfold cntN
    rw [ih, (fg_at G N i).1]
theorem prom_fg (hk : k < N) : prom L (fgG G N) k b = ((prom L G k b).1, fgG (prom L G k b).2 N) := by
  show (_, fset (fgG G N) k (cdP (fgG G N k) 1 (some b))) = (_, fgG (fset G k (cdP (G k) 1 (some b))) N)
  rw [fg_in hk, ← fg_set hk]
  rfl
theorem gv1_fg (hk : k < N) : gv1 a b w L (fgG G N) k = (((gv1 a b w L G k).1.1, fgG (gv1 a b w L G k).1.2 N), (gv1 a b w L G k).2) := by
  obtain ⟨f1, f2, -⟩ := fg_at G N k
  unfold gv1
  rw [f1, f2]
  split
  · rw [tb1_fg hk]
    show (prom _ (fgG _ N) k b, 1) = _
    rw [prom_fg hk] <;> rfl
  · rfl
theorem gvS_fg (hi : i ≤ N) : gvS a b w L (fgG G N) i = (((gvS a b w L G i).1.1, fgG (gvS a b w L G i).1.2 N), (gvS a b w L G i).2) := by
  induction i with
  | zero => rfl
  | succ i ih =>
    unfold gvS
    rw [ih (by omega)]
    dsimp only
    rw [gv1_fg (by omega)] <;> rfl
theorem fcT_fg {x y t : Nat} : fcT w g (fgG G N) x y rd t = fcT w g G x y rd t := by
  induction t with
  | zero => rfl
  | succ t ih =>
    unfold fcT
    rw [ih]
    unfold fc1
    obtain ⟨-, -, f3, -, f5, -⟩ := fg_at G N (idx w (nI (x + t % 3) - 1) (nI (y + t / 3) - 1))
    rw [f3, f5]
theorem fcC_fg (hk : k < N) : fcC w g (fgG G N) k rd = (fgG (fcC w g G k rd).1 N, (fcC w g G k rd).2) := by
  unfold fcC
  rw [fcT_fg]
  split
  · rfl
  · rw [fg_in hk, ← fg_set hk]
    rfl
theorem frS_fg (hi : i ≤ N) : frS w g (fgG G N) rd i = (fgG (frS w g G rd i).1 N, (frS w g G rd i).2) := by
  induction i with
  | zero => rfl
  | succ i ih =>
    unfold frS
    rw [ih (by omega)]
    dsimp only
    rw [(fg_at (frS w g G rd i).1 N i).2.2.2.2.1]
    split
    · rw [fcC_fg (by omega)] <;> rfl
    · rfl
theorem flR_fg (f : Nat) : ∀ (rd : Nat) (G : Nat → Cd) (c : Nat), flR w g N f rd (fgG G N) c = (fgG (flR w g N f rd G c).1 N, (flR w g N f rd G c).2) := by
  induction f with
  | zero => intro rd G c; rfl
  | succ f ih =>
    intro rd G c
    unfold flR
    rw [frS_fg (Nat.le_refl _)]
    dsimp only
    split
    · rfl
    · exact ih _ _ _
theorem fl0_fg : fl0 (fgG G N) N = fgG (fl0 G N) N := by
  funext j
  by_cases hN : j < N
  · rw [fg_in hN]
    unfold fl0
    rw [if_pos hN, if_pos hN, fg_in hN]
    rfl
  · rw [fg_out (Nat.not_lt.mp hN)]
    unfold fl0
    rw [if_neg hN, if_neg hN, fg_out (Nat.not_lt.mp hN)]
theorem stn_fg : stn L (fgG G N k) = stn L (G k) := by
  obtain ⟨-, f2, f3, -⟩ := fg_at G N k
  unfold stn
  rw [f2, f3]
theorem edg_fg {j : Nat} : edg L (fgG G N k) (fgG G N j) = edg L (G k) (G j) := by
  unfold edg
  rw [stn_fg, stn_fg, (fg_at G N k).1, (fg_at G N k).2.2.1, (fg_at G N j).1, (fg_at G N j).2.2.1]
theorem grS_fg : grS w g L (fgG G N) i = grS w g L G i := by
  induction i with
  | zero => rfl
  | succ i ih =>
    have e1 : edR w L (fgG G N) i = edR w L G i := by
      unfold edR
      rw [edg_fg]
    have e2 : edB w g L (fgG G N) i = edB w g L G i := by
      unfold edB
      rw [edg_fg]
    unfold grS
    rw [ih, e1, e2]
theorem fg_br (hw : w ≤ 8) (hg : g ≤ 8) {x y : Int32} {v : UInt32} : fgG (brT w g G x y v) (w * g) = fgG G (w * g) := by
  unfold brT
  split
  · rename_i h
    have hm : y.toNatClampNeg * w + x.toNatClampNeg < w * g := isAt_idx hw hg h
    rw [← fg_set hm]
    exact fset_id (by rw [fg_in hm]; rfl)
  · rfl
theorem fg_pass (hw : w ≤ 8) (hg : g ≤ 8) {u : UInt32} : fgG (passG w g k G u) (w * g) = fgG G (w * g) := by
  unfold passG
  split
  · rfl
  · rw [fg_br hw hg, fg_br hw hg, fg_br hw hg, fg_br hw hg]
theorem fg_an (hw : w ≤ 8) (hg : g ≤ 8) : fgG (anS w g L G i) (w * g) = fgG G (w * g) := by
  induction i with
  | zero => rfl
  | succ i ih =>
    unfold anS
    rw [fg_pass hw hg, ih]
/-- how many stones of b are promised among the cells ahead of i -/
def tbc (G : Nat → Cd) (b : Nat) : Nat → Nat
  | 0 => 0
  | i + 1 => tbc G b i + (if (G i).1 = 1 ∧ clt (G i) = some b then 1 else 0)
def tbk (d : Cd) : Cd := if d.1 = 1 ∧ clt d ≠ none then cdP d 0 none else d
def lqn (d : Ld) (c : Nat) : Ld := lq d (llf d + nI c) (lpm d - nI c)
def es (d : Cd) : Int32 × Option Nat × Int32 × Int32 × Int32 × Int32 := (d.1, clt d, cwn d, d.2.2.2.2.2)
theorem i32_a (x c : Int32) : x + c + 1 = x + (c + 1) := Int32.add_assoc x c 1
theorem i32_s (x c : Int32) : x - c - 1 = x - (c + 1) := by grind
theorem i32_u (x c : Int32) : x - 1 + (c + 1) = x + c := by grind
theorem i32_v (x c : Int32) : x + 1 - (c + 1) = x - c := by grind
theorem lqn_0 (d : Ld) : lqn d 0 = d := by
  show (d.1, d.2.1, d.2.2.1, llf d + nI 0, lpm d - nI 0, d.2.2.2.2.2) = d
  rw [nI_0, Int32.add_zero, Int32.sub_zero]
theorem lqn_s (d : Ld) (c : Nat) : lq (lqn d c) (llf (lqn d c) + 1) (lpm (lqn d c) - 1) = lqn d (c + 1) := by
  show (d.1, d.2.1, d.2.2.1, llf d + nI c + 1, lpm d - nI c - 1, d.2.2.2.2.2) = (d.1, d.2.1, d.2.2.1, llf d + nI (c + 1), lpm d - nI (c + 1), d.2.2.2.2.2)
  rw [nI_succ, i32_a, i32_s]
theorem lqn_u (d : Ld) (c : Nat) : lqn (lq d (llf d - 1) (lpm d + 1)) (c + 1) = lqn d c := by
  show (d.1, d.2.1, d.2.2.1, llf d - 1 + nI (c + 1), lpm d + 1 - nI (c + 1), d.2.2.2.2.2) = (d.1, d.2.1, d.2.2.1, llf d + nI c, lpm d - nI c, d.2.2.2.2.2)
  rw [nI_succ, i32_u, i32_v]
theorem if_s {α : Type} {x y : α} (h : k = i → y = x) : (if k < i then x else y) = if k < i + 1 then x else y := by
  by_cases h1 : k < i
  · rw [if_pos h1, if_pos (by omega)]
  · by_cases h2 : k = i
    · rw [if_neg h1, if_pos (by omega)]
      exact h h2
    · rw [if_neg h1, if_neg (by omega)]
theorem tbk_n {d : Cd} (h : ¬ (d.1 = 1 ∧ clt d ≠ none)) : tbk d = d := if_neg h
theorem tbk_p {d : Cd} {c : Nat} (h1 : d.1 = 1) (h2 : clt d = some c) : tbk d = cdP d 0 none := if_pos ⟨h1, fun z => by rw [h2] at z; cases z⟩
theorem tbc_0 (h : ¬ ((G i).1 = 1 ∧ clt (G i) = some b)) : tbc G b (i + 1) = tbc G b i := by
  rw [show tbc G b (i + 1) = tbc G b i + (if (G i).1 = 1 ∧ clt (G i) = some b then 1 else 0) from rfl, if_neg h] <;> rfl
theorem tbc_1 (h : (G i).1 = 1 ∧ clt (G i) = some b) : tbc G b (i + 1) = tbc G b i + 1 := by
  rw [show tbc G b (i + 1) = tbc G b i + (if (G i).1 = 1 ∧ clt (G i) = some b then 1 else 0) from rfl, if_pos h]
/-- what is taken back -/
theorem tbS_c (i : Nat) : (∀ b, (tbS L G i).1 b = lqn (L b) (tbc G b i)) ∧ ∀ k, (tbS L G i).2 k = if k < i then tbk (G k) else G k := by
  induction i with
  | zero => exact ⟨fun b => (lqn_0 _).symm, fun k => (if_neg (Nat.not_lt_zero k)).symm⟩
  | succ i ih =>
    obtain ⟨h1, h2⟩ := ih
    have hi : (tbS L G i).2 i = G i := by rw [h2, if_neg (Nat.lt_irrefl i)]
    show (∀ b, (tb1 (tbS L G i).1 (tbS L G i).2 i).1 b = _) ∧ ∀ k, (tb1 (tbS L G i).1 (tbS L G i).2 i).2 k = _
    have hsame : tbk (G i) = G i → (∀ b, ¬ ((G i).1 = 1 ∧ clt (G i) = some b)) → (∀ b, (tbS L G i).1 b = lqn (L b) (tbc G b (i + 1))) ∧ ∀ k, (tbS L G i).2 k = if k < i + 1 then tbk (G k) else G k := fun z1 z2 => ⟨fun b => by rw [h1 b, tbc_0 (z2 b)], fun k => by
      rw [h2 k]
      exact if_s (fun e => by rw [e]; exact z1.symm)⟩
    by_cases hk : (G i).1 = 1
    · cases hc : clt (G i) with
      | none =>
        rw [tb1_z (by rw [hi]; exact hk) (by rw [hi]; exact hc)]
        exact hsame (tbk_n (fun z => z.2 hc)) (fun b z => by rw [hc] at z; cases z.2)
      | some c =>
        rw [tb1_p (by rw [hi]; exact hk) (by rw [hi]; exact hc)]
        refine ⟨fun b => ?_, fun k => ?_⟩
        · show fset (tbS L G i).1 c _ b = _
          by_cases hb : b = c
          · subst hb
            rw [fset_s, h1, lqn_s, tbc_1 ⟨hk, hc⟩]
          · rw [fset_n hb, h1, tbc_0 (fun z => by rw [hc] at z; exact hb (Option.some.inj z.2).symm)]
        · show fset (tbS L G i).2 i _ k = _
          by_cases hki : k = i
          · subst hki
            rw [fset_s, hi, if_pos (Nat.lt_succ_self _), tbk_p hk hc]
          · rw [fset_n hki, h2]
            exact if_s (fun e => absurd e hki)
    · rw [tb1_n (by rw [hi]; exact hk)]
      exact hsame (tbk_n (fun z => hk z.1)) (fun b z => hk z.1)
theorem es_tbk {d e : Cd} (h : es d = es e) : es (tbk d) = es (tbk e) := by
  have h1 : d.1 = e.1 := congrArg (fun q => q.1) h
  have h2 : clt d = clt e := congrArg (fun q => q.2.1) h
  unfold tbk
  rw [h1, h2]
  split
  · show ((0 : Int32), (none : Option Nat), (es d).2.2) = (0, none, (es e).2.2)
    rw [h]
  · exact h
theorem es_AB {d e : Cd} {x y : UInt32} (h : es d = es e) : cdA (cdB d x) y = cdA (cdB e x) y := by
  show ((es d).1, (es d).2.1, (es d).2.2.1, y, x, (es d).2.2.2) = ((es e).1, (es e).2.1, (es e).2.2.1, y, x, (es e).2.2.2)
  rw [h]
theorem tbc_es (h : ∀ k, k < i → es (G k) = es (H k)) : tbc G b i = tbc H b i := by
  induction i with
  | zero => rfl
  | succ i ih =>
    have h1 : (G i).1 = (H i).1 := congrArg (fun q => q.1) (h i (Nat.lt_succ_self _))
    have h2 : clt (G i) = clt (H i) := congrArg (fun q => q.2.1) (h i (Nat.lt_succ_self _))
    unfold tbc
    rw [ih (fun k hk => h k (by omega)), h1, h2]
theorem tbc_set {d : Cd} (hn : ¬ ((G k).1 = 1 ∧ clt (G k) = some b)) (i : Nat) : tbc (fset G k d) b i = tbc G b i + (if k < i ∧ (d.1 = 1 ∧ clt d = some b) then 1 else 0) := by
  induction i with
  | zero => rw [if_neg (fun z => Nat.not_lt_zero k z.1)]; rfl
  | succ i ih =>
    rw [show tbc (fset G k d) b (i + 1) = tbc (fset G k d) b i + (if (fset G k d i).1 = 1 ∧ clt (fset G k d i) = some b then 1 else 0) from rfl, show tbc G b (i + 1) = tbc G b i + (if (G i).1 = 1 ∧ clt (G i) = some b then 1 else 0) from rfl, ih]
    by_cases hki : i = k
    · subst hki
      rw [fset_s, if_neg (fun z => Nat.lt_irrefl _ z.1), if_neg hn]
      by_cases hd : d.1 = 1 ∧ clt d = some b
      · rw [if_pos hd, if_pos ⟨Nat.lt_succ_self _, hd⟩]
      · rw [if_neg hd, if_neg (fun z => hd z.2)]
    · rw [fset_n hki]
      have e : (if k < i ∧ (d.1 = 1 ∧ clt d = some b) then 1 else 0) = (if k < i + 1 ∧ (d.1 = 1 ∧ clt d = some b) then 1 else (0 : Nat)) := by
        by_cases hd : d.1 = 1 ∧ clt d = some b
        · by_cases hlt : k < i
          · have p1 : k < i ∧ (d.1 = 1 ∧ clt d = some b) := ⟨hlt, hd⟩
            have p2 : k < i + 1 ∧ (d.1 = 1 ∧ clt d = some b) := ⟨by omega, hd⟩
            rw [if_pos p1, if_pos p2]
          · have p1 : ¬ (k < i ∧ (d.1 = 1 ∧ clt d = some b)) := fun z => hlt z.1
            have p2 : ¬ (k < i + 1 ∧ (d.1 = 1 ∧ clt d = some b)) := fun z => hlt (by have := z.1; omega)
            rw [if_neg p1, if_neg p2]
        · have p1 : ¬ (k < i ∧ (d.1 = 1 ∧ clt d = some b)) := fun z => hd z.2
          have p2 : ¬ (k < i + 1 ∧ (d.1 = 1 ∧ clt d = some b)) := fun z => hd z.2
          rw [if_neg p1, if_neg p2]
      rw [e]
      omega
theorem br_es {x y : Int32} {v : UInt32} (k : Nat) : es (brT w g G x y v k) = es (G k) := by
  unfold brT
  split
  · by_cases hk : k = y.toNatClampNeg * w + x.toNatClampNeg
    · subst hk
      rw [fset_s]
      rfl
    · rw [fset_n hk]
  · rfl
theorem br_out (hw : w ≤ 8) (hg : g ≤ 8) {x y : Int32} {v : UInt32} (hk : w * g ≤ k) : brT w g G x y v k = G k := by
  unfold brT
  split
  · rename_i h
    have hm : y.toNatClampNeg * w + x.toNatClampNeg < w * g := isAt_idx hw hg h
    rw [fset_n (by omega)]
  · rfl
theorem pass_es {m : Nat} {u : UInt32} (k : Nat) : es (passG w g m G u k) = es (G k) := by
  unfold passG
  split
  · rfl
  · rw [br_es, br_es, br_es, br_es]
theorem pass_out (hw : w ≤ 8) (hg : g ≤ 8) {m : Nat} {u : UInt32} (hk : w * g ≤ k) : passG w g m G u k = G k := by
  unfold passG
  split
  · rfl
  · rw [br_out hw hg hk, br_out hw hg hk, br_out hw hg hk, br_out hw hg hk]
/-- taken back, it is what it was ahead of the design -/
def DI (N : Nat) (L0 : Nat → Ld) (G0 : Nat → Cd) (i : Nat) (L : Nat → Ld) (G : Nat → Cd) : Prop := (∀ b, lqn (L b) (tbc G b N) = L0 b) ∧ (∀ k, k < N → es (tbk (G k)) = es (G0 k)) ∧ (∀ k, N ≤ k → G k = G0 k) ∧ ∀ k, i ≤ k → k < N → es (G k) = es (G0 k)
theorem DI.st {L0 : Nat → Ld} {G0 : Nat → Cd} (hT : ∀ k, k < N → ¬ ((G0 k).1 = 1 ∧ clt (G0 k) ≠ none)) : DI N L0 G0 0 L0 G0 := by
  refine ⟨fun b => ?_, fun k hk => by rw [tbk_n (hT k hk)], fun k hk => rfl, fun k _ hk => rfl⟩
  have : ∀ i, i ≤ N → tbc G0 b i = 0 := by
    intro i
    induction i with
    | zero => intro _; rfl
    | succ i ih =>
      intro hi
      rw [tbc_0 (fun z => hT i (by omega) ⟨z.1, fun z2 => by rw [z.2] at z2; cases z2⟩)]
      exact ih (by omega)
  rw [this N (Nat.le_refl _), lqn_0]
theorem DI.es2 {L0 : Nat → Ld} {G0 : Nat → Cd} (h : DI N L0 G0 i L G) (he : ∀ k, es (H k) = es (G k)) (ho : ∀ k, N ≤ k → H k = G k) : DI N L0 G0 i L H := by
  obtain ⟨h1, h2, h3, h4⟩ := h
  refine ⟨fun b => ?_, fun k hk => (es_tbk (he k)).trans (h2 k hk), fun k hk => (ho k hk).trans (h3 k hk), fun k hi hk => (he k).trans (h4 k hi hk)⟩
  rw [tbc_es (H := G) (fun k _ => he k)]
  exact h1 b
theorem DI.up {L0 : Nat → Ld} {G0 : Nat → Cd} (h : DI N L0 G0 i L G) : DI N L0 G0 (i + 1) L G := ⟨h.1, h.2.1, h.2.2.1, fun k hi hk => h.2.2.2 k (by omega) hk⟩
theorem DI.d0 {L0 : Nat → Ld} {G0 : Nat → Cd} (h : DI N L0 G0 i L G) (hi : i < N) (h0 : (G0 i).1 = 0 → clt (G0 i) = none) : DI N L0 G0 (i + 1) (ds0 n L G i).1 (ds0 n L G i).2 := by
  have hA : DI N L0 G0 i L (fset G i (cdA (G i) (FP.fadd (FP.i2f (cwn (G i))) (cbr (G i))))) := h.es2 (fun k => by
    by_cases hk : k = i
    · subst hk
      rw [fset_s]
      rfl
    · rw [fset_n hk]) (fun k hk => fset_n (by omega))
  have hei := hA.2.2.2 i (Nat.le_refl _) hi
  unfold ds0
  split
  · rename_i hk0
    generalize fset G i (cdA (G i) (FP.fadd (FP.i2f (cwn (G i))) (cbr (G i)))) = G1 at hA hei ⊢
    have e1 : (G1 i).1 = (G0 i).1 := congrArg (fun q => q.1) hei
    have e2 : clt (G1 i) = clt (G0 i) := congrArg (fun q => q.2.1) hei
    have e0 : (G0 i).1 = 0 := by
      have := congrArg (fun q => q.1) (h.2.2.2 i (Nat.le_refl _) hi)
      exact this.symm.trans hk0
    have e3 : clt (G1 i) = none := e2.trans (h0 e0)
    unfold promN
    split
    · exact hA.up
    · rename_i b hb
      obtain ⟨h1, h2, h3, h4⟩ := hA
      have hcnt : ∀ c, ¬ ((G1 i).1 = 1 ∧ clt (G1 i) = some c) := fun c z => by rw [e3] at z; cases z.2
      refine ⟨fun c => ?_, fun k hk => ?_, fun k hk => ?_, fun k hki hk => ?_⟩
      · show lqn (fset L b (lq (L b) (llf (L b) - 1) (lpm (L b) + 1)) c) (tbc (fset G1 i (cdP (G1 i) 1 (some b))) c N) = L0 c
        rw [tbc_set (hcnt c)]
        by_cases hcb : c = b
        · subst hcb
          rw [fset_s, if_pos ⟨hi, rfl, rfl⟩, lqn_u]
          exact h1 c
        · rw [fset_n hcb, if_neg (fun z => hcb (Option.some.inj z.2.2).symm)]
          exact h1 c
      · show es (tbk (fset G1 i (cdP (G1 i) 1 (some b)) k)) = _
        by_cases hki : k = i
        · subst hki
          rw [fset_s, tbk_p (d := cdP (G1 k) 1 (some b)) (c := b) rfl rfl, ← hei]
          show ((0 : Int32), (none : Option Nat), (es (G1 k)).2.2) = ((G1 k).1, clt (G1 k), (es (G1 k)).2.2)
          rw [e3, e1, e0]
        · rw [fset_n hki]
          exact h2 k hk
      · show fset G1 i _ k = _
        rw [fset_n (by omega)]
        exact h3 k hk
      · show es (fset G1 i _ k) = _
        rw [fset_n (by omega)]
        exact h4 k (by omega) hk
  · exact hA.up
theorem DI.dS {L0 : Nat → Ld} {G0 : Nat → Cd} (hw : w ≤ 8) (hg : g ≤ 8) (hT : ∀ k, k < w * g → ¬ ((G0 k).1 = 1 ∧ clt (G0 k) ≠ none)) (h0 : ∀ k, k < w * g → (G0 k).1 = 0 → clt (G0 k) = none) (hi : i ≤ w * g) : DI (w * g) L0 G0 i (dsS w g n L0 G0 i).1 (dsS w g n L0 G0 i).2 := by
  induction i with
  | zero => exact DI.st hT
  | succ i ih =>
    have h1 := (ih (by omega)).d0 (n := n) (by omega) (h0 i (by omega))
    exact h1.es2 (fun k => pass_es k) (fun k hk => pass_out hw hg hk)
/-- alike but for aims that are still to be found -/
def Rr (N i : Nat) (G H : Nat → Cd) : Prop := ∀ k, cdA (G k) 0 = cdA (H k) 0 ∧ (k < i ∨ N ≤ k → G k = H k)
theorem Rr.set (h : Rr N i G H) {d : Cd} : Rr N i (fset G k d) (fset H k d) := fun j => by
  by_cases hj : j = k
  · subst hj
    rw [fset_s, fset_s]
    exact ⟨rfl, fun _ => rfl⟩
  · rw [fset_n hj, fset_n hj]
    exact h j
theorem Rr.up (h : Rr N i G H) (he : G i = H i) : Rr N (i + 1) G H := fun j => ⟨(h j).1, fun z => by
  by_cases hj : j = i
  · subst hj
    exact he
  · exact (h j).2 (by omega)⟩
theorem Rr.br (h : Rr N i G H) {x y : Int32} {v : UInt32} : Rr N i (brT w g G x y v) (brT w g H x y v) := by
  unfold brT
  split
  · generalize y.toNatClampNeg * w + x.toNatClampNeg = m
    have hc : cbr (G m) = cbr (H m) := by
      have z := congrArg (fun d : Cd => cbr d) (h m).1
      exact z
    intro j
    by_cases hj : j = m
    · subst hj
      rw [fset_s, fset_s, hc]
      have z9 := congrArg (fun d : Cd => cdB d (FP.fadd (cbr (H j)) v)) (h j).1
      exact ⟨z9, fun z => by rw [(h j).2 z]⟩
    · rw [fset_n hj, fset_n hj]
      exact h j
  · exact h
theorem Rr.pass (h : Rr N i G H) {m : Nat} {u : UInt32} : Rr N i (passG w g m G u) (passG w g m H u) := by
  unfold passG
  split
  · exact h
  · exact h.br.br.br.br
theorem Rr.d1 (h : Rr N i G H) : (ds1 w g n L G i).1 = (ds1 w g n L H i).1 ∧ Rr N (i + 1) (ds1 w g n L G i).2 (ds1 w g n L H i).2 := by
  have hc := (h i).1
  have c1 : (G i).1 = (H i).1 := congrArg (fun d => d.1) hc
  have c2 : cwn (G i) = cwn (H i) := by
    have z := congrArg (fun d : Cd => cwn d) hc
    exact z
  have c3 : cbr (G i) = cbr (H i) := by
    have z := congrArg (fun d : Cd => cbr d) hc
    exact z
  have hs : cdA (G i) (FP.fadd (FP.i2f (cwn (G i))) (cbr (G i))) = cdA (H i) (FP.fadd (FP.i2f (cwn (H i))) (cbr (H i))) := by
    rw [c2, c3]
    have z := congrArg (fun d : Cd => cdA d (FP.fadd (FP.i2f (cwn (H i))) (cbr (H i)))) hc
    exact z
  have h1 : Rr N i (fset G i (cdA (G i) (FP.fadd (FP.i2f (cwn (G i))) (cbr (G i))))) (fset H i (cdA (H i) (FP.fadd (FP.i2f (cwn (H i))) (cbr (H i))))) := by
    rw [hs]
    exact h.set
  have h2 : fset G i (cdA (G i) (FP.fadd (FP.i2f (cwn (G i))) (cbr (G i)))) i = fset H i (cdA (H i) (FP.fadd (FP.i2f (cwn (H i))) (cbr (H i)))) i := by
    rw [fset_s, fset_s]
    exact hs
  have h3 : (ds0 n L G i).1 = (ds0 n L H i).1 ∧ Rr N i (ds0 n L G i).2 (ds0 n L H i).2 ∧ (ds0 n L G i).2 i = (ds0 n L H i).2 i := by
    unfold ds0
    rw [c1]
    generalize fset G i (cdA (G i) (FP.fadd (FP.i2f (cwn (G i))) (cbr (G i)))) = G1 at h1 h2 ⊢
    generalize fset H i (cdA (H i) (FP.fadd (FP.i2f (cwn (H i))) (cbr (H i)))) = H1 at h1 h2 ⊢
    split
    · cases hq : (nrs L (cam (H1 i)) n).1 with
      | none =>
        have p1 : promN n L G1 i = (L, G1) := by
          unfold promN
          rw [h2, hq] <;> rfl
        have p2 : promN n L H1 i = (L, H1) := by
          unfold promN
          rw [hq] <;> rfl
        rw [p1, p2]
        exact ⟨rfl, h1, h2⟩
      | some b =>
        have p1 : promN n L G1 i = prom L G1 i b := by
          unfold promN
          rw [h2, hq] <;> rfl
        have p2 : promN n L H1 i = prom L H1 i b := by
          unfold promN
          rw [hq] <;> rfl
        rw [p1, p2]
        unfold prom
        rw [h2]
        exact ⟨rfl, h1.set, by show fset G1 i _ i = fset H1 i _ i; rw [fset_s, fset_s]⟩
    · exact ⟨rfl, h1, h2⟩
  obtain ⟨a1, a2, a3⟩ := h3
  unfold ds1
  dsimp only
  rw [a1, a3]
  refine ⟨rfl, ?_⟩
  exact (a2.up a3).pass
theorem Rr.dS (h : Rr N 0 G H) (i : Nat) : (dsS w g n L G i).1 = (dsS w g n L H i).1 ∧ Rr N i (dsS w g n L G i).2 (dsS w g n L H i).2 := by
  induction i with
  | zero => exact ⟨rfl, h⟩
  | succ i ih =>
    obtain ⟨h1, h2⟩ := ih
    unfold dsS
    rw [h1]
    exact h2.d1
theorem Rr.eq (h : Rr N N G H) : G = H := funext fun k => (h k).2 (by omega)
/-- to design once more changes nothing -/
theorem ds_twice (hw : w ≤ 8) (hg : g ≤ 8) (h0 : ∀ k, k < w * g → (G k).1 = 0 → clt (G k) = none) : dsT w g n (w * g) (dsT w g n (w * g) L G).1 (dsT w g n (w * g) L G).2 = dsT w g n (w * g) L G := by
  obtain ⟨t1, t2⟩ := tbS_c (L := L) (G := G) (w * g)
  obtain ⟨L0, hL0⟩ : ∃ L0, L0 = (tbS L G (w * g)).1 := ⟨_, rfl⟩
  obtain ⟨G0, hG0⟩ : ∃ G0, G0 = fgG (tbS L G (w * g)).2 (w * g) := ⟨_, rfl⟩
  have hd : dsT w g n (w * g) L G = dsS w g n L0 G0 (w * g) := by rw [hL0, hG0]; rfl
  have hk0 : ∀ k, k < w * g → G0 k = cdB (tbk (G k)) FP.fconst0 := fun k hk => by
    rw [hG0, fg_in hk, t2, if_pos hk]
  have hT : ∀ k, k < w * g → ¬ ((G0 k).1 = 1 ∧ clt (G0 k) ≠ none) := fun k hk z => by
    rw [hk0 k hk] at z
    have z : (tbk (G k)).1 = 1 ∧ clt (tbk (G k)) ≠ none := z
    by_cases hz : (G k).1 = 1 ∧ clt (G k) ≠ none
    · rw [show tbk (G k) = cdP (G k) 0 none from if_pos hz] at z
      exact z.2 rfl
    · rw [tbk_n hz] at z
      exact hz z
  have h00 : ∀ k, k < w * g → (G0 k).1 = 0 → clt (G0 k) = none := fun k hk z => by
    rw [hk0 k hk] at z ⊢
    have z : (tbk (G k)).1 = 0 := z
    show clt (tbk (G k)) = none
    by_cases hz : (G k).1 = 1 ∧ clt (G k) ≠ none
    · rw [show tbk (G k) = cdP (G k) 0 none from if_pos hz] <;> rfl
    · rw [tbk_n hz] at z ⊢
      exact h0 k hk z
  rw [hd]
  obtain ⟨d1, d2, d3, -⟩ := DI.dS (n := n) (L0 := L0) hw hg hT h00 (Nat.le_refl (w * g))
  obtain ⟨L1, hL1⟩ : ∃ L1, L1 = (dsS w g n L0 G0 (w * g)).1 := ⟨_, rfl⟩
  obtain ⟨G1, hG1⟩ : ∃ G1, G1 = (dsS w g n L0 G0 (w * g)).2 := ⟨_, rfl⟩
  rw [← hL1, ← hG1]
  rw [← hL1, ← hG1] at d1
  rw [← hG1] at d2 d3
  obtain ⟨u1, u2⟩ := tbS_c (L := L1) (G := G1) (w * g)
  have eL : (tbS L1 G1 (w * g)).1 = L0 := funext fun b => by rw [u1, d1]
  have hR : Rr (w * g) 0 (fgG (tbS L1 G1 (w * g)).2 (w * g)) G0 := fun k => by
    by_cases hk : k < w * g
    · refine ⟨?_, fun z => by omega⟩
      rw [fg_in hk, u2, if_pos hk, hk0 k hk]
      refine es_AB ?_
      rw [d2 k hk, hk0 k hk]
      rfl
    · have e : fgG (tbS L1 G1 (w * g)).2 (w * g) k = G0 k := by rw [fg_out (Nat.not_lt.mp hk), u2, if_neg hk, d3 k (Nat.not_lt.mp hk)]
      exact ⟨by rw [e], fun _ => e⟩
  obtain ⟨r1, r2⟩ := hR.dS (w := w) (g := g) (n := n) (L := L0) (w * g)
  have r3 := r2.eq
  show dsS w g n (tbS L1 G1 (w * g)).1 (fgG (tbS L1 G1 (w * g)).2 (w * g)) (w * g) = _
  rw [eL]
  exact Prod.ext r1 r3
end PURE
