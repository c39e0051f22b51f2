/-! the reference's calls: fill -/
def unf (G : Nat → Cd) : Nat → Nat
  | 0 => 0
  | k + 1 => unf G k + if crd (G k) < 0 then 1 else 0
theorem unf_le (G : Nat → Cd) (n : Nat) : unf G n ≤ n := by
  induction n with
  | zero => exact Nat.le_refl _
  | succ n ih =>
    unfold unf
    split <;> omega
theorem unf_o {G : Nat → Cd} {k : Nat} {d : Cd} (n : Nat) (hn : n ≤ k) : unf (fset G k d) n = unf G n := by
  induction n with
  | zero => rfl
  | succ n ih =>
    unfold unf
    rw [ih (by omega), fset_n (by omega)]
theorem unf_s {G : Nat → Cd} {k : Nat} {d : Cd} (h1 : crd (G k) < 0) (h2 : ¬ crd d < 0) (n : Nat) (hn : k < n) : unf (fset G k d) n + 1 = unf G n := by
  induction n with
  | zero => exact absurd hn (Nat.not_lt_zero k)
  | succ n ih =>
    unfold unf
    by_cases hkn : n = k
    · subst hkn
      rw [fset_s, unf_o n (Nat.le_refl _), if_neg h2, if_pos h1]
    · rw [fset_n hkn]
      have := ih (by omega)
      omega
theorem fcC_c {w g : Nat} {G : Nat → Cd} {k : Nat} {rd : Int32} (hrd : ¬ rd < 0) (hk : crd (G k) < 0) {n : Nat} (hn : k < n) : unf (fcC w g G k rd).1 n + (fcC w g G k rd).2 = unf G n := by
  unfold fcC
  split
  · rfl
  · exact unf_s hk hrd n hn
theorem frS_c {w g : Nat} {G : Nat → Cd} {rd : Int32} (hrd : ¬ rd < 0) {n : Nat} (k : Nat) (hn : k ≤ n) : unf (frS w g G rd k).1 n + (frS w g G rd k).2 = unf G n := by
  induction k with
  | zero => rfl
  | succ k ih =>
    have h1 := ih (by omega)
    unfold frS
    split
    · rename_i hc
      have h2 := fcC_c (w := w) (g := g) hrd hc (show k < n by omega)
      show unf (fcC w g (frS w g G rd k).1 k rd).1 n + ((frS w g G rd k).2 + (fcC w g (frS w g G rd k).1 k rd).2) = _
      omega
    · exact h1
theorem fcC_0 {w g : Nat} {G : Nat → Cd} {k : Nat} {rd : Int32} (h : (fcC w g G k rd).2 = 0) : (fcC w g G k rd).1 = G := by
  unfold fcC at h ⊢
  split
  · rfl
  · rename_i hc
    rw [if_neg hc] at h
    exact absurd (show (1 : Nat) = 0 from h) (by decide)
theorem frS_0 {w g : Nat} {G : Nat → Cd} {rd : Int32} (k : Nat) (h : (frS w g G rd k).2 = 0) : (frS w g G rd k).1 = G := by
  induction k with
  | zero => rfl
  | succ k ih =>
    unfold frS at h ⊢
    split
    · rename_i hc
      rw [if_pos hc] at h
      have h : (frS w g G rd k).2 + (fcC w g (frS w g G rd k).1 k rd).2 = 0 := h
      exact (fcC_0 (by omega)).trans (ih (by omega))
    · rename_i hc
      rw [if_neg hc] at h
      exact ih h
/-- the reference's rounds -/
def rR (w N : Nat) (G : Nat → Cd) (R : Nat → Int32) : Prop := ∀ k, k < N → ∃ m, m ≤ 100 ∧ R (8 * (k / w) + k % w) = nI m ∧ crd (G k) = nI m - 1
theorem rd_iff {m rd : Nat} (hm : m ≤ 100) (hrd : rd ≤ 100) : (0 ≤ nI m - 1 ∧ nI m - 1 < nI rd) ↔ (0 < nI m ∧ nI m < nI (rd + 1)) := by
  rcases Nat.eq_zero_or_pos m with z | z
  · subst z
    exact ⟨fun z => absurd z.1 (by decide), fun z => absurd z.1 (by decide)⟩
  · obtain ⟨v, rfl⟩ : ∃ v, m = v + 1 := ⟨m - 1, by omega⟩
    rw [nI_pred]
    constructor
    · rintro ⟨h1, h2⟩
      refine ⟨nI_lt (a := 0) (by omega) (by omega), nI_lt ?_ (by omega)⟩
      rcases Nat.lt_or_ge v rd with y | y
      · omega
      · exact absurd h2 (nI_nlt y (by omega))
    · rintro ⟨h1, h2⟩
      refine ⟨nI_pos' (by omega), nI_lt ?_ (by omega)⟩
      rcases Nat.lt_or_ge (v + 1) (rd + 1) with y | y
      · omega
      · exact absurd h2 (nI_nlt y (by omega))
theorem rd_neg {m : Nat} (hm : m ≤ 100) : nI m - 1 < 0 ↔ nI m = 0 := by
  rcases Nat.eq_zero_or_pos m with z | z
  · subst z
    exact ⟨fun _ => rfl, fun _ => by decide⟩
  · obtain ⟨v, rfl⟩ : ∃ v, m = v + 1 := ⟨m - 1, by omega⟩
    rw [nI_pred]
    exact ⟨fun y => absurd y (nI_nlt (b := 0) (Nat.zero_le _) (by omega)), fun y => absurd y (nI_ne0 (by omega) (by omega))⟩
theorem rR_set {w g : Nat} (hw1 : 1 ≤ w) (hw : w ≤ 8) {G : Nat → Cd} {R : Nat → Int32} (h : rR w (w * g) G R) {k rd : Nat} (hk : k < w * g) (hrd : rd ≤ 99) {d : Cd} (hd : crd d = nI rd) : rR w (w * g) (fset G k d) (fset R (8 * (k / w) + k % w) (nI (rd + 1))) := by
  intro j hj
  by_cases hjk : j = k
  · subst hjk
    rw [fset_s, fset_s]
    exact ⟨rd + 1, by omega, rfl, by rw [nI_pred]; exact hd⟩
  · have h1 := k_mod (k := k) hw1
    have h2 := k_mod (k := j) hw1
    have h3 := at_kk (w := w) k
    have h4 := at_kk (w := w) j
    have h5 : ¬ 8 * (j / w) + j % w = 8 * (k / w) + k % w := by
      intro z
      have z1 : j / w = k / w := by omega
      have z2 : j % w = k % w := by omega
      rw [z1, z2] at h4
      exact hjk (h4.symm.trans h3)
    rw [fset_n hjk, fset_n h5]
    exact h j hj
abbrev gB (c : Nat) : Int32 := if c = 0 then 0 else 1
section RPUB12
variable {l : Launch} {D : va_G} {cA : Nat → ClassId} {bs : Nat} {A : Nat → Nat} {I : MI} {F : MF} {n : MN} {h h0 : hE} {X : XS} {th : Int32} {M : Nat}
set_option maxHeartbeats 4000000 in
set_option maxRecDepth 100000 in
theorem rf_round {p9 : Program} {e9 : Env} {s9 : State} {m9 : MethodId} {args9 : Array Value} {below9 : List Frame} {meth9 : Method} {c9 : Code} {Q : State → Prop} (C : Cx p9 s9 m9 meth9 c9 cX5_fill 14 args9 wsX5_fill RX5 D cA bs) {p rd c : Nat} {G : Nat → Cd} (hd : xdim X) (hp : p < xnp X) (hrd : rd ≤ 90)
    (r : MR cA A I F (mnn X 0) h) (hP : PR (xpl X p (xlo X) G) I F) (hR : rR (xwd X p) (xwd X p * xhg X p) G (I 19)) (hW : WB (xN X p) G) (hf : mfr h0 h)
    (k : ∀ h2 I2, MR cA A I2 F (mnn X 0) h2 → PR (xpl X p (xlo X) (frS (xwd X p) (xhg X p) G (nI rd) (xN X p)).1) I2 F → rR (xwd X p) (xwd X p * xhg X p) (frS (xwd X p) (xhg X p) G (nI rd) (xN X p)).1 (I2 19) → mfr h0 h2 → V p9 l e9 (rmk 3 0 0) s9 m9 args9 below9 meth9 c9 D bs 14 h2 0 0 Q 68 [some (.ref (A 0)), some (.int (nI p)), some (.int (nI (c + (frS (xwd X p) (xhg X p) G (nI rd) (xN X p)).2))), some (.int (nI (rd + 1))), some (.int (gB (frS (xwd X p) (xhg X p) G (nI rd) (xN X p)).2)), none, none, none, none, none, none, none, none, none] []) :
    V p9 l e9 (rmk 3 0 0) s9 m9 args9 below9 meth9 c9 D bs 14 h 0 0 Q 73 [some (.ref (A 0)), some (.int (nI p)), some (.int (nI c)), some (.int (nI rd)), none, none, none, none, none, none, none, none, none, none] [] := by
  have hnp := hd.2.1
  obtain ⟨⟨w1, w2⟩, g1, g2⟩ := hd.2.2 p hp
  have hN := (hd.N hp).2
  have hN2 : xwd X p * xhg X p ≤ 64 := hN
  have hw0 : ¬ nI (xwd X p) = 0 := nI_ne0 (by omega) (by omega)
  have hix : ∀ x y : Nat, (8 : Int32) * nI y + nI x = nI (8 * y + x) := fun x y => by rw [show (8 : Int32) = nI 8 from rfl, pk_mul, nI_add]
  refine V_iconst (v := 0) C dX5_fill_73 (by decide) ?_
  refine V_istore4 C dX5_fill_74 (by decide) ?_
  refine V_iinc3 (v := nI (rd + 1)) C dX5_fill_76 (nI_1 _) (by decide) ?_
  refine V_iconst (v := 0) C dX5_fill_79 (by decide) ?_
  refine V_istore5 C dX5_fill_80 (by decide) ?_
  refine V_for (xN X p) (fun i h4 ls4 => (∃ I4, MR cA A I4 F (mnn X 0) h4 ∧ PR (xpl X p (xlo X) (frS (xwd X p) (xhg X p) G (nI rd) i).1) I4 F ∧ rR (xwd X p) (xwd X p * xhg X p) (frS (xwd X p) (xhg X p) G (nI rd) i).1 (I4 19)) ∧ mfr h0 h4 ∧ ls4 = [some (.ref (A 0)), some (.int (nI p)), some (.int (nI (c + (frS (xwd X p) (xhg X p) G (nI rd) i).2))), some (.int (nI (rd + 1))), some (.int (gB (frS (xwd X p) (xhg X p) G (nI rd) i).2)), some (.int (nI i)), none, none, none, none, none, none, none, none]) ?_ ?_ 0 (Nat.zero_le _) ⟨⟨I, r, hP, hR⟩, hf, rfl⟩
  · rintro i h4 ls4 hi ⟨⟨I4, r4, hP4, hR4⟩, f4, rfl⟩ ih
    have hi2 : i < xwd X p * xhg X p := hi
    have hW4 := frS_W (w := xwd X p) (g := xhg X p) (rd := nI rd) w2 g2 hW i
    have hst : ∀ S, S = frS (xwd X p) (xhg X p) G (nI rd) i → frS (xwd X p) (xhg X p) G (nI rd) (i + 1) = if crd (S.1 i) < 0 then ((fcC (xwd X p) (xhg X p) S.1 i (nI rd)).1, S.2 + (fcC (xwd X p) (xhg X p) S.1 i (nI rd)).2) else S := fun S hS => by rw [hS]; rfl
    obtain ⟨S, hS⟩ : ∃ S, S = frS (xwd X p) (xhg X p) G (nI rd) i := ⟨_, rfl⟩
    have hst := hst S hS
    obtain ⟨S5, hS5⟩ : ∃ S5, S5 = frS (xwd X p) (xhg X p) G (nI rd) (i + 1) := ⟨_, rfl⟩
    rw [← hS5] at hst ih
    rw [← hS] at hP4 hR4 hW4
    rw [← hS]
    have m0 := r4.m0
    have m10 := r4.m10
    have m11 := r4.m11
    have m12 := r4.m12
    have m19 := r4.m19
    obtain ⟨p1, p2⟩ : I4 10 p = nI (xwd X p) ∧ I4 11 p = nI (xhg X p) := hP4.2.2.1 p hp
    have hdiv : i / xwd X p < xhg X p := k_div hi2
    have hmod : i % xwd X p < xwd X p := k_mod w1
    have hcel : ∀ k, k < xN X p → PRc I4 F (cx (xwd X p) p k) (S.1 k) := fun k hk => by
      have := hP4.2.2.2.1 p hp k hk
      rw [show xg (xpl X p (xlo X) S.1) p k = S.1 k from congrFun (fset_s (xg X) p S.1) k] at this
      exact this
    obtain ⟨px, hpx⟩ : ∃ px, px = i % xwd X p := ⟨_, rfl⟩
    obtain ⟨py, hpy⟩ : ∃ py, py = i / xwd X p := ⟨_, rfl⟩
    have hT := fun t (ht : t ≤ 9) => fcT_b (i := px) (j := py) (rd := nI rd) w2 g2 hW4 t ht
    have hfc : fcC (xwd X p) (xhg X p) S.1 i (nI rd) = if (fcT (xwd X p) (xhg X p) S.1 px py (nI rd) 9).2 = 0 then (S.1, 0) else (fset S.1 i (cdR (cdW (S.1 i) (FP.f2i (FP.fdiv (fcT (xwd X p) (xhg X p) S.1 px py (nI rd) 9).1 (FP.i2f (nI (fcT (xwd X p) (xhg X p) S.1 px py (nI rd) 9).2))))) (nI rd)), 1) := by rw [hpx, hpy]; rfl
    have hmod8 : px < 8 := by omega
    have hdiv8 : py < 8 := by omega
    refine V_iload C dX5_fill_82 rfl ?_
    refine V_aload_n (i := 0) C dX5_fill_84 rfl rfl ?_
    refine V_get (ci := 5) (CN := RX5) (T := TX5) (N := 26) C dX5_fill_85 (by first | assumption | exact hset_s _ _ _) rfl 10 (by decide) flX5_fill_30 wiX5_fill_X5 (by rfl) ?_
    refine V_iload_n (i := 1) C dX5_fill_88 rfl rfl ?_
    refine V_ialdK C dX5_fill_89 (by first | assumption | exact hset_s _ _ _) rfl (by omega) (by decide) p1 ?_
    refine V_aload_n (i := 0) C dX5_fill_90 rfl rfl ?_
    refine V_get (ci := 5) (CN := RX5) (T := TX5) (N := 26) C dX5_fill_91 (by first | assumption | exact hset_s _ _ _) rfl 11 (by decide) flX5_fill_33 wiX5_fill_X5 (by rfl) ?_
    refine V_iload_n (i := 1) C dX5_fill_94 rfl rfl ?_
    refine V_ialdK C dX5_fill_95 (by first | assumption | exact hset_s _ _ _) rfl (by omega) (by decide) p2 ?_
    refine V_imul C dX5_fill_96 ?_
    rw [pk_mul]
    refine V_icmp_ge (tgt := 328) C dX5_fill_97 (by decide) (fun z9 => absurd z9 (nI_ge hi (by omega))) (fun _ => ?_)
    refine V_iload C dX5_fill_100 rfl ?_
    refine V_aload_n (i := 0) C dX5_fill_102 rfl rfl ?_
    refine V_get (ci := 5) (CN := RX5) (T := TX5) (N := 26) C dX5_fill_103 (by first | assumption | exact hset_s _ _ _) rfl 10 (by decide) flX5_fill_30 wiX5_fill_X5 (by rfl) ?_
    refine V_iload_n (i := 1) C dX5_fill_106 rfl rfl ?_
    refine V_ialdK C dX5_fill_107 (by first | assumption | exact hset_s _ _ _) rfl (by omega) (by decide) p1 ?_
    refine V_irem C dX5_fill_108 hw0 ?_
    rw [pk_rem (by omega) (by omega) (by omega), ← hpx]
    refine V_istore6 C dX5_fill_109 (by decide) ?_
    refine V_iload C dX5_fill_111 rfl ?_
    refine V_aload_n (i := 0) C dX5_fill_113 rfl rfl ?_
    refine V_get (ci := 5) (CN := RX5) (T := TX5) (N := 26) C dX5_fill_114 (by first | assumption | exact hset_s _ _ _) rfl 10 (by decide) flX5_fill_30 wiX5_fill_X5 (by rfl) ?_
    refine V_iload_n (i := 1) C dX5_fill_117 rfl rfl ?_
    refine V_ialdK C dX5_fill_118 (by first | assumption | exact hset_s _ _ _) rfl (by omega) (by decide) p1 ?_
    refine V_idiv C dX5_fill_119 hw0 ?_
    rw [pk_div (by omega) (by omega) (by omega), ← hpy]
    refine V_istore7 C dX5_fill_120 (by decide) ?_
    refine V_fconst0 C dX5_fill_122 ?_
    refine V_fstore8 C dX5_fill_123 (by decide) ?_
    refine V_iconst (v := 0) C dX5_fill_125 (by decide) ?_
    refine V_istore9 C dX5_fill_126 (by decide) ?_
    refine V_iconst (v := 0) C dX5_fill_128 (by decide) ?_
    refine V_istore10 C dX5_fill_129 (by decide) ?_
    refine V_for 9 (fun j h6 ls6 => h6 = h4 ∧ ls6 = [some (.ref (A 0)), some (.int (nI p)), some (.int (nI (c + S.2))), some (.int (nI (rd + 1))), some (.int (gB S.2)), some (.int (nI i)), some (.int (nI px)), some (.int (nI py)), some (.float (fcT (xwd X p) (xhg X p) S.1 px py (nI rd) j).1), some (.int (nI (fcT (xwd X p) (xhg X p) S.1 px py (nI rd) j).2)), some (.int (nI j)), none, none, none]) ?_ ?_ 0 (Nat.zero_le _) ⟨rfl, rfl⟩
    · rintro j h6 ls6 hj ⟨z9, rfl⟩ ih2
      have z9 := z9.symm
      subst z9
      have hs2 : fcT (xwd X p) (xhg X p) S.1 px py (nI rd) (j + 1) = fc1 (xwd X p) (xhg X p) S.1 px py (nI rd) j (fcT (xwd X p) (xhg X p) S.1 px py (nI rd) j) := rfl
      have hj3 : (nI j - nI j / 3 * 3 : Int32) = nI (j % 3) := pk_rem (a := j) (d := 3) (by omega) (by decide) (by decide)
      have hd3 : (nI j / 3 : Int32) = nI (j / 3) := pk_div (a := j) (d := 3) (by omega) (by decide) (by decide)
      obtain ⟨s1, s2⟩ := hT j (by omega)
      obtain ⟨sm, hsm⟩ : ∃ sm, sm = fcT (xwd X p) (xhg X p) S.1 px py (nI rd) j := ⟨_, rfl⟩
      rw [← hsm] at hs2 s1 s2
      rw [← hsm]
      obtain ⟨ax, hax⟩ : ∃ ax, ax = nI (px + j % 3) - 1 := ⟨_, rfl⟩
      obtain ⟨ay, hay⟩ : ∃ ay, ay = nI (py + j / 3) - 1 := ⟨_, rfl⟩
      have hf1 : fc1 (xwd X p) (xhg X p) S.1 px py (nI rd) j sm = if isAt (xwd X p) (xhg X p) ax ay ∧ 0 ≤ crd (S.1 (idx (xwd X p) ax ay)) ∧ crd (S.1 (idx (xwd X p) ax ay)) < nI rd then (FP.fadd sm.1 (FP.i2f (cwn (S.1 (idx (xwd X p) ax ay)))), sm.2 + 1) else sm := by rw [hax, hay]; rfl
      rw [hf1] at hs2
      refine V_join 210 (fun h8 ls8 st8 => h8 = h4 ∧ ls8 = [some (.ref (A 0)), some (.int (nI p)), some (.int (nI (c + S.2))), some (.int (nI (rd + 1))), some (.int (gB S.2)), some (.int (nI i)), some (.int (nI px)), some (.int (nI py)), some (.float sm.1), some (.int (nI sm.2)), some (.int (nI j)), some (.int ax), some (.int ay), none] ∧ ((isAt (xwd X p) (xhg X p) ax ay ∧ 0 ≤ crd (S.1 (idx (xwd X p) ax ay)) ∧ crd (S.1 (idx (xwd X p) ax ay)) < nI rd) ∧ st8 = [.int 1] ∨ ¬ (isAt (xwd X p) (xhg X p) ax ay ∧ 0 ≤ crd (S.1 (idx (xwd X p) ax ay)) ∧ crd (S.1 (idx (xwd X p) ax ay)) < nI rd) ∧ st8 = [.int 0])) ?_ (fun hj210 => ?_)
      · rintro h8 ls8 st8 ⟨z9, rfl, hz⟩
        have z9 := z9.symm
        subst z9
        rcases hz with ⟨hc, rfl⟩ | ⟨hc, rfl⟩
        · rw [if_pos hc] at hs2
          obtain ⟨a, b, ha, hb, ea, eb⟩ := isAt_of w2 g2 hc.1
          have hab := at_lt ha hb
          have hid : idx (xwd X p) ax ay = b * xwd X p + a := by
            show ay.toNatClampNeg * _ + ax.toNatClampNeg = _
            rw [ea, eb, nI_clamp (by omega), nI_clamp (by omega)]
          rw [hid] at hs2
          have hcl := cx_lt (p := p) w1 w2 g2 (by omega) hab
          have q1 := (hcel _ hab).1
          obtain ⟨v, hv1, hv2⟩ := hW4 _ hab
          have n1 : vf_n32 (FP.fadd sm.1 (FP.i2f (cwn (S.1 (b * xwd X p + a))))) := by
            rw [hv2]
            exact fb_n32 (fp_add (C := 2 ^ 20) s1 (fp_i2f hv1 (by decide)) (by omega) (by decide)).1
          rw [ea, eb]
          refine V_istore13 C dX5_fill_210 (by decide) ?_
          refine V_fload C dX5_fill_212 rfl ?_
          refine V_iload C dX5_fill_214 rfl ?_
          refine V_if_eq (tgt := 236) C dX5_fill_216 (by decide) (fun z9 => absurd z9 (by decide)) (fun _ => ?_)
          refine V_aload_n (i := 0) C dX5_fill_219 rfl rfl ?_
          refine V_get (ci := 5) (CN := RX5) (T := TX5) (N := 26) C dX5_fill_220 (by first | assumption | exact hset_s _ _ _) rfl 12 (by decide) flX5_fill_36 wiX5_fill_X5 (by rfl) ?_
          refine V_iload_n (i := 1) C dX5_fill_223 rfl rfl ?_
          refine V_iload C dX5_fill_224 rfl ?_
          refine V_iload C dX5_fill_226 rfl ?_
          refine V_callS (n := 3) C (r_cellOf) dX5_fill_228 gX5_fill_X5_cellOf rfl (by decide +kernel) rfl rfl (by exact Nat.le_of_ble_eq_true rfl) ⟨Nat.le_of_ble_eq_true rfl, Nat.le_of_ble_eq_true rfl⟩ ⟨Nat.le_of_ble_eq_true rfl, Nat.le_of_ble_eq_true rfl⟩ (fun v9 h9 hr9 => ?_)
          obtain ⟨rfl, z9⟩ := hr9
          have z9 := z9.symm
          subst z9
          rw [← cx_at p ha]
          refine V_ialdK C dX5_fill_231 (by first | assumption | exact hset_s _ _ _) rfl hcl (by decide) q1 ?_
          refine V_i2f C dX5_fill_232 ?_
          refine V_goto (tgt := 237) C dX5_fill_233 (by decide) ?_
          refine V_fadd C dX5_fill_237 (by assumption) ?_
          refine V_fstore8 C dX5_fill_238 (by decide) ?_
          refine V_iload C dX5_fill_240 rfl ?_
          refine V_iload C dX5_fill_242 rfl ?_
          refine V_if_eq (tgt := 251) C dX5_fill_244 (by decide) (fun z9 => absurd z9 (by decide)) (fun _ => ?_)
          refine V_iconst (v := 1) C dX5_fill_247 (by decide) ?_
          refine V_goto (tgt := 252) C dX5_fill_248 (by decide) ?_
          refine V_iadd C dX5_fill_252 ?_
          rw [nI_1]
          refine V_istore9 C dX5_fill_253 (by decide) ?_
          refine V_iinc10 (v := nI (j + 1)) C dX5_fill_255 (nI_1 _) (by decide) ?_
          refine V_goto (tgt := 131) C dX5_fill_258 (by decide) ?_
          exact V_wk (by rw [hs2]; simp [lle]) (ih2 _ _ ⟨rfl, rfl⟩)
        · rw [if_neg hc] at hs2
          have hz : FP.fadd sm.1 FP.fconst0 = sm.1 := fadd_z s1.1.1 (fp_nz s1) (FP.Core.zero_iff32.mp (by decide +kernel))
          have n1 : vf_n32 (FP.fadd sm.1 FP.fconst0) := by rw [hz]; exact fb_n32 s1.1
          refine V_istore13 C dX5_fill_210 (by decide) ?_
          refine V_fload C dX5_fill_212 rfl ?_
          refine V_iload C dX5_fill_214 rfl ?_
          refine V_if_eq (tgt := 236) C dX5_fill_216 (by decide) (fun _ => ?_) (fun z9 => absurd rfl z9)
          refine V_fconst0 C dX5_fill_236 ?_
          refine V_fadd C dX5_fill_237 (by assumption) ?_
          rw [hz]
          refine V_fstore8 C dX5_fill_238 (by decide) ?_
          refine V_iload C dX5_fill_240 rfl ?_
          refine V_iload C dX5_fill_242 rfl ?_
          refine V_if_eq (tgt := 251) C dX5_fill_244 (by decide) (fun _ => ?_) (fun z9 => absurd rfl z9)
          refine V_iconst (v := 0) C dX5_fill_251 (by decide) ?_
          refine V_iadd C dX5_fill_252 ?_
          rw [Int32.add_zero]
          refine V_istore9 C dX5_fill_253 (by decide) ?_
          refine V_iinc10 (v := nI (j + 1)) C dX5_fill_255 (nI_1 _) (by decide) ?_
          refine V_goto (tgt := 131) C dX5_fill_258 (by decide) ?_
          exact V_wk (by rw [hs2]; simp [lle]) (ih2 _ _ ⟨rfl, rfl⟩)
      · have hisc := @r_isCell l D cA bs A I4 F h4 (xpl X p (xlo X) S.1) 0 r4 hd hP4 (nI p) ax ay
        have hcn : celN (xpl X p (xlo X) S.1) (nI p) ax ay ↔ isAt (xwd X p) (xhg X p) ax ay := by
          have e1 : tN (nI p) = p := tN_nI (by omega)
          show (0 ≤ nI p ∧ nI p < nI (xnp X)) ∧ isAt (xwd X (tN (nI p))) (xhg X (tN (nI p))) ax ay ↔ _
          rw [e1]
          exact ⟨fun z => z.2, fun z => ⟨⟨nI_pos' (by omega), nI_lt hp (by omega)⟩, z⟩⟩
        by_cases ho : isAt (xwd X p) (xhg X p) ax ay
        · obtain ⟨a, b, ha, hb, ea, eb⟩ := isAt_of w2 g2 ho
          have hab := at_lt ha hb
          have hid : idx (xwd X p) ax ay = b * xwd X p + a := by
            show ay.toNatClampNeg * _ + ax.toNatClampNeg = _
            rw [ea, eb, nI_clamp (by omega), nI_clamp (by omega)]
          obtain ⟨m, hm, hm1, hm2⟩ := hR4 _ hab
          rw [at_mod ha, at_div ha] at hm1
          have hri := rd_iff hm (show rd ≤ 100 by omega)
          rw [← hm2] at hri
          rw [hid] at hj210
          have hix2 : (8 : Int32) * ay + ax = nI (8 * b + a) := by rw [ea, eb]; exact hix a b
          refine V_iload C dX5_fill_131 rfl ?_
          refine V_bipush (v := 9) C dX5_fill_133 (by decide) ?_
          refine V_icmp_ge (tgt := 261) C dX5_fill_135 (by decide) (fun z9 => absurd z9 (nI_ge (b := 9) hj (by decide))) (fun _ => ?_)
          refine V_iload C dX5_fill_138 rfl ?_
          refine V_iload C dX5_fill_140 rfl ?_
          refine V_iconst (v := 3) C dX5_fill_142 (by decide) ?_
          refine V_irem C dX5_fill_143 (by decide) ?_
          rw [hj3]
          refine V_iadd C dX5_fill_144 ?_
          refine V_iconst (v := 1) C dX5_fill_145 (by decide) ?_
          refine V_isub C dX5_fill_146 ?_
          rw [nI_add, ← hax]
          refine V_istore11 C dX5_fill_147 (by decide) ?_
          refine V_iload C dX5_fill_149 rfl ?_
          refine V_iload C dX5_fill_151 rfl ?_
          refine V_iconst (v := 3) C dX5_fill_153 (by decide) ?_
          refine V_idiv C dX5_fill_154 (by decide) ?_
          rw [hd3]
          refine V_iadd C dX5_fill_155 ?_
          refine V_iconst (v := 1) C dX5_fill_156 (by decide) ?_
          refine V_isub C dX5_fill_157 ?_
          rw [nI_add, ← hay]
          refine V_istore12 C dX5_fill_158 (by decide) ?_
          refine V_aload_n (i := 0) C dX5_fill_160 rfl rfl ?_
          refine V_iload_n (i := 1) C dX5_fill_161 rfl rfl ?_
          refine V_iload C dX5_fill_162 rfl ?_
          refine V_iload C dX5_fill_164 rfl ?_
          refine V_callV (n := 3) C (hisc) dX5_fill_166 gX5_fill_X5_isCell rfl (by first | assumption | exact hset_s _ _ _) rfl (by decide +kernel) rfl rfl (by exact Nat.le_of_ble_eq_true rfl) ⟨Nat.le_of_ble_eq_true rfl, Nat.le_of_ble_eq_true rfl⟩ ⟨Nat.le_of_ble_eq_true rfl, Nat.le_of_ble_eq_true rfl⟩ (fun v9 h9 hr9 => ?_)
          rw [if_pos (hcn.mpr ho)] at hr9
          obtain ⟨rfl, z9⟩ := hr9
          have z9 := z9.symm
          subst z9
          refine V_if_eq (tgt := 209) C dX5_fill_169 (by decide) (fun z9 => absurd z9 (by decide)) (fun _ => ?_)
          refine V_aload_n (i := 0) C dX5_fill_172 rfl rfl ?_
          refine V_get (ci := 5) (CN := RX5) (T := TX5) (N := 26) C dX5_fill_173 (by first | assumption | exact hset_s _ _ _) rfl 19 (by decide) flX5_fill_57 wiX5_fill_X5 (by rfl) ?_
          refine V_bipush (v := 8) C dX5_fill_176 (by decide) ?_
          refine V_iload C dX5_fill_178 rfl ?_
          refine V_imul C dX5_fill_180 ?_
          refine V_iload C dX5_fill_181 rfl ?_
          refine V_iadd C dX5_fill_183 ?_
          refine V_ialdK C dX5_fill_184 (by first | assumption | exact hset_s _ _ _) hix2 (by omega) (by decide) hm1 ?_
          refine V_if_le (tgt := 209) C dX5_fill_185 (by decide) (fun c185 => ?_) (fun c185 => ?_)
          · have c185 := Int32.not_lt.mpr c185
            have e9 : ¬ (isAt (xwd X p) (xhg X p) ax ay ∧ 0 ≤ crd (S.1 (b * xwd X p + a)) ∧ crd (S.1 (b * xwd X p + a)) < nI rd) := fun z => c185 (hri.mp z.2).1
            refine V_iconst (v := 0) C dX5_fill_209 (by decide) ?_
            exact hj210 _ _ _ ⟨rfl, rfl, by first | exact Or.inl ⟨e9, rfl⟩ | exact Or.inr ⟨e9, rfl⟩⟩
          · have c185 := Int32.not_le.mp c185
            refine V_aload_n (i := 0) C dX5_fill_188 rfl rfl ?_
            refine V_get (ci := 5) (CN := RX5) (T := TX5) (N := 26) C dX5_fill_189 (by first | assumption | exact hset_s _ _ _) rfl 19 (by decide) flX5_fill_57 wiX5_fill_X5 (by rfl) ?_
            refine V_bipush (v := 8) C dX5_fill_192 (by decide) ?_
            refine V_iload C dX5_fill_194 rfl ?_
            refine V_imul C dX5_fill_196 ?_
            refine V_iload C dX5_fill_197 rfl ?_
            refine V_iadd C dX5_fill_199 ?_
            refine V_ialdK C dX5_fill_200 (by first | assumption | exact hset_s _ _ _) hix2 (by omega) (by decide) hm1 ?_
            refine V_iload_n (i := 3) C dX5_fill_201 rfl rfl ?_
            refine V_icmp_ge (tgt := 209) C dX5_fill_202 (by decide) (fun c202 => ?_) (fun c202 => ?_)
            · have c202 := Int32.not_lt.mpr c202
              have e9 : ¬ (isAt (xwd X p) (xhg X p) ax ay ∧ 0 ≤ crd (S.1 (b * xwd X p + a)) ∧ crd (S.1 (b * xwd X p + a)) < nI rd) := fun z => c202 (hri.mp z.2).2
              refine V_iconst (v := 0) C dX5_fill_209 (by decide) ?_
              exact hj210 _ _ _ ⟨rfl, rfl, by first | exact Or.inl ⟨e9, rfl⟩ | exact Or.inr ⟨e9, rfl⟩⟩
            · have c202 := Int32.not_le.mp c202
              have e9 : isAt (xwd X p) (xhg X p) ax ay ∧ 0 ≤ crd (S.1 (b * xwd X p + a)) ∧ crd (S.1 (b * xwd X p + a)) < nI rd := ⟨ho, hri.mpr ⟨c185, c202⟩⟩
              refine V_iconst (v := 1) C dX5_fill_205 (by decide) ?_
              refine V_goto (tgt := 210) C dX5_fill_206 (by decide) ?_
              exact hj210 _ _ _ ⟨rfl, rfl, by first | exact Or.inl ⟨e9, rfl⟩ | exact Or.inr ⟨e9, rfl⟩⟩
        · refine V_iload C dX5_fill_131 rfl ?_
          refine V_bipush (v := 9) C dX5_fill_133 (by decide) ?_
          refine V_icmp_ge (tgt := 261) C dX5_fill_135 (by decide) (fun z9 => absurd z9 (nI_ge (b := 9) hj (by decide))) (fun _ => ?_)
          refine V_iload C dX5_fill_138 rfl ?_
          refine V_iload C dX5_fill_140 rfl ?_
          refine V_iconst (v := 3) C dX5_fill_142 (by decide) ?_
          refine V_irem C dX5_fill_143 (by decide) ?_
          rw [hj3]
          refine V_iadd C dX5_fill_144 ?_
          refine V_iconst (v := 1) C dX5_fill_145 (by decide) ?_
          refine V_isub C dX5_fill_146 ?_
          rw [nI_add, ← hax]
          refine V_istore11 C dX5_fill_147 (by decide) ?_
          refine V_iload C dX5_fill_149 rfl ?_
          refine V_iload C dX5_fill_151 rfl ?_
          refine V_iconst (v := 3) C dX5_fill_153 (by decide) ?_
          refine V_idiv C dX5_fill_154 (by decide) ?_
          rw [hd3]
          refine V_iadd C dX5_fill_155 ?_
          refine V_iconst (v := 1) C dX5_fill_156 (by decide) ?_
          refine V_isub C dX5_fill_157 ?_
          rw [nI_add, ← hay]
          refine V_istore12 C dX5_fill_158 (by decide) ?_
          refine V_aload_n (i := 0) C dX5_fill_160 rfl rfl ?_
          refine V_iload_n (i := 1) C dX5_fill_161 rfl rfl ?_
          refine V_iload C dX5_fill_162 rfl ?_
          refine V_iload C dX5_fill_164 rfl ?_
          refine V_callV (n := 3) C (hisc) dX5_fill_166 gX5_fill_X5_isCell rfl (by first | assumption | exact hset_s _ _ _) rfl (by decide +kernel) rfl rfl (by exact Nat.le_of_ble_eq_true rfl) ⟨Nat.le_of_ble_eq_true rfl, Nat.le_of_ble_eq_true rfl⟩ ⟨Nat.le_of_ble_eq_true rfl, Nat.le_of_ble_eq_true rfl⟩ (fun v9 h9 hr9 => ?_)
          rw [if_neg (fun z => ho (hcn.mp z))] at hr9
          obtain ⟨rfl, z9⟩ := hr9
          have z9 := z9.symm
          subst z9
          refine V_if_eq (tgt := 209) C dX5_fill_169 (by decide) (fun _ => ?_) (fun z9 => absurd rfl z9)
          refine V_iconst (v := 0) C dX5_fill_209 (by decide) ?_
          exact hj210 _ _ _ ⟨rfl, rfl, Or.inr ⟨fun z => ho z.1, rfl⟩⟩
    · rintro h6 ls6 ⟨z9, rfl⟩
      have z9 := z9.symm
      subst z9
      obtain ⟨s1, s2⟩ := hT 9 (Nat.le_refl _)
      obtain ⟨sm, hsm⟩ : ∃ sm, sm = fcT (xwd X p) (xhg X p) S.1 px py (nI rd) 9 := ⟨_, rfl⟩
      rw [← hsm] at hfc s1 s2
      rw [← hsm]
      obtain ⟨m, hm, hm1, hm2⟩ := hR4 i hi2
      rw [← hpx, ← hpy] at hm1
      have hng := rd_neg hm
      rw [← hm2] at hng
      refine V_join 322 (fun h8 ls8 st8 => (∃ I8, MR cA A I8 F (mnn X 0) h8 ∧ PR (xpl X p (xlo X) S5.1) I8 F ∧ rR (xwd X p) (xwd X p * xhg X p) S5.1 (I8 19)) ∧ mfr h0 h8 ∧ ls8 = [some (.ref (A 0)), some (.int (nI p)), some (.int (nI (c + S5.2))), some (.int (nI (rd + 1))), some (.int (gB S5.2)), some (.int (nI i)), none, none, none, none, none, none, none, none] ∧ st8 = []) ?_ (fun hj322 => ?_)
      · rintro h8 ls8 st8 ⟨hb8, f8, rfl, rfl⟩
        refine V_iinc5 (v := nI (i + 1)) C dX5_fill_322 (nI_1 _) (by decide) ?_
        refine V_goto (tgt := 82) C dX5_fill_325 (by decide) ?_
        exact V_wk (by simp [lle]) (ih _ _ ⟨hb8, f8, rfl⟩)
      · have hno : S5 = S → V p9 l e9 (rmk 3 0 0) s9 m9 args9 below9 meth9 c9 D bs 14 h4 0 0 Q 322 [some (.ref (A 0)), some (.int (nI p)), some (.int (nI (c + S.2))), some (.int (nI (rd + 1))), some (.int (gB S.2)), some (.int (nI i)), some (.int (nI px)), some (.int (nI py)), some (.float sm.1), some (.int (nI sm.2)), some (.int (nI 9)), none, none, none] [] := fun hS9 => by
          rw [hS9] at hj322
          exact V_wk (ls2 := [some (.ref (A 0)), some (.int (nI p)), some (.int (nI (c + S.2))), some (.int (nI (rd + 1))), some (.int (gB S.2)), some (.int (nI i)), none, none, none, none, none, none, none, none]) (by simp [lle]) (hj322 _ _ _ ⟨⟨I4, r4, hP4, hR4⟩, f4, rfl, rfl⟩)
        have hcl := cx_lt (p := p) w1 w2 g2 (by omega) hi2
        obtain ⟨q1, q2, q3, q4, q5, q6⟩ := hcel i hi
        refine V_iload C dX5_fill_131 rfl ?_
        refine V_bipush (v := 9) C dX5_fill_133 (by decide) ?_
        refine V_icmp_ge (tgt := 261) C dX5_fill_135 (by decide) (fun _ => ?_) (fun z9 => absurd (by decide) z9)
        refine V_aload_n (i := 0) C dX5_fill_261 rfl rfl ?_
        refine V_get (ci := 5) (CN := RX5) (T := TX5) (N := 26) C dX5_fill_262 (by first | assumption | exact hset_s _ _ _) rfl 19 (by decide) flX5_fill_57 wiX5_fill_X5 (by rfl) ?_
        refine V_bipush (v := 8) C dX5_fill_265 (by decide) ?_
        refine V_iload C dX5_fill_267 rfl ?_
        refine V_imul C dX5_fill_269 ?_
        refine V_iload C dX5_fill_270 rfl ?_
        refine V_iadd C dX5_fill_272 ?_
        refine V_ialdK C dX5_fill_273 (by first | assumption | exact hset_s _ _ _) (hix _ _) (by omega) (by decide) hm1 ?_
        refine V_if_ne (tgt := 322) C dX5_fill_274 (by decide) (fun c274 => ?_) (fun c274 => ?_)
        · have c274 : ¬ crd (S.1 i) < 0 := fun z => c274 (hng.mp z)
          have e9 : S5 = S := by rw [hst, if_neg c274]
          first
            | exact hno e9
            | exact V_wk (ls2 := [some (.ref (A 0)), some (.int (nI p)), some (.int (nI (c + S5.2))), some (.int (nI (rd + 1))), some (.int (gB S5.2)), some (.int (nI i)), none, none, none, none, none, none, none, none]) (by rw [h5n, h5g]; simp [lle]) (hj322 _ _ _ ⟨⟨_, r6, hP6, hR6⟩, f6, rfl, rfl⟩)
        · have c274 : crd (S.1 i) < 0 := hng.mpr (by first | exact c274 | exact Classical.not_not.mp c274)
          rw [if_pos c274] at hst
          refine V_iload C dX5_fill_277 rfl ?_
          refine V_if_le (tgt := 322) C dX5_fill_279 (by decide) (fun c279 => ?_) (fun c279 => ?_)
          · have c279 : sm.2 = 0 := by rcases Nat.eq_zero_or_pos sm.2 with z | z; exact z; exact absurd c279 (Int32.not_le.mpr (nI_lt (a := 0) z (by omega)))
            have e9 : S5 = S := by rw [hst, hfc, if_pos c279]; rfl
            first
              | exact hno e9
              | exact V_wk (ls2 := [some (.ref (A 0)), some (.int (nI p)), some (.int (nI (c + S5.2))), some (.int (nI (rd + 1))), some (.int (gB S5.2)), some (.int (nI i)), none, none, none, none, none, none, none, none]) (by rw [h5n, h5g]; simp [lle]) (hj322 _ _ _ ⟨⟨_, r6, hP6, hR6⟩, f6, rfl, rfl⟩)
          · have c279 : ¬ sm.2 = 0 := fun z => c279 (by rw [z]; exact Int32.le_refl _)
            rw [hfc, if_neg c279] at hst
            have hst : S5 = (fset S.1 i (cdR (cdW (S.1 i) (FP.f2i (FP.fdiv sm.1 (FP.i2f (nI sm.2))))) (nI rd)), S.2 + 1) := hst
            have n1 := fb_n32 (fp_div s1 (by omega) s2).1
            refine V_aload_n (i := 0) C dX5_fill_282 rfl rfl ?_
            refine V_get (ci := 5) (CN := RX5) (T := TX5) (N := 26) C dX5_fill_283 (by first | assumption | exact hset_s _ _ _) rfl 12 (by decide) flX5_fill_36 wiX5_fill_X5 (by rfl) ?_
            refine V_iload_n (i := 1) C dX5_fill_286 rfl rfl ?_
            refine V_iload C dX5_fill_287 rfl ?_
            refine V_iload C dX5_fill_289 rfl ?_
            refine V_callS (n := 3) C (r_cellOf) dX5_fill_291 gX5_fill_X5_cellOf rfl (by decide +kernel) rfl rfl (by exact Nat.le_of_ble_eq_true rfl) ⟨Nat.le_of_ble_eq_true rfl, Nat.le_of_ble_eq_true rfl⟩ ⟨Nat.le_of_ble_eq_true rfl, Nat.le_of_ble_eq_true rfl⟩ (fun v9 h9 hr9 => ?_)
            obtain ⟨rfl, z9⟩ := hr9
            have z9 := z9.symm
            subst z9
            rw [show 64 * p + 8 * py + px = cx (xwd X p) p i by rw [hpx, hpy]; rfl]
            refine V_fload C dX5_fill_294 rfl ?_
            refine V_iload C dX5_fill_296 rfl ?_
            refine V_i2f C dX5_fill_298 ?_
            refine V_fdiv C dX5_fill_299 (by assumption) ?_
            refine V_f2i C dX5_fill_300 ?_
            refine V_iastK C dX5_fill_301 (by first | assumption | exact hset_s _ _ _) rfl hcl (by decide) ?_
            have r5 := r4.s12 (fset (I4 12) (cx (xwd X p) p i) (FP.f2i (FP.fdiv sm.1 (FP.i2f (nI sm.2)))))
            have f5 := f4.tr (r4.f12 (iarr (cA 0) 320 (fset (I4 12) (cx (xwd X p) p i) (FP.f2i (FP.fdiv sm.1 (FP.i2f (nI sm.2)))))))
            have m0 := r5.m0
            have m19 := r5.m19
            refine V_aload_n (i := 0) C dX5_fill_302 rfl rfl ?_
            refine V_get (ci := 5) (CN := RX5) (T := TX5) (N := 26) C dX5_fill_303 (by first | assumption | exact hset_s _ _ _) rfl 19 (by decide) flX5_fill_57 wiX5_fill_X5 (by rfl) ?_
            refine V_bipush (v := 8) C dX5_fill_306 (by decide) ?_
            refine V_iload C dX5_fill_308 rfl ?_
            refine V_imul C dX5_fill_310 ?_
            refine V_iload C dX5_fill_311 rfl ?_
            refine V_iadd C dX5_fill_313 ?_
            refine V_iload_n (i := 3) C dX5_fill_314 rfl rfl ?_
            refine V_iastK C dX5_fill_315 (by first | assumption | exact hset_s _ _ _) (hix _ _) (by omega) (by decide) ?_
            have r6 := r5.s19 (fset (I4 19) (8 * py + px) (nI (rd + 1)))
            have f6 := f5.tr (r5.f19 (iarr (cA 0) 64 (fset (I4 19) (8 * py + px) (nI (rd + 1)))))
            have hP6 : PR (xpl X p (xlo X) S5.1) (fset (fset I4 12 (fset (I4 12) (cx (xwd X p) p i) (FP.f2i (FP.fdiv sm.1 (FP.i2f (nI sm.2)))))) 19 (fset (I4 19) (8 * py + px) (nI (rd + 1)))) F := by
              rw [hst]
              exact hP4.upd hd hp hi hP4.1 hP4.2.1 ⟨rfl, rfl, rfl, rfl, rfl, rfl, rfl, rfl⟩ ⟨fset_s _ _ _, q2, q3, q4, q5, q6⟩ (fun c hc => ⟨fset_n hc, rfl, rfl, rfl, rfl, rfl⟩)
            have hR6 : rR (xwd X p) (xwd X p * xhg X p) S5.1 (fset (I4 19) (8 * py + px) (nI (rd + 1))) := by
              rw [hst, hpx, hpy]
              exact rR_set w1 w2 hR4 hi2 (by omega) rfl
            have h5n : nI (c + S5.2) = nI (c + S.2 + 1) := by rw [hst]; rfl
            have h5g : gB S5.2 = 1 := by rw [hst]; exact if_neg (Nat.succ_ne_zero _)
            refine V_iinc2 (v := nI (c + S.2 + 1)) C dX5_fill_316 (nI_1 _) (by decide) ?_
            refine V_iconst (v := 1) C dX5_fill_319 (by decide) ?_
            refine V_istore4 C dX5_fill_320 (by decide) ?_
            first
              | exact hno e9
              | exact V_wk (ls2 := [some (.ref (A 0)), some (.int (nI p)), some (.int (nI (c + S5.2))), some (.int (nI (rd + 1))), some (.int (gB S5.2)), some (.int (nI i)), none, none, none, none, none, none, none, none]) (by rw [h5n, h5g]; simp [lle]) (hj322 _ _ _ ⟨⟨_, r6, hP6, hR6⟩, f6, rfl, rfl⟩)
  · rintro h4 ls4 ⟨⟨I4, r4, hP4, hR4⟩, f4, rfl⟩
    have m0 := r4.m0
    have m10 := r4.m10
    have m11 := r4.m11
    obtain ⟨p1, p2⟩ : I4 10 p = nI (xwd X p) ∧ I4 11 p = nI (xhg X p) := hP4.2.2.1 p hp
    refine V_iload C dX5_fill_82 rfl ?_
    refine V_aload_n (i := 0) C dX5_fill_84 rfl rfl ?_
    refine V_get (ci := 5) (CN := RX5) (T := TX5) (N := 26) C dX5_fill_85 (by first | assumption | exact hset_s _ _ _) rfl 10 (by decide) flX5_fill_30 wiX5_fill_X5 (by rfl) ?_
    refine V_iload_n (i := 1) C dX5_fill_88 rfl rfl ?_
    refine V_ialdK C dX5_fill_89 (by first | assumption | exact hset_s _ _ _) rfl (by omega) (by decide) p1 ?_
    refine V_aload_n (i := 0) C dX5_fill_90 rfl rfl ?_
    refine V_get (ci := 5) (CN := RX5) (T := TX5) (N := 26) C dX5_fill_91 (by first | assumption | exact hset_s _ _ _) rfl 11 (by decide) flX5_fill_33 wiX5_fill_X5 (by rfl) ?_
    refine V_iload_n (i := 1) C dX5_fill_94 rfl rfl ?_
    refine V_ialdK C dX5_fill_95 (by first | assumption | exact hset_s _ _ _) rfl (by omega) (by decide) p2 ?_
    refine V_imul C dX5_fill_96 ?_
    rw [pk_mul]
    refine V_icmp_ge (tgt := 328) C dX5_fill_97 (by decide) (fun _ => ?_) (fun z9 => absurd (nI_le (Nat.le_refl _) (by omega)) z9)
    refine V_goto (tgt := 68) C dX5_fill_328 (by decide) ?_
    exact V_wk (by simp [lle]) (k _ I4 r4 hP4 hR4 f4)
end RPUB12
