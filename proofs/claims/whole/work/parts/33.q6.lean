/-! the reference's calls: pass, edge -/
theorem lfS_ge {c : Nat} {u : Int32} (f : Nat) (X : XS) (d : Nat) : d ≤ (lfS c u f X d).2 := by
  induction f generalizing X d with
  | zero => exact Nat.le_refl _
  | succ f ih =>
    unfold lfS
    split
    · exact Nat.le_refl _
    · exact Nat.le_trans (Nat.le_succ _) (ih _ _)
theorem rI_rI (X : XS) (c : Nat) (e f : Int32) : rI (rI X c e) c f = rI X c f := by
  unfold rI
  have h1 : xcr (setR X c (rrt (xcr X c), rdy (xcr X c), rpc (xcr X c), rmt (xcr X c), rtr (xcr X c), e)) c = (rrt (xcr X c), rdy (xcr X c), rpc (xcr X c), rmt (xcr X c), rtr (xcr X c), e) := fset_s _ _ _
  rw [h1]
  show (X.1, xlo X, xwd X, xhg X, xg X, fset (fset (xcr X) c _) c _) = (X.1, xlo X, xwd X, xhg X, xg X, fset (xcr X) c _)
  rw [fset_fset]
theorem rI_id (X : XS) (c : Nat) : rI X c (rld (xcr X c)) = X := by
  show (X.1, xlo X, xwd X, xhg X, xg X, fset (xcr X) c (xcr X c)) = X
  rw [fset_id rfl]
theorem rI_c (X : XS) (c : Nat) (e : Int32) : xcr (rI X c e) c = (rrt (xcr X c), rdy (xcr X c), rpc (xcr X c), rmt (xcr X c), rtr (xcr X c), e) := fset_s _ _ _
theorem rI_ly (X : XS) (c : Nat) (e u : Int32) : lyO (rI X c e) c u = lyO X c u := by
  unfold lyO
  rw [rI_c]
  rfl
def lzS (c : Nat) (u : Int32) : Nat → XS → Nat → XS × Nat
  | 0, X, d => (X, d)
  | f + 1, X, d => match lyO X c u with
    | none => (X, d)
    | some q => lzS c u f (rI (lyX X q.1 q.2.1 q.2.2 u (u + rdy (xcr X c))) c (rld (xcr X c) + 1)) (d + 1)
theorem lz_lf {c : Nat} {u : Int32} (f : Nat) : ∀ (X : XS) (e : Int32) (d : Nat), lzS c u f (rI X c e) d = (rI (lfS c u f X d).1 c (e + nI ((lfS c u f X d).2 - d)), (lfS c u f X d).2) := by
  induction f with
  | zero =>
    intro X e d
    show (rI X c e, d) = (rI X c (e + nI (d - d)), d)
    rw [Nat.sub_self, nI_0, Int32.add_zero]
  | succ f ih =>
    intro X e d
    unfold lzS lfS
    rw [rI_ly]
    cases hq : lyO X c u with
    | none =>
      show (rI X c e, d) = (rI X c (e + nI (d - d)), d)
      rw [Nat.sub_self, nI_0, Int32.add_zero]
    | some q =>
      dsimp only
      have h1 : rI (lyX (rI X c e) q.1 q.2.1 q.2.2 u (u + rdy (xcr (rI X c e) c))) c (rld (xcr (rI X c e) c) + 1) = rI (lyX X q.1 q.2.1 q.2.2 u (u + rdy (xcr X c))) c (e + 1) := by
        rw [rI_c]
        exact rI_rI (lyX X q.1 q.2.1 q.2.2 u (u + rdy (xcr X c))) c e (e + 1)
      rw [h1, ih]
      have h2 := lfS_ge (c := c) (u := u) f (lyX X q.1 q.2.1 q.2.2 u (u + rdy (xcr X c))) (d + 1)
      have h3 : e + 1 + nI ((lfS c u f (lyX X q.1 q.2.1 q.2.2 u (u + rdy (xcr X c))) (d + 1)).2 - (d + 1)) = e + nI ((lfS c u f (lyX X q.1 q.2.1 q.2.2 u (u + rdy (xcr X c))) (d + 1)).2 - d) := by
        obtain ⟨m, hm⟩ : ∃ m, (lfS c u f (lyX X q.1 q.2.1 q.2.2 u (u + rdy (xcr X c))) (d + 1)).2 - d = m + 1 := ⟨(lfS c u f (lyX X q.1 q.2.1 q.2.2 u (u + rdy (xcr X c))) (d + 1)).2 - (d + 1), by omega⟩
        rw [hm, show (lfS c u f (lyX X q.1 q.2.1 q.2.2 u (u + rdy (xcr X c))) (d + 1)).2 - (d + 1) = m by omega, ← nI_1, Int32.add_assoc, Int32.add_comm 1]
      rw [h3]
theorem lz_cr {c : Nat} {u : Int32} {S : XS × Nat} {f : Nat} (hI : LI S.1) (hc : c < 3) (hf : rrt (xcr S.1 c) = nI f) (hf9 : f ≤ 9) : (lzS c u f S.1 0).1 = (crS u S c).1 ∧ S.2 + (lzS c u f S.1 0).2 = (crS u S c).2 := by
  have eN : tN (rrt (xcr S.1 c)) = f := by rw [hf]; exact tN_nI (by omega)
  have h1 := lz_lf (c := c) (u := u) f S.1 (rld (xcr S.1 c)) 0
  rw [rI_id, Nat.sub_zero] at h1
  rw [h1]
  unfold crS
  rw [eN]
  refine ⟨?_, rfl⟩
  have h2 := (lfS_inv (u := u) hc f S.1 0 hI).2.1
  show rI (lfS c u f S.1 0).1 c _ = wcr (lfS c u f S.1 0).1 _
  unfold rI setR
  rw [h2]
section RPUB6
variable {l : Launch} {D : va_G} {cA : Nat → ClassId} {bs : Nat} {A : Nat → Nat} {I : MI} {F : MF} {h : hE} {X : XS} {th : Int32} {M : Nat}
def HT (X : XS) : Prop := ∀ c, c < 3 → ∀ b, b ∈ rtr (xcr X c) → b < xnl X
theorem CI.rI (h : CI M X) {c : Nat} (hc : c < 3) (e : Int32) : CI M (rI X c e) := h.crewU (fun p hp => h.1.2.2 c hc p hp) (h.2.2.2.1 c hc)
theorem HT.rI (h : HT X) (c : Nat) (e : Int32) : HT (rI X c e) := fun c2 hc2 b hb => by
  have hb : b ∈ rtr (fset (xcr X) c (rrt (xcr X c), rdy (xcr X c), rpc (xcr X c), rmt (xcr X c), rtr (xcr X c), e) c2) := hb
  by_cases hcc : c2 = c
  · subst hcc
    rw [fset_s] at hb
    exact h c2 hc2 b hb
  · rw [fset_n hcc] at hb
    exact h c2 hc2 b hb
/-- all that a crew's hour keeps -/
def KP (M : Nat) (X : XS) : Prop := CI M X ∧ HT X
theorem lzS_kp {c : Nat} (hc : c < 3) (hM : M < 2 ^ 30) (f : Nat) : ∀ (X : XS) (d : Nat), KP M X → KP M (lzS c (xnw X) f X d).1 ∧ (lzS c (xnw X) f X d).1.1 = X.1 := by
  induction f with
  | zero => intro X d h; exact ⟨h, rfl⟩
  | succ f ih =>
    intro X d h
    unfold lzS
    split
    · exact ⟨h, rfl⟩
    · rename_i q hq
      have h1 : KP M (rI (lyX X q.1 q.2.1 q.2.2 (xnw X) (xnw X + rdy (xcr X c))) c (rld (xcr X c) + 1)) := ⟨(i_lay h.1 hM hc (show lyO X c (xnw X) = some (q.1, q.2.1, q.2.2) from hq)).rI hc _, HT.rI (X := lyX X q.1 q.2.1 q.2.2 (xnw X) (xnw X + rdy (xcr X c))) h.2 c _⟩
      exact ih _ (d + 1) h1
theorem crS_kp {c : Nat} {S : XS × Nat} (hc : c < 3) (hM : M < 2 ^ 30) (h : KP M S.1) : KP M (crS (xnw S.1) S c).1 ∧ (crS (xnw S.1) S c).1.1 = S.1.1 := by
  obtain ⟨f, hf9, hf⟩ := h.1.2.2.2.1 c hc
  have h1 := lzS_kp hc hM f S.1 0 h
  rw [(lz_cr (u := xnw S.1) h.1.1 hc hf hf9).1] at h1
  exact h1
theorem crN_kp {S : XS × Nat} (hM : M < 2 ^ 30) (h : KP M S.1) : ∀ c, c ≤ 3 → KP M (crN (xnw S.1) S c).1 ∧ (crN (xnw S.1) S c).1.1 = S.1.1 := by
  intro c
  induction c with
  | zero => intro _; exact ⟨h, rfl⟩
  | succ c ih =>
    intro hc
    obtain ⟨h1, h2⟩ := ih (by omega)
    have hn : xnw (crN (xnw S.1) S c).1 = xnw S.1 := congrArg (fun a => a.2.2) h2
    have h3 := crS_kp (c := c) (S := crN (xnw S.1) S c) (by omega) hM h1
    rw [hn] at h3
    exact ⟨h3.1, h3.2.trans h2⟩
theorem hrS_kp {S : XS × Nat} {m : Nat} (hM : M < 2 ^ 30) (h : KP M S.1) (hm : xnw S.1 = nI m) (hmM : m + 1 ≤ M) : KP M (hrS S).1 ∧ xnw (hrS S).1 = nI (m + 1) := by
  have h1 : KP M (wnw S.1 (xnw S.1 + 1)) := ⟨⟨h.1.1, h.1.2.1, h.1.2.2.1, h.1.2.2.2.1, m + 1, hmM, by show xnw S.1 + 1 = _; rw [hm, nI_1]⟩, h.2⟩
  obtain ⟨h2, h3⟩ := crN_kp (S := (wnw S.1 (xnw S.1 + 1), S.2)) hM h1 3 (by decide)
  refine ⟨h2, (congrArg (fun a => a.2.2) h3).trans ?_⟩
  show xnw S.1 + 1 = _
  rw [hm, nI_1]
theorem psN_kp {m n : Nat} (hM : M < 2 ^ 30) (h : KP M X) (hm : xnw X = nI m) : ∀ i, m + i ≤ M → KP M (psN X i).1 ∧ xnw (psN X i).1 = nI (m + i) := by
  intro i
  induction i with
  | zero => intro _; exact ⟨h, hm⟩
  | succ i ih =>
    intro hi
    obtain ⟨h1, h2⟩ := ih (by omega)
    exact hrS_kp hM h1 h2 (by omega)
theorem i_pass (h : CI M X) (ht : HT X) (hM : M + 100 < 2 ^ 30) {a : Int32} : KP (M + 100) (sp_pass X a).2.2 := by
  unfold sp_pass
  split
  · rename_i ok
    obtain ⟨n, n1, n2, -, en⟩ := okR_of1 (b := 100) (by decide) ok
    obtain ⟨m, hm, hnw⟩ := h.2.2.2.2
    rw [en]
    exact (psN_kp (n := n) hM ⟨h.mono (by omega), ht⟩ hnw n (by omega)).1
  · exact ⟨h.mono (by omega), ht⟩
set_option maxHeartbeats 4000000 in
set_option maxRecDepth 100000 in
theorem q_pass (r : MR cA A I F (mnn X th) h) (hI : CI M X) (ht : HT X) (hM : M + 100 < 2 ^ 30) (hP : PR X I F) {a : Int32} : Mt l D cA bs yX5_pass wsX5_pass (rmk 4 0 0) [.ref (A 0), .int a] h (Rst cA A kIA kIA (sp_pass X a) h) := by
  have m0 := r.m0
  obtain ⟨mm, hmm, hnw⟩ := hI.2.2.2.2
  by_cases ha : okR a 1 100
  · obtain ⟨n, n1, n2, rfl, en⟩ := okR_of1 (b := 100) (by decide) ha
    have hsp : sp_pass X (nI n) = (none, nI (psN X n).2, (psN X n).1) := by unfold sp_pass; rw [if_pos ha, en]
    rw [hsp]
    refine Mt_of (cc := cX5_pass) (maxL := 6) (ret := (some .int)) (own := RX5) [some (.ref (A 0)), some (.int (nI n)), none, none, none, none] rfl (by decide +kernel) rfl rfl (by exact Nat.le_of_ble_eq_true rfl) rfl ?_
    intro p9 e9 s9 m9 args9 below9 meth9 c9 C hr hnm
    refine V_aload_n (i := 0) C dX5_pass_0 rfl rfl ?_
    refine V_iload_n (i := 1) C dX5_pass_1 rfl rfl ?_
    refine V_iconst (v := 1) C dX5_pass_2 (by decide) ?_
    refine V_bipush (v := 100) C dX5_pass_3 (by decide) ?_
    refine V_callS (n := 3) C (r_in) dX5_pass_5 gX5_pass_X5_in rfl (by decide +kernel) rfl rfl (by exact Nat.le_of_ble_eq_true rfl) ⟨Nat.le_of_ble_eq_true rfl, Nat.le_of_ble_eq_true rfl⟩ ⟨Nat.le_of_ble_eq_true rfl, Nat.le_of_ble_eq_true rfl⟩ (fun v9 h9 hr9 => ?_)
    rw [if_pos ha] at hr9
    obtain ⟨rfl, z9⟩ := hr9
    have z9 := z9.symm
    subst z9
    refine V_callV (n := 1) C (r_asked1 (P := True) r rfl) dX5_pass_8 gX5_pass_X5_asked rfl (by first | assumption | exact hset_s _ _ _) rfl (by decide +kernel) rfl rfl (by exact Nat.le_of_ble_eq_true rfl) ⟨Nat.le_of_ble_eq_true rfl, Nat.le_of_ble_eq_true rfl⟩ ⟨Nat.le_of_ble_eq_true rfl, Nat.le_of_ble_eq_true rfl⟩ (fun v9 h9 hr9 => ?_)
    obtain ⟨rfl, r2, f2⟩ := hr9
    rw [if_pos trivial] at r2
    refine V_if_ne (tgt := 16) C dX5_pass_11 (by decide) (fun _ => ?_) (fun z9 => absurd z9 (by decide))
    refine V_iconst (v := 0) C dX5_pass_16 (by decide) ?_
    refine V_istore2 C dX5_pass_17 (by decide) ?_
    refine V_iconst (v := 0) C dX5_pass_18 (by decide) ?_
    refine V_istore3 C dX5_pass_19 (by decide) ?_
    refine V_for n (fun i h4 ls4 => MW cA A (psN X i).1 0 h4 ∧ mfr h h4 ∧ ls4 = [some (.ref (A 0)), some (.int (nI n)), some (.int (nI (psN X i).2)), some (.int (nI i)), none, none]) ?_ ?_ 0 (Nat.zero_le _) ⟨⟨I, F, r2, hP⟩, f2, rfl⟩
    · rintro i h4 ls4 hi ⟨⟨I4, F4, r4, hP4⟩, f4, rfl⟩ ih
      obtain ⟨kp4, nw4⟩ := psN_kp (M := M + 100) (n := n) hM ⟨hI.mono (by omega), ht⟩ hnw i (by omega)
      obtain ⟨S4, hS4⟩ : ∃ S4, S4 = psN X i := ⟨_, rfl⟩
      have hps : psN X (i + 1) = crN (xnw S4.1 + 1) (wnw S4.1 (xnw S4.1 + 1), S4.2) 3 := by rw [hS4]; rfl
      rw [hps] at ih
      rw [← hS4] at r4 hP4 kp4 nw4 ⊢
      have m0 := r4.m0
      have kp5 : KP (M + 100) (wnw S4.1 (xnw S4.1 + 1)) := ⟨⟨kp4.1.1, kp4.1.2.1, kp4.1.2.2.1, kp4.1.2.2.2.1, mm + i + 1, by omega, by show xnw S4.1 + 1 = _; rw [nw4, nI_1]⟩, kp4.2⟩
      refine V_iload_n (i := 3) C dX5_pass_20 rfl rfl ?_
      refine V_iload_n (i := 1) C dX5_pass_21 rfl rfl ?_
      refine V_icmp_ge (tgt := 91) C dX5_pass_22 (by decide) (fun z9 => absurd z9 (nI_ge hi (by omega))) (fun _ => ?_)
      refine V_aload_n (i := 0) C dX5_pass_25 rfl rfl ?_
      refine V_dup C dX5_pass_26 rfl ?_
      refine V_get (ci := 5) (CN := RX5) (T := TX5) (N := 26) C dX5_pass_27 (by first | assumption | exact hset_s _ _ _) rfl 1 (by decide) flX5_pass_150 wiX5_pass_X5 (by rfl) ?_
      refine V_iconst (v := 1) C dX5_pass_30 (by decide) ?_
      refine V_iadd C dX5_pass_31 ?_
      refine V_put (ci := 5) (CN := RX5) (T := TX5) (N := 26) (ty := (tyX5 1)) C dX5_pass_32 (by first | assumption | exact hset_s _ _ _) rfl tyX5 tyX5_ok nmX5 1 (by decide) flX5_pass_150 wiX5_pass_X5 rfl (tyX5_ok 1 (by decide)) (by rfl) (by rfl) (by exact Nat.le_of_ble_eq_true rfl) ?_
      have r5 := r4.setN (mnn (wnw S4.1 (xnw S4.1 + 1)) 0)
      have f5 := f4.tr (r4.f0 (modO A 0 (xnw S4.1 + 1) (nI (xnl S4.1)) (nI (xnp S4.1))))
      have hP5 : PR (wnw S4.1 (xnw S4.1 + 1)) I4 F4 := hP4
      refine V_iconst (v := 0) C dX5_pass_35 (by decide) ?_
      refine V_istore4 C dX5_pass_36 (by decide) ?_
      refine V_for 3 (fun c h6 ls6 => MW cA A (crN (xnw S4.1 + 1) (wnw S4.1 (xnw S4.1 + 1), S4.2) c).1 0 h6 ∧ mfr h h6 ∧ ls6 = [some (.ref (A 0)), some (.int (nI n)), some (.int (nI (crN (xnw S4.1 + 1) (wnw S4.1 (xnw S4.1 + 1), S4.2) c).2)), some (.int (nI i)), some (.int (nI c)), none]) ?_ ?_ 0 (by decide) ⟨⟨I4, F4, r5, hP5⟩, f5, rfl⟩
      · rintro c h6 ls6 hc ⟨⟨I6, F6, r6, hP6⟩, f6, rfl⟩ ih2
        obtain ⟨kp6, nw6⟩ := crN_kp (M := M + 100) (S := (wnw S4.1 (xnw S4.1 + 1), S4.2)) hM kp5 c (by omega)
        have nw6 : xnw (crN (xnw S4.1 + 1) (wnw S4.1 (xnw S4.1 + 1), S4.2) c).1 = xnw S4.1 + 1 := congrArg (fun a => a.2.2) nw6
        have kp6 : KP (M + 100) (crN (xnw S4.1 + 1) (wnw S4.1 (xnw S4.1 + 1), S4.2) c).1 := kp6
        obtain ⟨T, hT⟩ : ∃ T, T = crN (xnw S4.1 + 1) (wnw S4.1 (xnw S4.1 + 1), S4.2) c := ⟨_, rfl⟩
        have hst : crN (xnw S4.1 + 1) (wnw S4.1 (xnw S4.1 + 1), S4.2) (c + 1) = crS (xnw S4.1 + 1) T c := by rw [hT]; rfl
        rw [hst] at ih2
        rw [← hT] at r6 hP6 kp6 nw6 ⊢
        rw [← nw6] at ih2
        obtain ⟨f, hf9, hf⟩ := kp6.1.2.2.2.1 c hc
        obtain ⟨z1, z2⟩ := lz_cr (u := xnw T.1) (S := T) kp6.1.1 hc hf hf9
        rw [← z1, ← z2] at ih2
        refine V_join 74 (fun h8 ls8 st8 => MW cA A (lzS c (xnw T.1) f T.1 0).1 0 h8 ∧ mfr h h8 ∧ ls8 = [some (.ref (A 0)), some (.int (nI n)), some (.int (nI T.2)), some (.int (nI i)), some (.int (nI c)), some (.int (nI (lzS c (xnw T.1) f T.1 0).2))] ∧ st8 = []) ?_ (fun hj74 => ?_)
        · rintro h8 ls8 st8 ⟨mw8, f8, rfl, rfl⟩
          refine V_iload_n (i := 2) C dX5_pass_74 rfl rfl ?_
          refine V_iload C dX5_pass_75 rfl ?_
          refine V_iadd C dX5_pass_77 ?_
          rw [nI_add]
          refine V_istore2 C dX5_pass_78 (by decide) ?_
          refine V_iinc4 (v := nI (c + 1)) C dX5_pass_79 (nI_1 _) (by decide) ?_
          refine V_goto (tgt := 38) C dX5_pass_82 (by decide) ?_
          exact V_wk (by simp [lle]) (ih2 _ _ ⟨mw8, f8, rfl⟩)
        · refine V_iload C dX5_pass_38 rfl ?_
          refine V_iconst (v := 3) C dX5_pass_40 (by decide) ?_
          refine V_icmp_ge (tgt := 85) C dX5_pass_41 (by decide) (fun z9 => absurd z9 (nI_ge (b := 3) hc (by decide))) (fun _ => ?_)
          refine V_iconst (v := 0) C dX5_pass_44 (by decide) ?_
          refine V_istore5 C dX5_pass_45 (by decide) ?_
          refine V_rec (fun k h8 ls8 => ∃ (Y : XS) (d : Nat), k + d = f ∧ lzS c (xnw T.1) f T.1 0 = lzS c (xnw T.1) k Y d ∧ KP (M + 100) Y ∧ xnw Y = xnw T.1 ∧ rrt (xcr Y c) = nI f ∧ MW cA A Y 0 h8 ∧ mfr h h8 ∧ ls8 = [some (.ref (A 0)), some (.int (nI n)), some (.int (nI T.2)), some (.int (nI i)), some (.int (nI c)), some (.int (nI d))]) ?_ ?_ f ⟨T.1, 0, rfl, rfl, kp6, rfl, hf, ⟨I6, F6, r6, hP6⟩, f6, rfl⟩
          · rintro k h8 ls8 ⟨Y, d, hk, he, kpY, nwY, hfY, ⟨I8, F8, r8, hP8⟩, f8, rfl⟩ ih3
            have m0 := r8.m0
            have m21 := r8.m21
            have e21 := (hP8.2.2.2.2.2.2 c hc).2.1
            rw [hfY] at e21
            refine V_iload C dX5_pass_47 rfl ?_
            refine V_aload_n (i := 0) C dX5_pass_49 rfl rfl ?_
            refine V_get (ci := 5) (CN := RX5) (T := TX5) (N := 26) C dX5_pass_50 (by first | assumption | exact hset_s _ _ _) rfl 21 (by decide) flX5_pass_63 wiX5_pass_X5 (by rfl) ?_
            refine V_iload C dX5_pass_53 rfl ?_
            refine V_ialdK C dX5_pass_55 (by first | assumption | exact hset_s _ _ _) rfl hc (by decide) e21 ?_
            refine V_icmp_ge (tgt := 74) C dX5_pass_56 (by decide) (fun z9 => absurd z9 (nI_ge (by omega) (by omega))) (fun _ => ?_)
            refine V_aload_n (i := 0) C dX5_pass_59 rfl rfl ?_
            refine V_iload C dX5_pass_60 rfl ?_
            refine V_callV (n := 1) C (r_lays r8 kpY.1 hM hP8 kpY.2 hc) dX5_pass_62 gX5_pass_X5_lays rfl (by first | assumption | exact hset_s _ _ _) rfl (by decide +kernel) rfl rfl (by exact Nat.le_of_ble_eq_true rfl) ⟨Nat.le_of_ble_eq_true rfl, Nat.le_of_ble_eq_true rfl⟩ ⟨Nat.le_of_ble_eq_true rfl, Nat.le_of_ble_eq_true rfl⟩ (fun v9 h9 hr9 => ?_)
            rcases hr9 with ⟨hn, rfl, z9⟩ | ⟨q, hq, rfl, mw9, f9⟩
            · have z9 := z9.symm
              subst z9
              rw [nwY] at hn
              have e9 : lzS c (xnw T.1) f T.1 0 = (Y, d) := by rw [he]; unfold lzS; rw [hn]
              refine V_if_eq (tgt := 74) C dX5_pass_65 (by decide) (fun _ => ?_) (fun z9 => absurd rfl z9)
              exact hj74 _ _ _ ⟨by rw [e9]; exact ⟨I8, F8, r8, hP8⟩, f8, by rw [e9], rfl⟩
            · refine V_if_eq (tgt := 74) C dX5_pass_65 (by decide) (fun z9 => absurd z9 (by decide)) (fun _ => ?_)
              refine V_iinc5 (v := nI (d + 1)) C dX5_pass_68 (nI_1 _) (by decide) ?_
              refine V_goto (tgt := 47) C dX5_pass_71 (by decide) ?_
              exact V_wk (by simp [lle]) (ih3 _ _ ⟨_, d + 1, by omega, by rw [he]; show (match lyO Y c (xnw T.1) with | none => (Y, d) | some q => lzS c (xnw T.1) k (rI (lyX Y q.1 q.2.1 q.2.2 (xnw T.1) (xnw T.1 + rdy (xcr Y c))) c (rld (xcr Y c) + 1)) (d + 1)) = _; rw [← nwY, hq], ⟨(i_lay kpY.1 hM hc (show lyO Y c (xnw Y) = some (q.1, q.2.1, q.2.2) from hq)).rI hc _, HT.rI (X := lyX Y q.1 q.2.1 q.2.2 (xnw Y) (xnw Y + rdy (xcr Y c))) kpY.2 c _⟩, nwY, (congrArg (fun a => rrt a) (rI_c (lyX Y q.1 q.2.1 q.2.2 (xnw Y) (xnw Y + rdy (xcr Y c))) c (rld (xcr Y c) + 1))).trans hfY, mw9, f8.tr f9, rfl⟩)
          · rintro h8 ls8 ⟨Y, d, hk, he, kpY, nwY, hfY, ⟨I8, F8, r8, hP8⟩, f8, rfl⟩
            have m0 := r8.m0
            have m21 := r8.m21
            have e21 := (hP8.2.2.2.2.2.2 c hc).2.1
            rw [hfY] at e21
            have e9 : lzS c (xnw T.1) f T.1 0 = (Y, d) := he
            refine V_iload C dX5_pass_47 rfl ?_
            refine V_aload_n (i := 0) C dX5_pass_49 rfl rfl ?_
            refine V_get (ci := 5) (CN := RX5) (T := TX5) (N := 26) C dX5_pass_50 (by first | assumption | exact hset_s _ _ _) rfl 21 (by decide) flX5_pass_63 wiX5_pass_X5 (by rfl) ?_
            refine V_iload C dX5_pass_53 rfl ?_
            refine V_ialdK C dX5_pass_55 (by first | assumption | exact hset_s _ _ _) rfl hc (by decide) e21 ?_
            refine V_icmp_ge (tgt := 74) C dX5_pass_56 (by decide) (fun _ => ?_) (fun z9 => absurd (nI_le (by omega) (by omega)) z9)
            exact hj74 _ _ _ ⟨by rw [e9]; exact ⟨I8, F8, r8, hP8⟩, f8, by rw [e9], rfl⟩
      · rintro h6 ls6 ⟨mw6, f6, rfl⟩
        refine V_iload C dX5_pass_38 rfl ?_
        refine V_iconst (v := 3) C dX5_pass_40 (by decide) ?_
        refine V_icmp_ge (tgt := 85) C dX5_pass_41 (by decide) (fun _ => ?_) (fun z9 => absurd (by decide) z9)
        refine V_iinc3 (v := nI (i + 1)) C dX5_pass_85 (nI_1 _) (by decide) ?_
        refine V_goto (tgt := 20) C dX5_pass_88 (by decide) ?_
        exact V_wk (by simp [lle]) (ih _ _ ⟨mw6, f6, rfl⟩)
    · rintro h4 ls4 ⟨mw4, f4, rfl⟩
      refine V_iload_n (i := 3) C dX5_pass_20 rfl rfl ?_
      refine V_iload_n (i := 1) C dX5_pass_21 rfl rfl ?_
      refine V_icmp_ge (tgt := 91) C dX5_pass_22 (by decide) (fun _ => ?_) (fun z9 => absurd (nI_le (Nat.le_refl _) (by omega)) z9)
      refine V_iload_n (i := 2) C dX5_pass_91 rfl rfl ?_
      exact V_iret C dX5_pass_92 hr ⟨⟨_, rfl, fun _ => rfl⟩, mw4, f4⟩ (by exact Nat.le_of_ble_eq_true rfl) (by exact Nat.le_of_ble_eq_true rfl)
  · have hsp : sp_pass X a = (some kIA, 0, X) := by unfold sp_pass; rw [if_neg ha]
    rw [hsp]
    refine Mt_of (cc := cX5_pass) (maxL := 6) (ret := (some .int)) (own := RX5) [some (.ref (A 0)), some (.int a), none, none, none, none] rfl (by decide +kernel) rfl rfl (by exact Nat.le_of_ble_eq_true rfl) rfl ?_
    intro p9 e9 s9 m9 args9 below9 meth9 c9 C hr hnm
    refine V_aload_n (i := 0) C dX5_pass_0 rfl rfl ?_
    refine V_iload_n (i := 1) C dX5_pass_1 rfl rfl ?_
    refine V_iconst (v := 1) C dX5_pass_2 (by decide) ?_
    refine V_bipush (v := 100) C dX5_pass_3 (by decide) ?_
    refine V_callS (n := 3) C (r_in) dX5_pass_5 gX5_pass_X5_in rfl (by decide +kernel) rfl rfl (by exact Nat.le_of_ble_eq_true rfl) ⟨Nat.le_of_ble_eq_true rfl, Nat.le_of_ble_eq_true rfl⟩ ⟨Nat.le_of_ble_eq_true rfl, Nat.le_of_ble_eq_true rfl⟩ (fun v9 h9 hr9 => ?_)
    rw [if_neg ha] at hr9
    obtain ⟨rfl, z9⟩ := hr9
    have z9 := z9.symm
    subst z9
    refine V_callV (n := 1) C (r_asked1 (P := False) r rfl) dX5_pass_8 gX5_pass_X5_asked rfl (by first | assumption | exact hset_s _ _ _) rfl (by decide +kernel) rfl rfl (by exact Nat.le_of_ble_eq_true rfl) ⟨Nat.le_of_ble_eq_true rfl, Nat.le_of_ble_eq_true rfl⟩ ⟨Nat.le_of_ble_eq_true rfl, Nat.le_of_ble_eq_true rfl⟩ (fun v9 h9 hr9 => ?_)
    obtain ⟨rfl, r2, f2⟩ := hr9
    rw [if_neg (fun z => z)] at r2
    refine V_if_ne (tgt := 16) C dX5_pass_11 (by decide) (fun z9 => absurd rfl z9) (fun _ => ?_)
    refine V_iconst (v := 0) C dX5_pass_14 (by decide) ?_
    exact V_iret C dX5_pass_15 hr (Rst_x r2 hP f2 (by decide +kernel)) (by exact Nat.le_of_ble_eq_true rfl) (by exact Nat.le_of_ble_eq_true rfl)
set_option maxHeartbeats 4000000 in
set_option maxRecDepth 100000 in
theorem q_edge (r : MR cA A I F (mnn X th) h) (hI : CI M X) (hP : PR X I F) {x : Int32} : Mt l D cA bs yX5_edge wsX5_edge (rmk 3 0 0) [.ref (A 0), .int x] h (Rst cA A kIO kIA (sp_edge X x) h) := by
  have m0 := r.m0
  have hd := hI.1.1
  by_cases hx : picN X x
  · obtain ⟨p, hp, rfl, ep⟩ := picN_of hd hx
    have hnp := hd.2.1
    obtain ⟨⟨w1, w2⟩, g1, g2⟩ := hd.2.2 p hp
    have hN := (hd.N hp).2
    obtain ⟨p1, p2⟩ := hP.2.2.1 p hp
    have e : sp_edge X (nI p) = (none, (grS (xwd X p) (xhg X p) (xlo X) (xg X p) (xN X p)).toInt32, X) := by unfold sp_edge; rw [if_pos hx, ep]
    rw [e]
    have hgn : ∀ k, k ≤ xN X p → FP.Core.val32 (grS (xwd X p) (xhg X p) (xlo X) (xg X p) k) ≠ .nan := fun k hk => (grS_fbt hI hp k hk).1.ne_nan
    refine Mt_of (cc := cX5_edge) (maxL := 8) (ret := (some .int)) (own := RX5) [some (.ref (A 0)), some (.int (nI p)), none, none, none, none, none, none] rfl (by decide +kernel) rfl rfl (by exact Nat.le_of_ble_eq_true rfl) rfl ?_
    intro p9 e9 s9 m9 args9 below9 meth9 c9 C hr hnm
    refine V_aload_n (i := 0) C dX5_edge_0 rfl rfl ?_
    refine V_aload_n (i := 0) C dX5_edge_1 rfl rfl ?_
    refine V_iload_n (i := 1) C dX5_edge_2 rfl rfl ?_
    refine V_callV (n := 1) C (r_isPicX r hd) dX5_edge_3 gX5_edge_X5_isPicture rfl (by first | assumption | exact hset_s _ _ _) rfl (by decide +kernel) rfl rfl (by exact Nat.le_of_ble_eq_true rfl) ⟨Nat.le_of_ble_eq_true rfl, Nat.le_of_ble_eq_true rfl⟩ ⟨Nat.le_of_ble_eq_true rfl, Nat.le_of_ble_eq_true rfl⟩ (fun v9 h9 hr9 => ?_)
    rw [if_pos hx] at hr9
    obtain ⟨rfl, z9⟩ := hr9
    have z9 := z9.symm
    subst z9
    refine V_callV (n := 1) C (r_asked1 (P := True) r rfl) dX5_edge_6 gX5_edge_X5_asked rfl (by first | assumption | exact hset_s _ _ _) rfl (by decide +kernel) rfl rfl (by exact Nat.le_of_ble_eq_true rfl) ⟨Nat.le_of_ble_eq_true rfl, Nat.le_of_ble_eq_true rfl⟩ ⟨Nat.le_of_ble_eq_true rfl, Nat.le_of_ble_eq_true rfl⟩ (fun v9 h9 hr9 => ?_)
    obtain ⟨rfl, r2, f2⟩ := hr9
    rw [if_pos trivial] at r2
    have m0 := r2.m0
    have m10 := r2.m10
    have m11 := r2.m11
    have r2 : MR cA A I F (mnn X 0) h9 := r2
    refine V_if_ne (tgt := 14) C dX5_edge_9 (by decide) (fun _ => ?_) (fun z9 => absurd z9 (by decide))
    refine V_fconst0 C dX5_edge_14 ?_
    refine V_fstore2 C dX5_edge_15 (by decide) ?_
    refine V_iconst (v := 0) C dX5_edge_16 (by decide) ?_
    refine V_istore3 C dX5_edge_17 (by decide) ?_
    refine V_for (xhg X p) (fun y h4 ls4 => h4 = h9 ∧ ls4 = [some (.ref (A 0)), some (.int (nI p)), some (.float (grS (xwd X p) (xhg X p) (xlo X) (xg X p) (y * xwd X p))), some (.int (nI y)), none, none, none, none]) ?_ ?_ 0 (Nat.zero_le _) ⟨rfl, by rw [Nat.zero_mul]; rfl⟩
    · rintro y h4 ls4 hy ⟨z9, rfl⟩ ih
      have z9 := z9.symm
      subst z9
      refine V_iload_n (i := 3) C dX5_edge_18 rfl rfl ?_
      refine V_aload_n (i := 0) C dX5_edge_19 rfl rfl ?_
      refine V_get (ci := 5) (CN := RX5) (T := TX5) (N := 26) C dX5_edge_20 (by first | assumption | exact hset_s _ _ _) rfl 11 (by decide) flX5_edge_33 wiX5_edge_X5 (by rfl) ?_
      refine V_iload_n (i := 1) C dX5_edge_23 rfl rfl ?_
      refine V_ialdK C dX5_edge_24 (by first | assumption | exact hset_s _ _ _) rfl (by omega) (by decide) p2 ?_
      refine V_icmp_ge (tgt := 149) C dX5_edge_25 (by decide) (fun z9 => absurd z9 (nI_ge hy (by omega))) (fun _ => ?_)
      refine V_iconst (v := 0) C dX5_edge_28 (by decide) ?_
      refine V_istore4 C dX5_edge_29 (by decide) ?_
      refine V_for (xwd X p) (fun x h4 ls4 => h4 = h9 ∧ ls4 = [some (.ref (A 0)), some (.int (nI p)), some (.float (grS (xwd X p) (xhg X p) (xlo X) (xg X p) (y * xwd X p + x))), some (.int (nI y)), some (.int (nI x)), none, none, none]) ?_ ?_ 0 (Nat.zero_le _) ⟨rfl, rfl⟩
      · rintro x h4 ls4 hx ⟨z9, rfl⟩ ih2
        have z9 := z9.symm
        subst z9
        have hk := at_lt hx hy
        have hcx := cx_at p hx (j := y)
        have em := at_mod (j := y) hx
        have ev := at_div (j := y) hx
        have hgr := hgn _ (Nat.le_of_lt hk)
        have hrn : FP.Core.val32 (edR (xwd X p) (xlo X) (xg X p) (y * xwd X p + x)) ≠ .nan := by
          unfold edR
          split
          · rename_i hh
            rw [em, ev] at *
            exact (edg_fbt hI hp hk (at_lt hh hy)).1.ne_nan
          · exact fbt_0.1.ne_nan
        have hbn : FP.Core.val32 (edB (xwd X p) (xhg X p) (xlo X) (xg X p) (y * xwd X p + x)) ≠ .nan := by
          unfold edB
          split
          · rename_i hh
            rw [em, ev] at *
            exact (edg_fbt hI hp hk (at_lt hx hh)).1.ne_nan
          · exact fbt_0.1.ne_nan
        have hst : grS (xwd X p) (xhg X p) (xlo X) (xg X p) (y * xwd X p + (x + 1)) = _ := (show grS (xwd X p) (xhg X p) (xlo X) (xg X p) ((y * xwd X p + x) + 1) = _ from rfl).trans (mx_eq hrn hbn hgr)
        obtain ⟨er, her⟩ : ∃ er, er = edR (xwd X p) (xlo X) (xg X p) (y * xwd X p + x) := ⟨_, rfl⟩
        obtain ⟨eb, heb⟩ : ∃ eb, eb = edB (xwd X p) (xhg X p) (xlo X) (xg X p) (y * xwd X p + x) := ⟨_, rfl⟩
        obtain ⟨gm, hgm⟩ : ∃ gm, gm = grS (xwd X p) (xhg X p) (xlo X) (xg X p) (y * xwd X p + x) := ⟨_, rfl⟩
        rw [← her, ← heb, ← hgm] at hst
        rw [← hgm]
        refine V_join 136 (fun h5 ls5 st5 => h5 = h9 ∧ ls5 = [some (.ref (A 0)), some (.int (nI p)), none, some (.int (nI y)), some (.int (nI x)), none, none, none] ∧ st5 = [.float (grS (xwd X p) (xhg X p) (xlo X) (xg X p) (y * xwd X p + (x + 1)))]) ?_ (fun hj136 => ?_)
        · rintro h5 ls5 st5 ⟨z9, rfl, rfl⟩
          have z9 := z9.symm
          subst z9
          refine V_fstore2 C dX5_edge_136 (by decide) ?_
          refine V_iinc4 (v := nI (x + 1)) C dX5_edge_137 (nI_1 _) (by decide) ?_
          refine V_goto (tgt := 31) C dX5_edge_140 (by decide) ?_
          exact V_wk (by simp [lle]) (ih2 _ _ ⟨rfl, rfl⟩)
        refine V_join 107 (fun h5 ls5 st5 => h5 = h9 ∧ ls5 = [some (.ref (A 0)), some (.int (nI p)), some (.float gm), some (.int (nI y)), some (.int (nI x)), none, some (.float er), none] ∧ st5 = [.float eb]) ?_ (fun hj107 => ?_)
        · rintro h5 ls5 st5 ⟨z9, rfl, rfl⟩
          have z9 := z9.symm
          subst z9
          refine V_fstore7 C dX5_edge_107 (by decide) ?_
          refine V_fload C dX5_edge_109 rfl ?_
          refine V_fload_n (i := 2) C dX5_edge_111 rfl rfl ?_
          refine V_fcmp C dX5_edge_112 ?_
          refine V_if_le (tgt := 121) C dX5_edge_113 (by decide) (fun c113 => ?_) (fun c113 => ?_)
          · have c113 := cv_lle.mp c113
            rw [if_neg c113] at hst
            refine V_fload_n (i := 2) C dX5_edge_121 rfl rfl ?_
            refine V_fstore2 C dX5_edge_122 (by decide) ?_
            refine V_fload C dX5_edge_123 rfl ?_
            refine V_fload_n (i := 2) C dX5_edge_125 rfl rfl ?_
            refine V_fcmp C dX5_edge_126 ?_
            refine V_if_le (tgt := 135) C dX5_edge_127 (by decide) (fun c127 => ?_) (fun c127 => ?_)
            · have c127 := cv_lle.mp c127
              rw [if_neg c127] at hst
              refine V_fload_n (i := 2) C dX5_edge_135 rfl rfl ?_
              exact V_wk (ls2 := [some (.ref (A 0)), some (.int (nI p)), none, some (.int (nI y)), some (.int (nI x)), none, none, none]) (by simp [lle]) (hj136 _ _ _ ⟨rfl, rfl, by rw [hst]⟩)
            · have c127 := Classical.not_not.mp (fun z => c127 (cv_lle.mpr z))
              rw [if_pos c127] at hst
              refine V_fload C dX5_edge_130 rfl ?_
              refine V_goto (tgt := 136) C dX5_edge_132 (by decide) ?_
              exact V_wk (ls2 := [some (.ref (A 0)), some (.int (nI p)), none, some (.int (nI y)), some (.int (nI x)), none, none, none]) (by simp [lle]) (hj136 _ _ _ ⟨rfl, rfl, by rw [hst]⟩)
          · have c113 := Classical.not_not.mp (fun z => c113 (cv_lle.mpr z))
            rw [if_pos c113] at hst
            refine V_fload C dX5_edge_116 rfl ?_
            refine V_goto (tgt := 122) C dX5_edge_118 (by decide) ?_
            refine V_fstore2 C dX5_edge_122 (by decide) ?_
            refine V_fload C dX5_edge_123 rfl ?_
            refine V_fload_n (i := 2) C dX5_edge_125 rfl rfl ?_
            refine V_fcmp C dX5_edge_126 ?_
            refine V_if_le (tgt := 135) C dX5_edge_127 (by decide) (fun c127 => ?_) (fun c127 => ?_)
            · have c127 := cv_lle.mp c127
              rw [if_neg c127] at hst
              refine V_fload_n (i := 2) C dX5_edge_135 rfl rfl ?_
              exact V_wk (ls2 := [some (.ref (A 0)), some (.int (nI p)), none, some (.int (nI y)), some (.int (nI x)), none, none, none]) (by simp [lle]) (hj136 _ _ _ ⟨rfl, rfl, by rw [hst]⟩)
            · have c127 := Classical.not_not.mp (fun z => c127 (cv_lle.mpr z))
              rw [if_pos c127] at hst
              refine V_fload C dX5_edge_130 rfl ?_
              refine V_goto (tgt := 136) C dX5_edge_132 (by decide) ?_
              exact V_wk (ls2 := [some (.ref (A 0)), some (.int (nI p)), none, some (.int (nI y)), some (.int (nI x)), none, none, none]) (by simp [lle]) (hj136 _ _ _ ⟨rfl, rfl, by rw [hst]⟩)
        refine V_join 78 (fun h5 ls5 st5 => h5 = h9 ∧ ls5 = [some (.ref (A 0)), some (.int (nI p)), some (.float gm), some (.int (nI y)), some (.int (nI x)), some (.int (nI (cx (xwd X p) p (y * xwd X p + x)))), none, none] ∧ st5 = [.float er]) ?_ (fun hj78 => ?_)
        · rintro h5 ls5 st5 ⟨z9, rfl, rfl⟩
          have z9 := z9.symm
          subst z9
          refine V_fstore6 C dX5_edge_78 (by decide) ?_
          refine V_iload_n (i := 3) C dX5_edge_80 rfl rfl ?_
          refine V_iconst (v := 1) C dX5_edge_81 (by decide) ?_
          refine V_iadd C dX5_edge_82 ?_
          rw [nI_1]
          refine V_aload_n (i := 0) C dX5_edge_83 rfl rfl ?_
          refine V_get (ci := 5) (CN := RX5) (T := TX5) (N := 26) C dX5_edge_84 (by first | assumption | exact hset_s _ _ _) rfl 11 (by decide) flX5_edge_33 wiX5_edge_X5 (by rfl) ?_
          refine V_iload_n (i := 1) C dX5_edge_87 rfl rfl ?_
          refine V_ialdK C dX5_edge_88 (by first | assumption | exact hset_s _ _ _) rfl (by omega) (by decide) p2 ?_
          refine V_icmp_ge (tgt := 106) C dX5_edge_89 (by decide) (fun c89 => ?_) (fun c89 => ?_)
          · have c89 : ¬ y + 1 < xhg X p := fun z => nI_ge z (by omega) c89
            have e9 : eb = FP.fconst0 := by rw [heb]; unfold edB; rw [ev, if_neg c89]
            refine V_fconst0 C dX5_edge_106 ?_
            exact V_wk (ls2 := [some (.ref (A 0)), some (.int (nI p)), some (.float gm), some (.int (nI y)), some (.int (nI x)), none, some (.float er), none]) (by simp [lle]) (hj107 _ _ _ ⟨rfl, rfl, by first | (rw [e9]; done) | (rw [e9]; rfl)⟩)
          · have c89 : y + 1 < xhg X p := by rcases Nat.lt_or_ge (y + 1) (xhg X p) with z | z; exact z; exact absurd (nI_le z (by omega)) c89
            have e9 : eb = edg (xlo X) (xg X p (y * xwd X p + x)) (xg X p ((y + 1) * xwd X p + x)) := by rw [heb]; unfold edB; rw [ev, em, if_pos c89]
            refine V_aload_n (i := 0) C dX5_edge_92 rfl rfl ?_
            refine V_iload C dX5_edge_93 rfl ?_
            refine V_iload C dX5_edge_95 rfl ?_
            refine V_bipush (v := 8) C dX5_edge_97 (by decide) ?_
            refine V_iadd C dX5_edge_99 ?_
            rw [show (nI (cx (xwd X p) p (y * xwd X p + x)) + 8 : Int32) = nI (cx (xwd X p) p ((y + 1) * xwd X p + x)) by rw [show (8 : Int32) = nI 8 from rfl, nI_add, hcx, cx_at p hx]; congr 1; omega]
            refine V_callV (n := 2) C (r_apart r2 hI hP hp hk (at_lt hx c89)) dX5_edge_100 gX5_edge_X5_apart rfl (by first | assumption | exact hset_s _ _ _) rfl (by decide +kernel) rfl rfl (by exact Nat.le_of_ble_eq_true rfl) ⟨Nat.le_of_ble_eq_true rfl, Nat.le_of_ble_eq_true rfl⟩ ⟨Nat.le_of_ble_eq_true rfl, Nat.le_of_ble_eq_true rfl⟩ (fun v9 h9 hr9 => ?_)
            obtain ⟨rfl, z9⟩ := hr9
            have z9 := z9.symm
            subst z9
            refine V_goto (tgt := 107) C dX5_edge_103 (by decide) ?_
            exact V_wk (ls2 := [some (.ref (A 0)), some (.int (nI p)), some (.float gm), some (.int (nI y)), some (.int (nI x)), none, some (.float er), none]) (by simp [lle]) (hj107 _ _ _ ⟨rfl, rfl, by first | (rw [e9]; done) | (rw [e9]; rfl)⟩)
        · refine V_iload C dX5_edge_31 rfl ?_
          refine V_aload_n (i := 0) C dX5_edge_33 rfl rfl ?_
          refine V_get (ci := 5) (CN := RX5) (T := TX5) (N := 26) C dX5_edge_34 (by first | assumption | exact hset_s _ _ _) rfl 10 (by decide) flX5_edge_30 wiX5_edge_X5 (by rfl) ?_
          refine V_iload_n (i := 1) C dX5_edge_37 rfl rfl ?_
          refine V_ialdK C dX5_edge_38 (by first | assumption | exact hset_s _ _ _) rfl (by omega) (by decide) p1 ?_
          refine V_icmp_ge (tgt := 143) C dX5_edge_39 (by decide) (fun z9 => absurd z9 (nI_ge hx (by omega))) (fun _ => ?_)
          refine V_iload_n (i := 1) C dX5_edge_42 rfl rfl ?_
          refine V_iload C dX5_edge_43 rfl ?_
          refine V_iload_n (i := 3) C dX5_edge_45 rfl rfl ?_
          refine V_callS (n := 3) C (r_cellOf) dX5_edge_46 gX5_edge_X5_cellOf rfl (by decide +kernel) rfl rfl (by exact Nat.le_of_ble_eq_true rfl) ⟨Nat.le_of_ble_eq_true rfl, Nat.le_of_ble_eq_true rfl⟩ ⟨Nat.le_of_ble_eq_true rfl, Nat.le_of_ble_eq_true rfl⟩ (fun v9 h9 hr9 => ?_)
          obtain ⟨rfl, z9⟩ := hr9
          have z9 := z9.symm
          subst z9
          rw [← hcx]
          refine V_istore5 C dX5_edge_49 (by decide) ?_
          refine V_iload C dX5_edge_51 rfl ?_
          refine V_iconst (v := 1) C dX5_edge_53 (by decide) ?_
          refine V_iadd C dX5_edge_54 ?_
          rw [nI_1]
          refine V_aload_n (i := 0) C dX5_edge_55 rfl rfl ?_
          refine V_get (ci := 5) (CN := RX5) (T := TX5) (N := 26) C dX5_edge_56 (by first | assumption | exact hset_s _ _ _) rfl 10 (by decide) flX5_edge_30 wiX5_edge_X5 (by rfl) ?_
          refine V_iload_n (i := 1) C dX5_edge_59 rfl rfl ?_
          refine V_ialdK C dX5_edge_60 (by first | assumption | exact hset_s _ _ _) rfl (by omega) (by decide) p1 ?_
          refine V_icmp_ge (tgt := 77) C dX5_edge_61 (by decide) (fun c61 => ?_) (fun c61 => ?_)
          · have c61 : ¬ x + 1 < xwd X p := fun z => nI_ge z (by omega) c61
            have e9 : er = FP.fconst0 := by rw [her]; unfold edR; rw [em, if_neg c61]
            refine V_fconst0 C dX5_edge_77 ?_
            exact V_wk (ls2 := [some (.ref (A 0)), some (.int (nI p)), some (.float gm), some (.int (nI y)), some (.int (nI x)), some (.int (nI (cx (xwd X p) p (y * xwd X p + x)))), none, none]) (by simp [lle]) (hj78 _ _ _ ⟨rfl, rfl, by first | (rw [e9]; done) | (rw [e9]; rfl)⟩)
          · have c61 : x + 1 < xwd X p := by rcases Nat.lt_or_ge (x + 1) (xwd X p) with z | z; exact z; exact absurd (nI_le z (by omega)) c61
            have e9 : er = edg (xlo X) (xg X p (y * xwd X p + x)) (xg X p (y * xwd X p + (x + 1))) := by rw [her]; unfold edR; rw [ev, em, if_pos c61]
            refine V_aload_n (i := 0) C dX5_edge_64 rfl rfl ?_
            refine V_iload C dX5_edge_65 rfl ?_
            refine V_iload C dX5_edge_67 rfl ?_
            refine V_iconst (v := 1) C dX5_edge_69 (by decide) ?_
            refine V_iadd C dX5_edge_70 ?_
            rw [show (nI (cx (xwd X p) p (y * xwd X p + x)) + 1 : Int32) = nI (cx (xwd X p) p (y * xwd X p + (x + 1))) by rw [nI_1, hcx, cx_at p c61]; congr 1]
            refine V_callV (n := 2) C (r_apart r2 hI hP hp hk (at_lt c61 hy)) dX5_edge_71 gX5_edge_X5_apart rfl (by first | assumption | exact hset_s _ _ _) rfl (by decide +kernel) rfl rfl (by exact Nat.le_of_ble_eq_true rfl) ⟨Nat.le_of_ble_eq_true rfl, Nat.le_of_ble_eq_true rfl⟩ ⟨Nat.le_of_ble_eq_true rfl, Nat.le_of_ble_eq_true rfl⟩ (fun v9 h9 hr9 => ?_)
            obtain ⟨rfl, z9⟩ := hr9
            have z9 := z9.symm
            subst z9
            refine V_goto (tgt := 78) C dX5_edge_74 (by decide) ?_
            exact V_wk (ls2 := [some (.ref (A 0)), some (.int (nI p)), some (.float gm), some (.int (nI y)), some (.int (nI x)), some (.int (nI (cx (xwd X p) p (y * xwd X p + x)))), none, none]) (by simp [lle]) (hj78 _ _ _ ⟨rfl, rfl, by first | (rw [e9]; done) | (rw [e9]; rfl)⟩)
      · rintro h4 ls4 ⟨z9, rfl⟩
        have z9 := z9.symm
        subst z9
        refine V_iload C dX5_edge_31 rfl ?_
        refine V_aload_n (i := 0) C dX5_edge_33 rfl rfl ?_
        refine V_get (ci := 5) (CN := RX5) (T := TX5) (N := 26) C dX5_edge_34 (by first | assumption | exact hset_s _ _ _) rfl 10 (by decide) flX5_edge_30 wiX5_edge_X5 (by rfl) ?_
        refine V_iload_n (i := 1) C dX5_edge_37 rfl rfl ?_
        refine V_ialdK C dX5_edge_38 (by first | assumption | exact hset_s _ _ _) rfl (by omega) (by decide) p1 ?_
        refine V_icmp_ge (tgt := 143) C dX5_edge_39 (by decide) (fun _ => ?_) (fun z9 => absurd (nI_le (Nat.le_refl _) (by omega)) z9)
        refine V_iinc3 (v := nI (y + 1)) C dX5_edge_143 (nI_1 _) (by decide) ?_
        refine V_goto (tgt := 18) C dX5_edge_146 (by decide) ?_
        exact V_wk (by simp [lle, Nat.add_mul]) (ih _ _ ⟨rfl, rfl⟩)
    · rintro h4 ls4 ⟨z9, rfl⟩
      have z9 := z9.symm
      subst z9
      have hfin : FP.Core.val32 (grS (xwd X p) (xhg X p) (xlo X) (xg X p) (xhg X p * xwd X p)) ≠ .nan := by rw [Nat.mul_comm]; exact hgn _ (Nat.le_refl _)
      refine V_iload_n (i := 3) C dX5_edge_18 rfl rfl ?_
      refine V_aload_n (i := 0) C dX5_edge_19 rfl rfl ?_
      refine V_get (ci := 5) (CN := RX5) (T := TX5) (N := 26) C dX5_edge_20 (by first | assumption | exact hset_s _ _ _) rfl 11 (by decide) flX5_edge_33 wiX5_edge_X5 (by rfl) ?_
      refine V_iload_n (i := 1) C dX5_edge_23 rfl rfl ?_
      refine V_ialdK C dX5_edge_24 (by first | assumption | exact hset_s _ _ _) rfl (by omega) (by decide) p2 ?_
      refine V_icmp_ge (tgt := 149) C dX5_edge_25 (by decide) (fun _ => ?_) (fun z9 => absurd (nI_le (Nat.le_refl _) (by omega)) z9)
      refine V_fload_n (i := 2) C dX5_edge_149 rfl rfl ?_
      refine V_callS (n := 1) C (j_bits hfin) dX5_edge_150 gX5_edge_Jxf58ca_floatToIntBits_5c35a rfl (by decide +kernel) rfl rfl (by exact Nat.le_of_ble_eq_true rfl) ⟨Nat.le_of_ble_eq_true rfl, Nat.le_of_ble_eq_true rfl⟩ ⟨Nat.le_of_ble_eq_true rfl, Nat.le_of_ble_eq_true rfl⟩ (fun v9 h9 hr9 => ?_)
      obtain ⟨rfl, z9⟩ := hr9
      have z9 := z9.symm
      subst z9
      exact V_iret C dX5_edge_153 hr ⟨⟨_, rfl, fun _ => by rw [Nat.mul_comm (xhg X p)]⟩, ⟨I, F, r2, hP⟩, f2⟩ (by exact Nat.le_of_ble_eq_true rfl) (by exact Nat.le_of_ble_eq_true rfl)
  · have e : sp_edge X x = (some kIO, 0, X) := by unfold sp_edge; rw [if_neg hx]
    rw [e]
    refine Mt_of (cc := cX5_edge) (maxL := 8) (ret := (some .int)) (own := RX5) [some (.ref (A 0)), some (.int x), none, none, none, none, none, none] rfl (by decide +kernel) rfl rfl (by exact Nat.le_of_ble_eq_true rfl) rfl ?_
    intro p9 e9 s9 m9 args9 below9 meth9 c9 C hr hnm
    refine V_aload_n (i := 0) C dX5_edge_0 rfl rfl ?_
    refine V_aload_n (i := 0) C dX5_edge_1 rfl rfl ?_
    refine V_iload_n (i := 1) C dX5_edge_2 rfl rfl ?_
    refine V_callV (n := 1) C (r_isPicX r hd) dX5_edge_3 gX5_edge_X5_isPicture rfl (by first | assumption | exact hset_s _ _ _) rfl (by decide +kernel) rfl rfl (by exact Nat.le_of_ble_eq_true rfl) ⟨Nat.le_of_ble_eq_true rfl, Nat.le_of_ble_eq_true rfl⟩ ⟨Nat.le_of_ble_eq_true rfl, Nat.le_of_ble_eq_true rfl⟩ (fun v9 h9 hr9 => ?_)
    rw [if_neg hx] at hr9
    obtain ⟨rfl, z9⟩ := hr9
    have z9 := z9.symm
    subst z9
    refine V_callV (n := 1) C (r_asked1 (P := False) r rfl) dX5_edge_6 gX5_edge_X5_asked rfl (by first | assumption | exact hset_s _ _ _) rfl (by decide +kernel) rfl rfl (by exact Nat.le_of_ble_eq_true rfl) ⟨Nat.le_of_ble_eq_true rfl, Nat.le_of_ble_eq_true rfl⟩ ⟨Nat.le_of_ble_eq_true rfl, Nat.le_of_ble_eq_true rfl⟩ (fun v9 h9 hr9 => ?_)
    obtain ⟨rfl, r2, f2⟩ := hr9
    rw [if_neg (fun z => z)] at r2
    refine V_if_ne (tgt := 14) C dX5_edge_9 (by decide) (fun z9 => absurd rfl z9) (fun _ => ?_)
    refine V_iconst (v := 0) C dX5_edge_12 (by decide) ?_
    exact V_iret C dX5_edge_13 hr (Rst_x r2 hP f2 (by decide +kernel)) (by exact Nat.le_of_ble_eq_true rfl) (by exact Nat.le_of_ble_eq_true rfl)
end RPUB6
