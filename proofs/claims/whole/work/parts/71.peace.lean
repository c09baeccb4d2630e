-- ===== a plan for a set of rows: tables without costs =====
theorem turn_far {nc line k : Nat} {S : TS} (h : tFar S = -1) : tFar (turnT nc line k S) = -1 := by
  show (if tFar S = (k : Int) then (-1 : Int) else tFar S) = -1
  rw [h]
  split <;> rfl
theorem desc_far {nc : Nat} : ∀ (n : Nat) {S : TS}, tFar S = -1 → tFar (descT nc n S).1 = -1
  | 0, S, h => h
  | n + 1, S, h => by
    show tFar (if dcLn S < 0 then (S, true) else if dcK nc S < 0 then (S, false) else descT nc n (turnT nc (dcLn S).toNat (dcK nc S).toNat S)).1 = -1
    split
    · exact h
    · split
      · exact h
      · exact desc_far n (turn_far h)
theorem step_nu (kd rk nu sa : Nat → Int) (nc : Nat) : (fun r => inStepZ (rk r) (numZ nu (-1) 0 r) (dvZ false kd sa nc r)) = nu := by
  funext r
  show inStepZ (rk r) (nu r + (if (r : Int) = -1 then 0 else 0)) (if false = true then divZ kd sa r nc else 0) = nu r
  rw [if_neg (show ¬ (r : Int) = -1 by omega), if_neg (show ¬ false = true by decide)]
  unfold inStepZ
  rw [if_pos (Or.inl (by decide))]
  omega
abbrev layQ (kd rk nu ct sa lo hi : Nat → Int) (nc : Nat) (S : TS) (n : Nat) : TS := layT false kd rk nu ct sa nc (-1) 0 (beginT nc (fun _ => 0) lo hi S) n
theorem layQ_succ {kd rk nu ct sa lo hi : Nat → Int} {nc : Nat} {S : TS} {n : Nat} : layQ kd rk nu ct sa lo hi nc S (n + 1) = if ct n = 1 then addRowT nc (rk n) sa n (nu n) (layQ kd rk nu ct sa lo hi nc S n) else layQ kd rk nu ct sa lo hi nc S n := by
  show (if ct n = 1 then addRowT nc (rk n) sa n (inStepZ (rk n) (numZ nu (-1) 0 n) (dvZ false kd sa nc n)) (layQ kd rk nu ct sa lo hi nc S n) else layQ kd rk nu ct sa lo hi nc S n) = _
  rw [show inStepZ (rk n) (numZ nu (-1) 0 n) (dvZ false kd sa nc n) = nu n from congrFun (step_nu kd rk nu sa nc) n]
theorem co0 : ∀ j : Nat, -9 ≤ (fun _ => 0 : Nat → Int) j ∧ (fun _ => 0 : Nat → Int) j ≤ 9 := fun _ => ⟨(by decide : (-9 : Int) ≤ 0), (by decide : (0 : Int) ≤ 9)⟩
theorem dot_c0 (nc : Nat) (y : Nat → Int) : dotZ 6 (costV nc (fun _ => 0)) y = 0 := by
  have e : costV nc (fun _ => 0) = fun _ => 0 := by funext x; unfold costV; split <;> rfl
  rw [e]
  unfold dotZ
  have key : ∀ n, sumZ (fun c => (fun _ => 0 : Nat → Int) c * y c) n = 0 := by
    intro n
    induction n with
    | zero => rfl
    | succ n ih =>
      show sumZ (fun c => (fun _ => 0 : Nat → Int) c * y c) n + 0 * y n = 0
      rw [ih, Int.zero_mul]; rfl
  exact key 6
theorem peace_root {kd pa lo hi rk nu ct sa : Nat → Int} {nc nr : Nat} {S : TS} (hP : colsOk nc kd pa lo hi) (hR : rowsOk nr rk nu ct sa) (hS : staleT S) :
    NI True nc (fun _ => 0) kd lo hi (phiP rk ct sa nc nu nr) (layQ kd rk nu ct sa lo hi nc S nr) ∧ tFar (layQ kd rk nu ct sa lo hi nc S nr) = -1 ∧
    (∀ c, c < nc → tLo (layQ kd rk nu ct sa lo hi nc S nr) c = lo c ∧ tHi (layQ kd rk nu ct sa lo hi nc S nr) c = hi c ∧ tTi (layQ kd rk nu ct sa lo hi nc S nr) (1 + c) = 1) := by
  obtain ⟨W, hW, hl⟩ := lay_ok (st := false) (moved := -1) (d := 0) hP co0 hR (by omega) hS nr (Nat.le_refl nr)
  rw [step_nu] at hW
  have h18 : tNl (layQ kd rk nu ct sa lo hi nc S nr) ≤ 18 := by
    have := hP.1
    have := hR.1
    exact Nat.le_trans hl (by omega)
  have hp : ∀ j, j < nc → ¬ tCe (layQ kd rk nu ct sa lo hi nc S nr) j < 0 := by
    intro j hj
    have h1 := hW.2.2.2.1 0 j (by have := hW.1; omega) (by have := hP.1; omega)
    rw [hW.2.2.2.2.1, dot_c0, Nat.zero_mul, Nat.zero_add] at h1
    have h2 : tCe (layQ kd rk nu ct sa lo hi nc S nr) j = 0 := h1
    omega
  obtain ⟨B, s, k1⟩ := near_ok (gd := True) hP.1 hP.2.2.1 hP.2.2.2.1 hW h18 hp
  obtain ⟨a1, a2, a3, a4, a5, a6, a7, a8, a9, a10, a12, a13, s1, s2, s3, s4, s5⟩ := hW
  refine ⟨⟨⟨W, B, s, k1, a13, a5⟩, s5, ?_, ?_⟩, a3, fun c hc => ⟨(a9 c hc).1, (a9 c hc).2.1, a12 c hc⟩⟩
  · intro c hc
    have e1 : tLo (layQ kd rk nu ct sa lo hi nc S nr) c = lo c := (a9 c hc).1
    have e2 : tHi (layQ kd rk nu ct sa lo hi nc S nr) c = hi c := (a9 c hc).2.1
    rw [e1, e2]
    refine ⟨Int.le_refl _, fun q => ⟨q, ?_, Int.le_refl _⟩, fun q => q⟩
    rcases hP.2.2.2.1 c with w | w
    · exact absurd w q
    · exact w.1
  · intro c hc ht
    have e3 : tTi (layQ kd rk nu ct sa lo hi nc S nr) (1 + c) = 1 := a12 c hc
    rw [e3] at ht; omega
/-- what a table without costs comes to -/
theorem peace_desc {kd pa lo hi rk nu ct sa : Nat → Int} {nc nr : Nat} {S : TS} (hP : colsOk nc kd pa lo hi) (hR : rowsOk nr rk nu ct sa) (hS : staleT S) :
    GdT nc (layQ kd rk nu ct sa lo hi nc S nr) ∧ bndT nc (descT nc 1000000 (layQ kd rk nu ct sa lo hi nc S nr)).1 ∧ staleT (descT nc 1000000 (layQ kd rk nu ct sa lo hi nc S nr)).1 ∧
    ((descT nc 1000000 (layQ kd rk nu ct sa lo hi nc S nr)).2 = true → inBox nc lo hi (cpV nc (descT nc 1000000 (layQ kd rk nu ct sa lo hi nc S nr)).1) ∧ phiP rk ct sa nc nu nr (cpV nc (descT nc 1000000 (layQ kd rk nu ct sa lo hi nc S nr)).1)) ∧
    ((descT nc 1000000 (layQ kd rk nu ct sa lo hi nc S nr)).2 = false → ∀ y, ¬ (inBox nc lo hi y ∧ phiP rk ct sa nc nu nr y)) := by
  obtain ⟨n1, n2, n3⟩ := peace_root (nr := nr) hP hR hS
  obtain ⟨d1, d2, d3, d4⟩ := NI_desc n1
  have hf := desc_far (nc := nc) 1000000 n2
  have hfx : ∀ c, c < nc → tLo (descT nc 1000000 (layQ kd rk nu ct sa lo hi nc S nr)).1 c = lo c ∧ tHi (descT nc 1000000 (layQ kd rk nu ct sa lo hi nc S nr)).1 c = hi c := by
    intro c hc
    rw [d2.2.2.1, d2.2.2.2.1]
    exact ⟨(n3 c hc).1, (n3 c hc).2.1⟩
  have hd1 := d1
  obtain ⟨⟨W, B, s, k1, k2, k3⟩, k4, -⟩ := d1
  refine ⟨?_, k1.2.2.2.2.2.2.2.2.2.2.2, tab_stale k1 k4, ?_, ?_⟩
  · obtain ⟨⟨W', B', s', k', -⟩, -⟩ := n1
    exact ⟨_, W', B', s', k'⟩
  · intro ht
    have h1 := (st_feas k1 k2 _).mp (corner_feas k1 (d3 ht) hf)
    refine ⟨⟨h1.1, fun c hc => ?_⟩, h1.2.2⟩
    obtain ⟨e1, e2⟩ := hfx c hc
    have h2 := h1.2.1 c hc
    rw [e1, e2] at h2
    exact ⟨h2.1, h2.2.2⟩
  · intro ht y hy
    refine d4 ht trivial y ⟨hy.1.1, fun c hc => ?_, hy.2⟩
    obtain ⟨e1, e2, e3⟩ := n3 c hc
    rw [e1, e2, e3]
    exact ⟨(hy.1.2 c hc).1, fun q => by omega, (hy.1.2 c hc).2⟩
