-- ===== what a solving comes to =====
theorem ent_tb0 {kd pa : Nat → Int} {nc L : Nat} {X : BX} : bTb (entB kd pa nc L X) 0 = bTb X 0 := by
  unfold entB
  split
  · rfl
  · split
    · split
      · exact upT_ne (f := bTb X) (v := ((bTb X L).1, (descT (bTb X L).1 1000000 (halfB kd pa nc L X)).1)) (show (0 : Nat) ≠ L + 1 by omega)
      · exact upT_ne (f := bTb X) (v := ((bTb X L).1, (descT (bTb X L).1 1000000 (halfB kd pa nc L X)).1)) (show (0 : Nat) ≠ L + 1 by omega)
    · exact upT_ne (f := bTb X) (v := ((bTb X L).1, halfB kd pa nc L X)) (show (0 : Nat) ≠ L + 1 by omega)
theorem step_tb0 {kd pa : Nat → Int} {nc L : Nat} {X : BX} : bTb (stepB kd pa nc L X) 0 = bTb X 0 := by
  unfold stepB
  split
  · rfl
  · split
    · rfl
    · rw [ent_tb0]
theorem run_tb0 {kd pa : Nat → Int} {nc : Nat} : ∀ (n : Nat) {X : BX}, bTb (runB kd pa nc n X) 0 = bTb X 0
  | 0, _ => rfl
  | n + 1, X => by
    show bTb (if bLv X < 0 then X else runB kd pa nc n (stepB kd pa nc (bLv X).toNat X)) 0 = _
    split
    · rfl
    · rw [run_tb0 n, step_tb0]
def bnd4 (b : BS4) : Prop := (0 < b.2.2.1 ∧ b.2.2.1 ≤ 8000000) ∧ (-200000000000 ≤ b.2.1 ∧ b.2.1 ≤ 200000000000) ∧ (∀ j, -200000000000 ≤ b.1 j ∧ b.1 j ≤ 200000000000)
theorem never_bst {nc : Nat} {co : Nat → Int} {F : (Nat → Int) → Prop} {b : BS4} (h : bnd4 b) : bstI nc co F (b.1, b.2.1, b.2.2.1, 1) := ⟨h.1, h.2.1, h.2.2, Or.inr (Or.inl rfl), fun q => absurd q (by show ¬ (1 : Int) = 0; decide), fun q => absurd q (by show ¬ (1 : Int) = 2; decide)⟩
theorem never_sem {nc : Nat} {co : Nat → Int} {F : (Nat → Int) → Prop} {b : BS4} (h : bnd4 b) (hF : ∀ y, ¬ F y) : semP nc co F (b.1, b.2.1, b.2.2.1, 1) := ⟨never_bst h, fun y hy => absurd hy (hF y)⟩
abbrev kdS (st : Bool) (kd : Nat → Int) : Nat → Int := if st = true then kd else fun _ => 0
theorem cols_kd0 {nc : Nat} {kd pa lo hi : Nat → Int} (h : colsOk nc kd pa lo hi) : colsOk nc (fun _ => 0) pa lo hi := by
  obtain ⟨p1, p2, p3, p4, p5, p6⟩ := h
  exact ⟨p1, fun _ => (by show (0 : Int) ≤ 0 ∧ (0 : Int) ≤ 2; omega), p3, p4, fun c _ hk => absurd (show (1 : Int) ≤ 0 from hk) (by decide), fun c _ hk => absurd (show (0 : Int) = 2 from hk) (by decide)⟩
theorem st_up {tb : Nat → Nat × TS} {v : Nat × TS} (h : staleT v.2) : staleT (upT tb 0 v 0).2 := by rw [upT_eq]; exact h
theorem spl_kd0 (pa : Nat → Int) (nc : Nat) (S : TS) : spZ (fun _ => 0) pa nc S < 0 := by
  show splitZ (fun _ => 0) pa (tLo S) (tCe S) (tBel S) (tFar S) nc < 0
  unfold splitZ
  have e1 : firstZ (spA (fun _ => 0) (tLo S) (tCe S) (tBel S)) nc = -1 := firstZ_none (fun j _ => by unfold spA; simp)
  have e2 : firstZ (spS (fun _ => 0) pa (tLo S) (tCe S) (tBel S) (tFar S) nc) nc = -1 := firstZ_none (fun j _ => by unfold spS; simp)
  rw [e1, if_neg (by decide), e2]; decide
theorem phi_cong {rk ct sa : Nat → Int} {nc n : Nat} {u v : Nat → Int} {y : Nat → Int} (h : ∀ r, r < n → ct r = 1 → (keptP (rk r) (sumZ (fun c => sa (r * 5 + c) * y (1 + c)) nc) (u r * y 0) ↔ keptP (rk r) (sumZ (fun c => sa (r * 5 + c) * y (1 + c)) nc) (v r * y 0))) : phiP rk ct sa nc u n y ↔ phiP rk ct sa nc v n y :=
  ⟨fun q r hr hc => (h r hr hc).mp (q r hr hc), fun q r hr hc => (h r hr hc).mpr (q r hr hc)⟩
/-- rows brought to steps let the same right plans through -/
theorem FP_steps {st : Bool} {kd pa lo hi rk nu ct sa : Nat → Int} {nc nr : Nat} {moved d : Int} (hR : rowsOk nr rk nu ct sa) (y : Nat → Int) :
    FP nc (kdS st kd) pa lo hi (phiP rk ct sa nc (fun r => inStepZ (rk r) (numZ nu moved d r) (dvZ st kd sa nc r)) nr) y ↔ FP nc (kdS st kd) pa lo hi (phiP rk ct sa nc (numZ nu moved d) nr) y := by
  have key : inBox nc lo hi y → rightP nc (kdS st kd) pa y → (phiP rk ct sa nc (fun r => inStepZ (rk r) (numZ nu moved d r) (dvZ st kd sa nc r)) nr y ↔ phiP rk ct sa nc (numZ nu moved d) nr y) := by
    intro hb hr
    refine phi_cong (fun r _ _ => ?_)
    show keptP (rk r) _ (inStepZ (rk r) (numZ nu moved d r) (dvZ st kd sa nc r) * y 0) ↔ _
    rcases (show dvZ st kd sa nc r ≤ 0 ∨ 0 < dvZ st kd sa nc r by omega) with q | q
    · have e : inStepZ (rk r) (numZ nu moved d r) (dvZ st kd sa nc r) = numZ nu moved d r := by unfold inStepZ; rw [if_pos (Or.inl q)]
      rw [e]
    · have hst : st = true := by
        rcases hs : st with _ | _
        · rw [hs] at q; simp [dvZ] at q
        · rfl
      have e1 : dvZ st kd sa nc r = divZ kd sa r nc := by unfold dvZ; rw [if_pos hst]
      have e2 : kdS st kd = kd := by unfold kdS; rw [if_pos hst]
      rw [e2] at hr
      rw [e1] at q ⊢
      obtain ⟨z, hz⟩ := sum_steps (pa := pa) hr q
      rw [hz, kept_mul hb.1, kept_mul hb.1]
      exact step_same q (hR.2.1 r)
  constructor
  · rintro ⟨h1, h2, h3⟩
    exact ⟨h1, (key h1 h3).mp h2, h3⟩
  · rintro ⟨h1, h2, h3⟩
    exact ⟨h1, (key h1 h3).mpr h2, h3⟩
theorem oos_none {st : Bool} {kd pa lo hi rk nu ct sa : Nat → Int} {nc nr : Nat} {moved d : Int} {r : Nat} (hr : r < nr) (ho : oosB st kd rk nu ct sa nc moved d r = true) (y : Nat → Int) : ¬ FP nc (kdS st kd) pa lo hi (phiP rk ct sa nc (numZ nu moved d) nr) y := by
  intro hy
  unfold oosB at ho
  obtain ⟨o1, o2, o3, o4⟩ := of_decide_eq_true ho
  have hst : st = true := by
    rcases hs : st with _ | _
    · rw [hs] at o3; simp [dvZ] at o3
    · rfl
  have e1 : dvZ st kd sa nc r = divZ kd sa r nc := by unfold dvZ; rw [if_pos hst]
  have e2 : kdS st kd = kd := by unfold kdS; rw [if_pos hst]
  rw [e2] at hy
  rw [e1] at o3 o4
  obtain ⟨z, hz⟩ := sum_steps (pa := pa) hy.2.2 o3
  have hk := hy.2.1 r hr o1
  rw [hz, kept_mul hy.1.1, o2] at hk
  have hk2 : z * divZ kd sa r nc = numZ nu moved d r := by
    unfold keptP at hk; omega
  apply o4
  rw [← hk2, Int.mul_tmod_left]
theorem acc_sem {kd pa lo hi co : Nat → Int} {Φ : (Nat → Int) → Prop} {nc : Nat} (hP : colsOk nc kd pa lo hi) {S : TS} (hN : NI True nc co kd lo hi Φ S) (hl : dcLn S < 0) (hf : ∀ c, c < nc → tLo S c = lo c ∧ tHi S c = hi c ∧ tTi S (1 + c) = 1) : semP nc co (FP nc (fun _ => 0) pa lo hi Φ) (accB (nc, S)) := by
  have hN0 : NI True nc co (fun _ => 0) lo hi Φ S := hN
  refine ⟨acc_bst (cols_kd0 hP) hN0 hl (spl_kd0 pa nc S), fun y hy => ?_⟩
  obtain ⟨⟨W, B, s, w1, w2, w3⟩, -⟩ := hN
  have hreg : regP nc Φ S y := by
    refine ⟨hy.1.1, fun c hc => ?_, hy.2.1⟩
    obtain ⟨e1, e2, e3⟩ := hf c hc
    rw [e1, e2, e3]
    exact ⟨(hy.1.2 c hc).1, fun q => by omega, (hy.1.2 c hc).2⟩
  rcases w1.2.2.2.2.2.2.2.1 with z | ⟨f, z1, z2, z3⟩
  · right
    refine ⟨by show (if 0 ≤ tFar S then (2 : Int) else 0) = 0; rw [if_neg (by omega)], ?_⟩
    rw [bp_acc]
    exact corner_leq w1 trivial w3 z y ((st_feas w1 w2 y).mpr hreg)
  · left
    show (if 0 ≤ tFar S then (2 : Int) else 0) = 2
    rw [if_pos (by omega)]
theorem run_sem {st : Bool} {kd pa lo hi co rk nu ct sa : Nat → Int} {nc nr : Nat} {moved d : Int} {X : BX} (hP : colsOk nc kd pa lo hi) (hco : ∀ j, -9 ≤ co j ∧ co j ≤ 9) (hR : rowsOk nr rk nu ct sa) (hd : -99 ≤ d ∧ d ≤ 99) (hS : staleT (bTb X 0).2) (hb : bnd4 (bBs X)) :
    semP nc co (FP nc (kdS st kd) pa lo hi (phiP rk ct sa nc (numZ nu moved d) nr)) (bBs (runT kd pa lo hi co rk nu ct sa nc nr moved d st X)) ∧ staleT (bTb (runT kd pa lo hi co rk nu ct sa nc nr moved d st X) 0).2 := by
  have h18 : ∀ n, n ≤ nr → nc + 1 + nc + n ≤ 18 := by
    intro n hn
    have := hP.1
    have := hR.1
    omega
  unfold runT
  by_cases ho : 0 ≤ firstZ (oosB st kd rk nu ct sa nc moved d) nr
  · rw [if_pos ho]
    obtain ⟨r, hr⟩ : ∃ r : Nat, firstZ (oosB st kd rk nu ct sa nc moved d) nr = (r : Int) := ⟨(firstZ (oosB st kd rk nu ct sa nc moved d) nr).toNat, by omega⟩
    obtain ⟨q1, q2, -⟩ := firstZ_is hr
    refine ⟨never_sem hb (fun y => oos_none q1 q2 y), ?_⟩
    refine st_up (tb := bTb X) (v := (nc, layT st kd rk nu ct sa nc moved d (beginT nc co lo hi (bTb X 0).2) (firstZ (oosB st kd rk nu ct sa nc moved d) nr).toNat)) ?_
    rw [hr, Int.toNat_natCast]
    obtain ⟨W, hW, hl⟩ := lay_ok (st := st) (moved := moved) hP hco hR hd hS r (by omega)
    exact rw_stale hP.1 hP.2.2.1 hP.2.2.2.1 hW (Nat.le_trans hl (h18 r (by omega)))
  · rw [if_neg ho]
    obtain ⟨n1, n2⟩ := root_ok (st := st) (moved := moved) hP hco hR hd hS
    obtain ⟨d1, d2, d3, d4⟩ := NI_desc n1
    have hst : staleT (descT nc 1000000 (reachT nc (layT st kd rk nu ct sa nc moved d (beginT nc co lo hi (bTb X 0).2) nr))).1 := by
      obtain ⟨⟨W, B, s, k1, -⟩, k2, -⟩ := d1
      exact tab_stale k1 k2
    have hf : ∀ c, c < nc → tLo (descT nc 1000000 (reachT nc (layT st kd rk nu ct sa nc moved d (beginT nc co lo hi (bTb X 0).2) nr))).1 c = lo c ∧ tHi (descT nc 1000000 (reachT nc (layT st kd rk nu ct sa nc moved d (beginT nc co lo hi (bTb X 0).2) nr))).1 c = hi c ∧ tTi (descT nc 1000000 (reachT nc (layT st kd rk nu ct sa nc moved d (beginT nc co lo hi (bTb X 0).2) nr))).1 (1 + c) = 1 := by
      intro c hc
      rw [d2.1, d2.2.2.1, d2.2.2.2.1]
      exact n2 c hc
    by_cases hd2 : (descT nc 1000000 (reachT nc (layT st kd rk nu ct sa nc moved d (beginT nc co lo hi (bTb X 0).2) nr))).2 = true
    · rw [if_pos hd2]
      rcases hs : st with _ | _
      · subst hs
        rw [if_neg (by decide)]
        refine ⟨sem_iff (fun y => FP_steps hR y) ?_, ?_⟩
        · have e : kdS false kd = fun _ => 0 := by unfold kdS; rw [if_neg (by decide)]
          rw [e]
          exact acc_sem hP d1 (d3 hd2) hf
        · exact st_up (tb := bTb X) (v := (nc, (descT nc 1000000 (reachT nc (layT false kd rk nu ct sa nc moved d (beginT nc co lo hi (bTb X 0).2) nr))).1)) hst
      · subst hs
        rw [if_pos rfl]
        refine ⟨sem_iff (fun y => FP_steps hR y) ?_, ?_⟩
        · have e : kdS true kd = kd := by unfold kdS; rw [if_pos rfl]
          rw [e]
          exact BI_end hP 1000000 (BI_root hP d1 (d3 hd2) hf (tb := upT (bTb X) 0 (nc, (descT nc 1000000 (reachT nc (layT true kd rk nu ct sa nc moved d (beginT nc co lo hi (bTb X 0).2) nr))).1)) upT_eq up_same (never_bst hb))
        · rw [run_tb0]
          exact st_up (tb := bTb X) (v := (nc, (descT nc 1000000 (reachT nc (layT true kd rk nu ct sa nc moved d (beginT nc co lo hi (bTb X 0).2) nr))).1)) hst
    · rw [if_neg hd2]
      have hd3 : (descT nc 1000000 (reachT nc (layT st kd rk nu ct sa nc moved d (beginT nc co lo hi (bTb X 0).2) nr))).2 = false := by simpa using hd2
      refine ⟨never_sem hb (fun y hy => ?_), ?_⟩
      · have hy2 := (FP_steps hR y).mpr hy
        refine d4 hd3 trivial y ⟨hy.1.1, fun c hc => ?_, hy2.2.1⟩
        obtain ⟨e1, e2, e3⟩ := n2 c hc
        rw [e1, e2, e3]
        exact ⟨(hy.1.2 c hc).1, fun q => by omega, (hy.1.2 c hc).2⟩
      · exact st_up (tb := bTb X) (v := (nc, (descT nc 1000000 (reachT nc (layT st kd rk nu ct sa nc moved d (beginT nc co lo hi (bTb X 0).2) nr))).1)) hst
