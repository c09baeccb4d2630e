-- ===== the program's data, call by call =====
def prI (kd lo hi co pa rk nu ct sa : Nat → Int) (nc nr : Nat) : Prop := colsOk nc kd pa lo hi ∧ rowsOk nr rk nu ct sa ∧ (∀ j, -9 ≤ co j ∧ co j ≤ 9) ∧ (∀ j, pa j = -2000000005 ∨ (0 ≤ pa j ∧ pa j < 5)) ∧ (∀ c, c < nc → pa c = -2000000005 ∨ (0 ≤ pa c ∧ pa c < (nc : Int))) ∧ (∀ c, c < nc → hi c ≠ NONEz → lo c ≤ hi c) ∧ (∀ r c, c < 5 → (nr ≤ r ∨ nc ≤ c) → sa (r * 5 + c) = 0) ∧ (∀ c, nc ≤ c → co c = 0)
theorem up_all {f : Nat → Int} {P : Int → Prop} {k : Nat} {v : Int} (h : ∀ j, P (f j)) (hv : P v) : ∀ j, P (va_up f k v j) := fun j => by
  by_cases e : j = k
  · subst e; rw [up_same]; exact hv
  · rw [up_ne e]; exact h j
theorem pr_0 : prI (fun _ => 0) (fun _ => 0) (fun _ => 0) (fun _ => 0) (fun _ => 0) (fun _ => 0) (fun _ => 0) (fun _ => 0) (fun _ => 0) 0 0 :=
  ⟨⟨by decide, fun _ => by show (0 : Int) ≤ 0 ∧ (0 : Int) ≤ 2; decide, fun _ => by show (-20 : Int) ≤ 0 ∧ (0 : Int) ≤ 20; decide, fun _ => Or.inr (by show (-20 : Int) ≤ 0 ∧ (0 : Int) ≤ 20; decide), fun c hc => absurd hc (Nat.not_lt_zero c), fun c hc => absurd hc (Nat.not_lt_zero c)⟩,
   ⟨by decide, fun _ => by show (0 : Int) ≤ 0 ∧ (0 : Int) ≤ 2; decide, fun _ => by show (-99 : Int) ≤ 0 ∧ (0 : Int) ≤ 99; decide, fun _ => by show (-9 : Int) ≤ 0 ∧ (0 : Int) ≤ 9; decide, fun _ => by show (0 : Int) ≤ 0 ∧ (0 : Int) ≤ 1; decide⟩,
   fun _ => by show (-9 : Int) ≤ 0 ∧ (0 : Int) ≤ 9; decide, fun _ => Or.inr (by show (0 : Int) ≤ 0 ∧ (0 : Int) < 5; decide), fun c hc => absurd hc (Nat.not_lt_zero c), fun c hc => absurd hc (Nat.not_lt_zero c), fun _ _ _ _ => rfl, fun _ _ => rfl⟩
theorem pr_cost {kd lo hi co pa rk nu ct sa : Nat → Int} {nc nr : Nat} {v : Int} {c : Nat} (h : prI kd lo hi co pa rk nu ct sa nc nr) (hc : c < nc) (hv : -9 ≤ v ∧ v ≤ 9) : prI kd lo hi (va_up co c v) pa rk nu ct sa nc nr := by
  obtain ⟨a1, a2, a3, a4, a5, a6, a7, a8⟩ := h
  exact ⟨a1, a2, up_all (P := fun z => -9 ≤ z ∧ z ≤ 9) a3 hv, a4, a5, a6, a7, fun j hj => by rw [up_ne (by omega)]; exact a8 j hj⟩
theorem pr_number {kd lo hi co pa rk nu ct sa : Nat → Int} {nc nr : Nat} {v : Int} {c : Nat} (h : prI kd lo hi co pa rk nu ct sa nc nr) (hv : -99 ≤ v ∧ v ≤ 99) : prI kd lo hi co pa rk (va_up nu c v) ct sa nc nr := by
  obtain ⟨a1, ⟨b1, b2, b3, b4, b5⟩, a3, a4, a5, a6, a7, a8⟩ := h
  exact ⟨a1, ⟨b1, b2, up_all (P := fun z => -99 ≤ z ∧ z ≤ 99) b3 hv, b4, b5⟩, a3, a4, a5, a6, a7, a8⟩
theorem pr_counts {kd lo hi co pa rk nu ct sa : Nat → Int} {nc nr : Nat} {v : Int} {c : Nat} (h : prI kd lo hi co pa rk nu ct sa nc nr) (hv : v = 0 ∨ v = 1) : prI kd lo hi co pa rk nu (va_up ct c v) sa nc nr := by
  obtain ⟨a1, ⟨b1, b2, b3, b4, b5⟩, a3, a4, a5, a6, a7, a8⟩ := h
  exact ⟨a1, ⟨b1, b2, b3, b4, up_all (P := fun z => 0 ≤ z ∧ z ≤ 1) b5 (by omega)⟩, a3, a4, a5, a6, a7, a8⟩
theorem pr_share {kd lo hi co pa rk nu ct sa : Nat → Int} {nc nr : Nat} {v : Int} {r c : Nat} (h : prI kd lo hi co pa rk nu ct sa nc nr) (hr : r < nr) (hc : c < nc) (hv : -9 ≤ v ∧ v ≤ 9) : prI kd lo hi co pa rk nu ct (va_up sa (r * 5 + c) v) nc nr := by
  obtain ⟨a1, ⟨b1, b2, b3, b4, b5⟩, a3, a4, a5, a6, a7, a8⟩ := h
  have hnc := a1.1
  exact ⟨a1, ⟨b1, b2, b3, up_all (P := fun z => -9 ≤ z ∧ z ≤ 9) b4 hv, b5⟩, a3, a4, a5, a6, fun r' c' h1 h2 => by rw [up_ne (by omega)]; exact a7 r' c' h1 h2, a8⟩
theorem pr_row {kd lo hi co pa rk nu ct sa : Nat → Int} {nc nr : Nat} {k v : Int} (h : prI kd lo hi co pa rk nu ct sa nc nr) (hn : nr < 7) (hk : 0 ≤ k ∧ k ≤ 2) (hv : -99 ≤ v ∧ v ≤ 99) : prI kd lo hi co pa (va_up rk nr k) (va_up nu nr v) (va_up ct nr 1) sa nc (nr + 1) := by
  obtain ⟨a1, ⟨b1, b2, b3, b4, b5⟩, a3, a4, a5, a6, a7, a8⟩ := h
  exact ⟨a1, ⟨by omega, up_all (P := fun z => 0 ≤ z ∧ z ≤ 2) b2 hk, up_all (P := fun z => -99 ≤ z ∧ z ≤ 99) b3 hv, b4, up_all (P := fun z => 0 ≤ z ∧ z ≤ 1) b5 (by decide)⟩, a3, a4, a5, a6, fun r' c' h1 h2 => a7 r' c' h1 (by omega), a8⟩
theorem pr_partner {kd lo hi co pa rk nu ct sa : Nat → Int} {nc nr : Nat} {v : Int} {c : Nat} (h : prI kd lo hi co pa rk nu ct sa nc nr) (hc : c < nc) (hne : ¬ v = (c : Int)) (hv : v = -2000000005 ∨ (0 ≤ v ∧ v < (nc : Int))) : prI kd lo hi co (va_up pa c v) rk nu ct sa nc nr := by
  obtain ⟨⟨c1, c2, c3, c4, c5, c6⟩, a2, a3, a4, a5, a6, a7, a8⟩ := h
  refine ⟨⟨c1, c2, c3, c4, c5, fun j hj hk => ?_⟩, a2, a3, up_all (P := fun z => z = -2000000005 ∨ (0 ≤ z ∧ z < 5)) a4 (by omega), fun j hj => ?_, a6, a7, a8⟩
  · obtain ⟨d1, d2, d3⟩ := c6 j hj hk
    refine ⟨d1, d2, ?_⟩
    by_cases e : j = c
    · subst e; rw [up_same]; exact hne
    · rw [up_ne e]; exact d3
  · by_cases e : j = c
    · subst e; rw [up_same]; exact hv
    · rw [up_ne e]; exact a5 j hj
theorem pr_bnd {kd lo hi co pa rk nu ct sa : Nat → Int} {nc nr : Nat} {v w : Int} {c : Nat} (h : prI kd lo hi co pa rk nu ct sa nc nr) (hc : c < nc) (hk : ¬ kd c = 2) (hf : fitsP (kd c) v w) : prI kd (va_up lo c v) (va_up hi c w) co pa rk nu ct sa nc nr := by
  obtain ⟨⟨c1, c2, c3, c4, c5, c6⟩, a2, a3, a4, a5, a6, a7, a8⟩ := h
  have hk2 := c2 c
  unfold fitsP at hf
  have hN : ∀ z : Int, z ≠ NONEz ↔ ¬ z = -2000000005 := fun z => Iff.rfl
  refine ⟨⟨c1, c2, up_all (P := fun z => -20 ≤ z ∧ z ≤ 20) c3 (by omega), up_all (P := fun z => z = NONEz ∨ (-20 ≤ z ∧ z ≤ 20)) c4 (by
    rcases hf with z | ⟨z1, z2, z3 | z3⟩
    · omega
    · exact Or.inl z3.1
    · exact Or.inr (by omega)), fun j hj hkj => ?_, fun j hj hkj => ?_⟩, a2, a3, a4, a5, fun j hj hne => ?_, a7, a8⟩
  · by_cases e : j = c
    · subst e; rw [up_same, up_same, hN]; omega
    · rw [up_ne e, up_ne e]; exact c5 j hj hkj
  · by_cases e : j = c
    · subst e; exact absurd hkj hk
    · rw [up_ne e, up_ne e]; exact c6 j hj hkj
  · by_cases e : j = c
    · subst e; rw [up_same] at hne ⊢; rw [up_same]; have h9 := (hN w).mp hne; omega
    · rw [up_ne e] at hne ⊢; rw [up_ne e]; exact a6 j hj hne
theorem pr_column {kd lo hi co pa rk nu ct sa : Nat → Int} {nc nr : Nat} {k v w : Int} (h : prI kd lo hi co pa rk nu ct sa nc nr) (hn : nc < 5) (hk : 0 ≤ k ∧ k ≤ 2) (hf : fitsP k v w) : prI (va_up kd nc k) (va_up lo nc (if k = 2 then 0 else v)) (va_up hi nc (if k = 2 then 1 else w)) co (va_up pa nc (-2000000005)) rk nu ct sa (nc + 1) nr := by
  obtain ⟨⟨c1, c2, c3, c4, c5, c6⟩, a2, a3, a4, a5, a6, a7, a8⟩ := h
  unfold fitsP at hf
  have hN : ∀ z : Int, z ≠ NONEz ↔ ¬ z = -2000000005 := fun z => Iff.rfl
  have hN2 : ∀ z : Int, z = NONEz ↔ z = -2000000005 := fun z => Iff.rfl
  refine ⟨⟨by omega, up_all (P := fun z => 0 ≤ z ∧ z ≤ 2) c2 hk, up_all (P := fun z => -20 ≤ z ∧ z ≤ 20) c3 (by split <;> omega), up_all (P := fun z => z = NONEz ∨ (-20 ≤ z ∧ z ≤ 20)) c4 (by rw [hN2]; split <;> omega), fun j hj hkj => ?_, fun j hj hkj => ?_⟩, a2, a3, up_all (P := fun z => z = -2000000005 ∨ (0 ≤ z ∧ z < 5)) a4 (Or.inl rfl), fun j hj => ?_, fun j hj hne => ?_, fun r c h1 h2 => a7 r c h1 (by omega), fun j hj => a8 j (by omega)⟩
  · by_cases e : j = nc
    · subst e; rw [up_same] at hkj; rw [up_same, up_same, hN]; split <;> omega
    · rw [up_ne e] at hkj; rw [up_ne e, up_ne e]; exact c5 j (by omega) hkj
  · by_cases e : j = nc
    · subst e; rw [up_same] at hkj; rw [up_same, up_same, up_same, if_pos hkj, if_pos hkj]; exact ⟨rfl, rfl, by omega⟩
    · rw [up_ne e] at hkj; rw [up_ne e, up_ne e, up_ne e]; exact c6 j (by omega) hkj
  · by_cases e : j = nc
    · subst e; rw [up_same]; exact Or.inl rfl
    · rw [up_ne e]; have := a5 j (by omega); omega
  · by_cases e : j = nc
    · subst e; rw [up_same] at hne ⊢; rw [up_same]; rw [hN] at hne; split at hne <;> split <;> omega
    · rw [up_ne e] at hne ⊢; rw [up_ne e]; exact a6 j (by omega) hne
-- ===== the law's state =====
def seC (X : BX) (k : Nat) (ad : Nat → Nat → Nat) (tbf : Nat → Option Nat) : Prop := staleT (bTb X 0).2 ∧ bnd4 (bBs X) ∧ (0 ≤ (bBs X).2.2.2 ∧ (bBs X).2.2.2 ≤ 3) ∧ k ≤ 51 ∧ (∀ j, j < k → tbf j = some (ad j 0)) ∧ (∀ j, k ≤ j → j < 51 → tbf j = none) ∧ (k = 0 → bTb X 0 = (0, zT))
def hdI (pl pr : Nat → Int) (pu qu : Int) : Prop := (∀ j, -200000000000 ≤ pl j ∧ pl j ≤ 200000000000) ∧ (0 < pu ∧ pu ≤ 8000000) ∧ (∀ j, -1000000 ≤ pr j ∧ pr j ≤ 1000000) ∧ (1 ≤ qu ∧ qu ≤ 1000000)
def lwI (kd lo hi co pa rk nu ct sa : Nat → Int) (nc nr : Nat) (X : BX) (k : Nat) (ad : Nat → Nat → Nat) (tbf : Nat → Option Nat) (qc : Nat → Int) (S : TS) (pl pr : Nat → Int) (pu qu ke bu bc : Int) (be : Nat → Int) : Prop :=
  prI kd lo hi co pa rk nu ct sa nc nr ∧ seC X k ad tbf ∧ (staleT S ∧ ∀ n, qc n = 0 ∨ qc n = 1) ∧ hdI pl pr pu qu ∧ (bnd4 (be, bc, bu, ke) ∧ -1 ≤ ke ∧ ke ≤ 2) ∧ relB (bBs X) be bc bu ke
theorem FP_pos {nc : Nat} {kd pa lo hi : Nat → Int} {Φ : (Nat → Int) → Prop} : ∀ y, FP nc kd pa lo hi Φ y → 0 < y 0 := fun y h => h.1.1
/-- both have solved the same program -/
theorem sol_step {kd lo hi co pa rk nu ct sa : Nat → Int} {nc nr : Nat} {X : BX} {k0 k : Nat} {ad0 ad : Nat → Nat → Nat} {tb0 tbf : Nat → Option Nat} {qc : Nat → Int} {S : TS} {pl pr : Nat → Int} {pu qu ke0 bu0 bc0 ke bu bc moved d : Int} {be0 be : Nat → Int} {st : Bool} (h : lwI kd lo hi co pa rk nu ct sa nc nr X k0 ad0 tb0 qc S pl pr pu qu ke0 bu0 bc0 be0) (hd : -99 ≤ d ∧ d ≤ 99)
    (hk : 1 ≤ k ∧ k ≤ 51) (ht1 : ∀ j, j < k → tbf j = some (ad j 0)) (ht2 : ∀ j, k ≤ j → j < 51 → tbf j = none)
    (hs : semP nc co (FP nc (kdS st kd) pa lo hi (phiP rk ct sa nc (numZ nu moved d) nr)) (be, bc, bu, ke)) (ht : ∀ j, nc ≤ j → be j = 0) :
    (bBs (runT kd pa lo hi co rk nu ct sa nc nr moved d st X)).2.2.2 = ke ∧ lwI kd lo hi co pa rk nu ct sa nc nr (runT kd pa lo hi co rk nu ct sa nc nr moved d st X) k ad tbf qc S pl pr pu qu ke bu bc be := by
  obtain ⟨h1, ⟨g1, g2, g3, g4, g5, g6, g7⟩, h3, h4, h5, h6⟩ := h
  obtain ⟨r1, r2⟩ := run_sem (st := st) (moved := moved) (d := d) h1.1 h1.2.2.1 h1.2.1 hd g1 g2
  obtain ⟨e1, e2⟩ := sol_rel h1.1.1 FP_pos r1 hs run_tail ht
  have b1 := r1.1
  have b2 := hs.1
  have o1 := b2.2.2.2.1
  refine ⟨e1, h1, ⟨r2, ⟨b1.1, b1.2.1, b1.2.2.1⟩, ?_, hk.2, ht1, ht2, fun z => by omega⟩, h3, h4, ⟨⟨b2.1, b2.2.1, b2.2.2.1⟩, ?_⟩, e2⟩
  · have := b1.2.2.2.1
    omega
  · have h9 : ke = 0 ∨ ke = 1 ∨ ke = 2 := o1
    omega
