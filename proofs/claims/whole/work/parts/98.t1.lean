-- ===== fractions that are the same =====
theorem low_prop {a b a' b' q : Int} (hb : 0 < b) (hb' : 0 < b') (h : a * b' = a' * b) : lowZ a b q = lowZ a' b' q := by
  have hg : 0 < Int.gcd a b := gcd_pos_of a (show b ≠ 0 by omega)
  have hg' : 0 < Int.gcd a' b' := gcd_pos_of a' (show b' ≠ 0 by omega)
  have e1 : Int.gcd (a * b') (b * b') = Int.gcd a b * b'.natAbs := Int.gcd_mul_right a b' b
  have e2 : Int.gcd (a' * b) (b' * b) = Int.gcd a' b' * b.natAbs := Int.gcd_mul_right a' b b'
  have e3 : Int.gcd a b * b'.natAbs = Int.gcd a' b' * b.natAbs := by rw [← e1, ← e2, h, Int.mul_comm b b']
  have e4 : ((Int.gcd a b : Nat) : Int) * b' = ((Int.gcd a' b' : Nat) : Int) * b := by
    have := congrArg (fun z : Nat => (z : Int)) e3
    simp only [Int.natCast_mul] at this
    rw [show ((b'.natAbs : Nat) : Int) = b' by omega, show ((b.natAbs : Nat) : Int) = b by omega] at this
    exact this
  obtain ⟨x, hx⟩ : ((Int.gcd a b : Nat) : Int) ∣ a := Int.gcd_dvd_left _ _
  obtain ⟨y, hy⟩ : ((Int.gcd a b : Nat) : Int) ∣ b := Int.gcd_dvd_right _ _
  obtain ⟨x', hx'⟩ : ((Int.gcd a' b' : Nat) : Int) ∣ a' := Int.gcd_dvd_left _ _
  obtain ⟨y', hy'⟩ : ((Int.gcd a' b' : Nat) : Int) ∣ b' := Int.gcd_dvd_right _ _
  obtain ⟨g, hG⟩ : ∃ g : Int, g = ((Int.gcd a b : Nat) : Int) := ⟨_, rfl⟩
  obtain ⟨g', hG'⟩ : ∃ g' : Int, g' = ((Int.gcd a' b' : Nat) : Int) := ⟨_, rfl⟩
  have gp : 0 < g := by omega
  have gp' : 0 < g' := by omega
  rw [← hG] at hx hy e4
  rw [← hG'] at hx' hy' e4
  have ey : y = y' := by
    have h1 : g * g' * y' = g * g' * y := by
      rw [Int.mul_assoc, ← hy', e4, hy, ← Int.mul_assoc, Int.mul_comm g' g]
    exact (Int.eq_of_mul_eq_mul_left (Int.ne_of_gt (Int.mul_pos gp gp')) h1).symm
  have ex : x = x' := by
    have yp : y ≠ 0 := fun z => by rw [z, Int.mul_zero] at hy; omega
    have h1 : g * g' * y * x = g * g' * y * x' := by
      have h2 : g * x * (g' * y) = g' * x' * (g * y) := by
        have h3 := h
        rw [hx, hx'] at h3
        rw [show g' * y = b' by rw [hy', ey], show g * y = b by rw [hy]]
        exact h3
      grind
    exact Int.eq_of_mul_eq_mul_left (by
      intro z
      rcases Int.mul_eq_zero.mp z with z | z
      · rcases Int.mul_eq_zero.mp z with z | z <;> omega
      · exact yp z) h1
  have d1 : Int.tdiv a ((Int.gcd a b : Nat) : Int) = x := by
    rw [← hG]
    have h1 : Int.tdiv (g * x) g = x := Int.mul_tdiv_cancel_left x (by omega)
    rw [← hx] at h1; exact h1
  have d2 : Int.tdiv b ((Int.gcd a b : Nat) : Int) = y := by
    rw [← hG]
    have h1 : Int.tdiv (g * y) g = y := Int.mul_tdiv_cancel_left y (by omega)
    rw [← hy] at h1; exact h1
  have d3 : Int.tdiv a' ((Int.gcd a' b' : Nat) : Int) = x' := by
    rw [← hG']
    have h1 : Int.tdiv (g' * x') g' = x' := Int.mul_tdiv_cancel_left x' (by omega)
    rw [← hx'] at h1; exact h1
  have d4 : Int.tdiv b' ((Int.gcd a' b' : Nat) : Int) = y' := by
    rw [← hG']
    have h1 : Int.tdiv (g' * y') g' = y' := Int.mul_tdiv_cancel_left y' (by omega)
    rw [← hy'] at h1; exact h1
  unfold lowZ
  rw [if_neg (show ¬ Int.gcd a b = 0 by omega), if_neg (show ¬ Int.gcd a' b' = 0 by omega), d1, d2, d3, d4, ex, ey]
theorem gb_prop {v w : Nat → Int} {u t : Int} (hu : 0 < u) (ht : 0 < t) : ∀ n, (∀ c, c < n → v c * t = w c * u) → ((gbZ v u n : Nat) : Int) * t = ((gbZ w t n : Nat) : Int) * u
  | 0, _ => by
    show ((u.natAbs : Nat) : Int) * t = ((t.natAbs : Nat) : Int) * u
    rw [show ((u.natAbs : Nat) : Int) = u by omega, show ((t.natAbs : Nat) : Int) = t by omega, Int.mul_comm]
  | n + 1, h => by
    have ih := gb_prop hu ht n (fun c hc => h c (by omega))
    have e1 : Int.gcd ((gbZ v u n : Int) * t) (v n * t) = Int.gcd (gbZ v u n : Int) (v n) * t.natAbs := Int.gcd_mul_right _ t _
    have e2 : Int.gcd ((gbZ w t n : Int) * u) (w n * u) = Int.gcd (gbZ w t n : Int) (w n) * u.natAbs := Int.gcd_mul_right _ u _
    have e3 : Int.gcd (gbZ v u n : Int) (v n) * t.natAbs = Int.gcd (gbZ w t n : Int) (w n) * u.natAbs := by rw [← e1, ← e2, ih, h n (by omega)]
    have := congrArg (fun z : Nat => (z : Int)) e3
    simp only [Int.natCast_mul] at this
    rw [show ((t.natAbs : Nat) : Int) = t by omega, show ((u.natAbs : Nat) : Int) = u by omega] at this
    exact this
theorem gr_prop {v w : Nat → Int} {u t : Int} (hu : 0 < u) (ht : 0 < t) (h : ∀ c, v c * t = w c * u) : (∀ c, c < 5 → grV v u c = grV w t c) ∧ Int.tdiv u ((gbZ v u 5 : Nat) : Int) = Int.tdiv t ((gbZ w t 5 : Nat) : Int) := by
  have e4 := gb_prop hu ht 5 (fun c _ => h c)
  have hp := gbZ_pos (va := v) hu 5
  have hp' := gbZ_pos (va := w) ht 5
  obtain ⟨y, hy⟩ : ((gbZ v u 5 : Nat) : Int) ∣ u := gb_dvdu 5
  obtain ⟨y', hy'⟩ : ((gbZ w t 5 : Nat) : Int) ∣ t := gb_dvdu 5
  obtain ⟨g, hG⟩ : ∃ g : Int, g = ((gbZ v u 5 : Nat) : Int) := ⟨_, rfl⟩
  obtain ⟨g', hG'⟩ : ∃ g' : Int, g' = ((gbZ w t 5 : Nat) : Int) := ⟨_, rfl⟩
  have gp : 0 < g := by omega
  have gp' : 0 < g' := by omega
  rw [← hG] at hy e4
  rw [← hG'] at hy' e4
  have ey : y = y' := by
    have h1 : g * g' * y' = g * g' * y := by
      rw [Int.mul_assoc, ← hy', e4, hy, ← Int.mul_assoc, Int.mul_comm g' g]
    exact (Int.eq_of_mul_eq_mul_left (Int.ne_of_gt (Int.mul_pos gp gp')) h1).symm
  have yp : y ≠ 0 := fun z => by rw [z, Int.mul_zero] at hy; omega
  refine ⟨fun c hc => ?_, ?_⟩
  · obtain ⟨x, hx⟩ : ((gbZ v u 5 : Nat) : Int) ∣ v c := gb_dvd hc
    obtain ⟨x', hx'⟩ : ((gbZ w t 5 : Nat) : Int) ∣ w c := gb_dvd hc
    rw [← hG] at hx
    rw [← hG'] at hx'
    have ex : x = x' := by
      have h1 : g * g' * y * x = g * g' * y * x' := by
        have h2 : g * x * (g' * y) = g' * x' * (g * y) := by
          have h3 := h c
          rw [hx, hx'] at h3
          rw [show g' * y = t by rw [hy', ey], show g * y = u by rw [hy]]
          exact h3
        grind
      exact Int.eq_of_mul_eq_mul_left (by
        intro z
        rcases Int.mul_eq_zero.mp z with z | z
        · rcases Int.mul_eq_zero.mp z with z | z <;> omega
        · exact yp z) h1
    unfold grV
    rw [← hG, ← hG']
    have h1 : Int.tdiv (g * x) g = x := Int.mul_tdiv_cancel_left x (by omega)
    have h2 : Int.tdiv (g' * x') g' = x' := Int.mul_tdiv_cancel_left x' (by omega)
    rw [← hx] at h1
    rw [← hx'] at h2
    rw [h1, h2, ex]
  · rw [← hG, ← hG']
    have h1 : Int.tdiv (g * y) g = y := Int.mul_tdiv_cancel_left y (by omega)
    have h2 : Int.tdiv (g' * y') g' = y' := Int.mul_tdiv_cancel_left y' (by omega)
    rw [← hy] at h1
    rw [← hy'] at h2
    rw [h1, h2, ey]
theorem gr_bnd {v : Nat → Int} {u : Int} (hu : 0 < u ∧ u ≤ 8000000) (hv : ∀ j, -200000000000 ≤ v j ∧ v j ≤ 200000000000) : (∀ j, -200000000000 ≤ grV v u j ∧ grV v u j ≤ 200000000000) ∧ 0 < Int.tdiv u ((gbZ v u 5 : Nat) : Int) ∧ Int.tdiv u ((gbZ v u 5 : Nat) : Int) ≤ 8000000 := by
  have hp := gbZ_pos (va := v) hu.1 5
  refine ⟨fun j => ?_, ?_⟩
  · have e : (grV v u j).natAbs ≤ (v j).natAbs := by unfold grV; rw [Int.natAbs_tdiv]; exact Nat.div_le_self _ _
    have := hv j
    omega
  · obtain ⟨y, hy⟩ : ((gbZ v u 5 : Nat) : Int) ∣ u := gb_dvdu 5
    have h1 : Int.tdiv (((gbZ v u 5 : Nat) : Int) * y) ((gbZ v u 5 : Nat) : Int) = y := Int.mul_tdiv_cancel_left y (by omega)
    rw [← hy] at h1
    have e : (Int.tdiv u ((gbZ v u 5 : Nat) : Int)).natAbs ≤ u.natAbs := by rw [Int.natAbs_tdiv]; exact Nat.div_le_self _ _
    rw [h1] at e ⊢
    have yp : 0 < y := by
      rcases Int.lt_trichotomy y 0 with z | z | z
      · have := Int.mul_neg_of_pos_of_neg (show 0 < ((gbZ v u 5 : Nat) : Int) by omega) z
        omega
      · rw [z, Int.mul_zero] at hy; omega
      · exact z
    omega
-- ===== what lies beyond the columns =====
def tlI (nc : Nat) (X : BX) : Prop := (∀ j : Nat, (j : Int) ≤ bLv X → (bTb X j).1 = nc) ∧ ((bBs X).2.2.2 = 0 → ∀ j, nc ≤ j → (bBs X).1 j = 0)
theorem acc_tail {T : Nat × TS} {nc : Nat} (h : T.1 = nc) : ∀ j, nc ≤ j → (accB T).1 j = 0 := fun j hj => by
  show accV T.1 _ _ _ j = 0
  unfold accV
  rw [if_neg (by omega)]
theorem ent_tail {kd pa : Nat → Int} {nc L : Nat} {X : BX} (h1 : ∀ j : Nat, j ≤ L → (bTb X j).1 = nc) (h2 : (bBs X).2.2.2 = 0 → ∀ j, nc ≤ j → (bBs X).1 j = 0) : tlI nc (entB kd pa nc L X) := by
  have hL := h1 L (Nat.le_refl L)
  have hup : ∀ (v : TS) (j : Nat), j ≤ L + 1 → (upT (bTb X) (L + 1) ((bTb X L).1, v) j).1 = nc := fun v j hj => by
    by_cases e : j = L + 1
    · rw [e, upT_eq]; exact hL
    · rw [upT_ne e]; exact h1 j (by omega)
  unfold entB
  split
  · exact ⟨fun j hj => h1 j (by have : (j : Int) ≤ (L : Int) := hj; omega), h2⟩
  · split
    · split
      · exact ⟨fun j hj => hup _ j (by have : (j : Int) ≤ (L : Int) + 1 := hj; omega), h2⟩
      · exact ⟨fun j hj => hup _ j (by have : (j : Int) ≤ (L : Int) := hj; omega), h2⟩
    · exact ⟨fun j hj => hup _ j (by have : (j : Int) ≤ (L : Int) := hj; omega), h2⟩
theorem step_tail {kd pa : Nat → Int} {nc : Nat} {X : BX} (h : tlI nc X) (h0 : 0 ≤ bLv X) : tlI nc (stepB kd pa nc (bLv X).toNat X) := by
  obtain ⟨h1, h2⟩ := h
  unfold stepB
  split
  · exact ⟨fun j hj => h1 j (by have : (j : Int) ≤ ((bLv X).toNat : Int) - 1 := hj; omega), h2⟩
  · split
    · exact ⟨fun j hj => h1 j (by have : (j : Int) ≤ ((bLv X).toNat : Int) - 1 := hj; omega), fun _ => acc_tail (h1 _ (by omega))⟩
    · exact ent_tail (X := (((bLv X).toNat : Int), bTb X, spB kd pa nc (bLv X).toNat X, bSg X, bBs X)) (fun j hj => h1 j (by omega)) h2
theorem runB_tail {kd pa : Nat → Int} {nc : Nat} : ∀ (n : Nat) {X : BX}, tlI nc X → tlI nc (runB kd pa nc n X)
  | 0, X, h => h
  | n + 1, X, h => by
    show tlI nc (if bLv X < 0 then X else runB kd pa nc n (stepB kd pa nc (bLv X).toNat X))
    split
    · exact h
    · exact runB_tail n (step_tail h (by omega))
theorem run_tail {kd pa lo hi co rk nu ct sa : Nat → Int} {nc nr : Nat} {moved d : Int} {st : Bool} {X : BX} : (bBs (runT kd pa lo hi co rk nu ct sa nc nr moved d st X)).2.2.2 = 0 → ∀ j, nc ≤ j → (bBs (runT kd pa lo hi co rk nu ct sa nc nr moved d st X)).1 j = 0 := by
  unfold runT
  split
  · intro z; exact absurd (show (1 : Int) = 0 from z) (by decide)
  · split
    · split
      · refine (runB_tail 1000000 ⟨fun j hj => ?_, fun z => absurd (show (1 : Int) = 0 from z) (by decide)⟩).2
        have hj0 : (j : Int) ≤ 0 := hj
        have e0 : j = 0 := by omega
        subst e0
        exact congrArg Prod.fst upT_eq
      · intro _; exact acc_tail rfl
    · intro z; exact absurd (show (1 : Int) = 0 from z) (by decide)
-- ===== both sides after a solving =====
def relB (b : BS4) (be : Nat → Int) (bc bu ke : Int) : Prop := (b.2.2.2 = 0 ↔ ke = 0) ∧ (b.2.2.2 = 0 → b.2.1 * bu = bc * b.2.2.1 ∧ ∀ c, b.1 c * bu = be c * b.2.2.1)
theorem sol_rel {nc : Nat} (hnc : nc ≤ 5) {co be : Nat → Int} {F : (Nat → Int) → Prop} (hF : ∀ y, F y → 0 < y 0) {b : BS4} {bc bu ke : Int} (h : semP nc co F b) (h' : semP nc co F (be, bc, bu, ke)) (ht : b.2.2.2 = 0 → ∀ j, nc ≤ j → b.1 j = 0) (ht' : ∀ j, nc ≤ j → be j = 0) : b.2.2.2 = ke ∧ relB b be bc bu ke := by
  obtain ⟨e1, e2⟩ := sem_same hnc hF h h'
  have e3 : b.2.2.2 = ke := e1
  refine ⟨e3, ⟨by rw [e3], fun z => ?_⟩⟩
  obtain ⟨a1, a2⟩ := e2 z
  refine ⟨a1, fun c => ?_⟩
  rcases (show c < nc ∨ nc ≤ c by omega) with w | w
  · exact a2 c w
  · rw [ht z c w, ht' c w, Int.zero_mul, Int.zero_mul]
