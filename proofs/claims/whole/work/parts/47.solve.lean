-- ===== whole sums come in steps =====
theorem gcd_dvd {f : Nat → Int} : ∀ {n j : Nat}, j < n → ((gcdZ f n : Nat) : Int) ∣ f j
  | 0, j, h => absurd h (Nat.not_lt_zero j)
  | n + 1, j, h => by
    show ((Int.gcd (gcdZ f n : Int) (f n) : Nat) : Int) ∣ f j
    rcases (show j = n ∨ j < n by omega) with e | e
    · subst e; exact Int.gcd_dvd_right _ _
    · exact Int.dvd_trans (Int.gcd_dvd_left _ _) (gcd_dvd e)
theorem any_no {f : Nat → Bool} : ∀ {n : Nat}, ¬ anyZ f n = true → ∀ j, j < n → f j = false
  | 0, _, j, hj => absurd hj (Nat.not_lt_zero j)
  | n + 1, h, j, hj => by
    rw [anyZ_succ, Bool.or_eq_true] at h
    rcases (show j = n ∨ j < n by omega) with e | e
    · subst e
      rcases hf : f j with _ | _
      · rfl
      · exact absurd (Or.inr hf) h
    · exact any_no (fun q => h (Or.inl q)) j e
theorem sum_steps {kd pa sa : Nat → Int} {nc r : Nat} {y : Nat → Int} (hr : rightP nc kd pa y) (hd : 0 < divZ kd sa r nc) : ∃ q : Int, sumZ (fun c => sa (r * 5 + c) * y (1 + c)) nc = q * divZ kd sa r nc * y 0 := by
  unfold divZ at hd ⊢
  by_cases ha : anyZ (fun j => decide (sa (r * 5 + j) ≠ 0) && decide (kd j < 1)) nc = true
  · rw [if_pos ha] at hd; omega
  · rw [if_neg ha]
    have hno := any_no ha
    have key : ∀ n, n ≤ nc → ∃ q : Int, sumZ (fun c => sa (r * 5 + c) * y (1 + c)) n = q * ((gcdZ (fun j => sa (r * 5 + j)) nc : Nat) : Int) * y 0 := by
      intro n
      induction n with
      | zero => intro _; exact ⟨0, by show (0 : Int) = _; simp⟩
      | succ n ih =>
        intro hn
        obtain ⟨q, hq⟩ := ih (by omega)
        obtain ⟨z, hz⟩ : ∃ z : Int, sa (r * 5 + n) * y (1 + n) = z * ((gcdZ (fun j => sa (r * 5 + j)) nc : Nat) : Int) * y 0 := by
          have h1 := hno n (by omega)
          by_cases h0 : sa (r * 5 + n) = 0
          · exact ⟨0, by rw [h0]; simp⟩
          · have hk : 1 ≤ kd n := by
              have h2 : ¬ kd n < 1 := by
                intro w
                have h3 : (decide (sa (r * 5 + n) ≠ 0) && decide (kd n < 1)) = true := by simp [h0, w]
                rw [h3] at h1; cases h1
              omega
            obtain ⟨v, hv⟩ := hr.1 n (by omega) hk
            obtain ⟨t, ht⟩ := gcd_dvd (f := fun j => sa (r * 5 + j)) (show n < nc by omega)
            exact ⟨t * v, by rw [hv, show sa (r * 5 + n) = _ from ht]; grind⟩
        refine ⟨q + z, ?_⟩
        show sumZ (fun c => sa (r * 5 + c) * y (1 + c)) n + sa (r * 5 + n) * y (1 + n) = _
        rw [hq, hz]; grind
    exact key nc (Nat.le_refl nc)
theorem lt_of_mul {a b c : Int} (hc : 0 < c) : a * c < b * c ↔ a < b := by
  constructor
  · intro h
    rcases (show a < b ∨ b ≤ a by omega) with q | q
    · exact q
    · have := Int.mul_le_mul_of_nonneg_right q (Int.le_of_lt hc); omega
  · intro h; exact Int.mul_lt_mul_of_pos_right h hc
theorem eq_of_mul {a b c : Int} (hc : 0 < c) : a * c = b * c ↔ a = b := by
  constructor
  · intro h; exact Int.eq_of_mul_eq_mul_right (by omega) h
  · intro h; rw [h]
theorem kept_mul {k a b c : Int} (hc : 0 < c) : keptP k (a * c) (b * c) ↔ keptP k a b := by
  unfold keptP
  rw [eq_of_mul hc, lt_of_mul hc, lt_of_mul hc]
/-- a row's number brought to the steps of its sums -/
theorem step_same {k n dv q : Int} (hd : 0 < dv) (hk : 0 ≤ k ∧ k ≤ 2) : keptP k (q * dv) (inStepZ k n dv) ↔ keptP k (q * dv) n := by
  obtain ⟨f1, f2⟩ := floorZ_spec (a := n) hd
  unfold inStepZ
  by_cases h2 : k = 2
  · rw [if_pos (Or.inr h2)]
  · rw [if_neg (by omega)]
    have e1 : ∀ z : Int, q * dv ≤ z * dv ↔ q ≤ z := by
      intro z
      constructor
      · intro h
        rcases (show q ≤ z ∨ z < q by omega) with w | w
        · exact w
        · have := (lt_of_mul hd).mpr w; omega
      · intro h; exact Int.mul_le_mul_of_nonneg_right h (by omega)
    have e2 : q * dv ≤ n ↔ q * dv ≤ floorZ n dv * dv := by
      constructor
      · intro h
        rw [e1]
        rcases (show q ≤ floorZ n dv ∨ floorZ n dv + 1 ≤ q by omega) with w | w
        · exact w
        · have := Int.mul_le_mul_of_nonneg_right w (show 0 ≤ dv by omega)
          rw [Int.add_mul] at this; omega
      · intro h; omega
    by_cases h0 : k = 0 ∨ floorZ n dv * dv = n
    · rw [if_pos h0]
      rcases h0 with h0 | h0
      · unfold keptP; omega
      · rw [h0]
    · rw [if_neg h0]
      have e3 : n ≤ q * dv ↔ floorZ n dv * dv + dv ≤ q * dv := by
        constructor
        · intro h
          rcases (show q ≤ floorZ n dv ∨ floorZ n dv + 1 ≤ q by omega) with w | w
          · have := (e1 (floorZ n dv)).mpr w; omega
          · have := Int.mul_le_mul_of_nonneg_right w (show 0 ≤ dv by omega)
            rw [Int.add_mul] at this; omega
        · intro h; omega
      unfold keptP; omega
-- ===== a solving, as a plain function =====
abbrev numZ (nu : Nat → Int) (moved d : Int) (r : Nat) : Int := nu r + (if (r : Int) = moved then d else 0)
abbrev dvZ (st : Bool) (kd sa : Nat → Int) (nc r : Nat) : Int := if st = true then divZ kd sa r nc else 0
def oosB (st : Bool) (kd rk nu ct sa : Nat → Int) (nc : Nat) (moved d : Int) (r : Nat) : Bool := decide (ct r = 1 ∧ rk r = 2 ∧ 0 < dvZ st kd sa nc r ∧ ¬ Int.tmod (numZ nu moved d r) (dvZ st kd sa nc r) = 0)
def layT (st : Bool) (kd rk nu ct sa : Nat → Int) (nc : Nat) (moved d : Int) (S : TS) : Nat → TS
  | 0 => S
  | r + 1 => if ct r = 1 then addRowT nc (rk r) sa r (inStepZ (rk r) (numZ nu moved d r) (dvZ st kd sa nc r)) (layT st kd rk nu ct sa nc moved d S r) else layT st kd rk nu ct sa nc moved d S r
def runT (kd pa lo hi co rk nu ct sa : Nat → Int) (nc nr : Nat) (moved d : Int) (st : Bool) (X : BX) : BX :=
  if 0 ≤ firstZ (oosB st kd rk nu ct sa nc moved d) nr then (0, upT (bTb X) 0 (nc, layT st kd rk nu ct sa nc moved d (beginT nc co lo hi (bTb X 0).2) (firstZ (oosB st kd rk nu ct sa nc moved d) nr).toNat), bSp X, bSg X, ((bBs X).1, (bBs X).2.1, (bBs X).2.2.1, 1))
  else if (descT nc 1000000 (reachT nc (layT st kd rk nu ct sa nc moved d (beginT nc co lo hi (bTb X 0).2) nr))).2 = true then
    (if st = true then runB kd pa nc 1000000 (0, upT (bTb X) 0 (nc, (descT nc 1000000 (reachT nc (layT st kd rk nu ct sa nc moved d (beginT nc co lo hi (bTb X 0).2) nr))).1), bSp X, va_up (bSg X) 0 0, ((bBs X).1, (bBs X).2.1, (bBs X).2.2.1, 1))
     else (0, upT (bTb X) 0 (nc, (descT nc 1000000 (reachT nc (layT st kd rk nu ct sa nc moved d (beginT nc co lo hi (bTb X 0).2) nr))).1), bSp X, bSg X, accB (nc, (descT nc 1000000 (reachT nc (layT st kd rk nu ct sa nc moved d (beginT nc co lo hi (bTb X 0).2) nr))).1)))
  else (0, upT (bTb X) 0 (nc, (descT nc 1000000 (reachT nc (layT st kd rk nu ct sa nc moved d (beginT nc co lo hi (bTb X 0).2) nr))).1), bSp X, bSg X, ((bBs X).1, (bBs X).2.1, (bBs X).2.2.1, 1))
def phiP (rk ct sa : Nat → Int) (nc : Nat) (num : Nat → Int) (n : Nat) (y : Nat → Int) : Prop := ∀ r, r < n → ct r = 1 → keptP (rk r) (sumZ (fun c => sa (r * 5 + c) * y (1 + c)) nc) (num r * y 0)
def rowsOk (nr : Nat) (rk nu ct sa : Nat → Int) : Prop := nr ≤ 7 ∧ (∀ j, 0 ≤ rk j ∧ rk j ≤ 2) ∧ (∀ j, -99 ≤ nu j ∧ nu j ≤ 99) ∧ (∀ j, -9 ≤ sa j ∧ sa j ≤ 9) ∧ (∀ j, 0 ≤ ct j ∧ ct j ≤ 1)
theorem rw_iff {nc : Nat} {co lo hi : Nat → Int} {Φ Ψ : (Nat → Int) → Prop} {W : Nat → Nat → Int} {S : TS} (h : rwI nc co lo hi Φ W S) (he : ∀ y, Φ y ↔ Ψ y) : rwI nc co lo hi Ψ W S := by
  have : Φ = Ψ := funext (fun y => propext (he y))
  rw [← this]; exact h
theorem step_bnd {k n dv : Int} (hn : -198 ≤ n ∧ n ≤ 198) (hd : 0 ≤ dv ∧ dv ≤ 9) : -1000 ≤ inStepZ k n dv ∧ inStepZ k n dv ≤ 1000 := by
  unfold inStepZ
  by_cases h : dv ≤ 0 ∨ k = 2
  · rw [if_pos h]; omega
  · rw [if_neg h]
    have := floorZ_spec (a := n) (b := dv) (by omega)
    split <;> omega
theorem div_bnd {kd sa : Nat → Int} (hsa : ∀ j, -9 ≤ sa j ∧ sa j ≤ 9) (r nc : Nat) : 0 ≤ divZ kd sa r nc ∧ divZ kd sa r nc ≤ 9 := by
  unfold divZ
  split
  · omega
  · have := gcdZ_le (f := fun j => sa (r * 5 + j)) (fun j => hsa (r * 5 + j)) nc
    omega
theorem dv_bnd {st : Bool} {kd sa : Nat → Int} (hsa : ∀ j, -9 ≤ sa j ∧ sa j ≤ 9) (nc r : Nat) : 0 ≤ dvZ st kd sa nc r ∧ dvZ st kd sa nc r ≤ 9 := by
  unfold dvZ
  split
  · exact div_bnd hsa r nc
  · omega
theorem lay_ok {st : Bool} {kd pa lo hi co rk nu ct sa : Nat → Int} {nc nr : Nat} {moved d : Int} {S : TS} (hP : colsOk nc kd pa lo hi) (hco : ∀ j, -9 ≤ co j ∧ co j ≤ 9) (hR : rowsOk nr rk nu ct sa) (hd : -99 ≤ d ∧ d ≤ 99) (hS : staleT S) : ∀ n, n ≤ nr → ∃ W, rwI nc co lo hi (phiP rk ct sa nc (fun r => inStepZ (rk r) (numZ nu moved d r) (dvZ st kd sa nc r)) n) W (layT st kd rk nu ct sa nc moved d (beginT nc co lo hi S) n) ∧ tNl (layT st kd rk nu ct sa nc moved d (beginT nc co lo hi S) n) ≤ nc + 1 + nc + n
  | 0, _ => by
    obtain ⟨W, hW⟩ := bld_all hP.1 (co := co) (hi := hi) hP.2.2.1 hS nc (Nat.le_refl nc)
    refine ⟨W, rw_iff (rw_0 hP.1 hco hP.2.2.1 hP.2.2.2.1 hW) (fun y => ⟨fun _ r hr => absurd hr (Nat.not_lt_zero r), fun _ => trivial⟩), hW.2.2.1⟩
  | n + 1, hn => by
    obtain ⟨W, hW, hl⟩ := lay_ok hP hco hR hd hS n (by omega)
    show ∃ W, rwI nc co lo hi (phiP rk ct sa nc (fun r => inStepZ (rk r) (numZ nu moved d r) (dvZ st kd sa nc r)) (n + 1)) W (if ct n = 1 then addRowT nc (rk n) sa n (inStepZ (rk n) (numZ nu moved d n) (dvZ st kd sa nc n)) (layT st kd rk nu ct sa nc moved d (beginT nc co lo hi S) n) else layT st kd rk nu ct sa nc moved d (beginT nc co lo hi S) n) ∧ tNl (if ct n = 1 then addRowT nc (rk n) sa n (inStepZ (rk n) (numZ nu moved d n) (dvZ st kd sa nc n)) (layT st kd rk nu ct sa nc moved d (beginT nc co lo hi S) n) else layT st kd rk nu ct sa nc moved d (beginT nc co lo hi S) n) ≤ nc + 1 + nc + (n + 1)
    by_cases e : ct n = 1
    · rw [if_pos e]
      have hnum : -198 ≤ numZ nu moved d n ∧ numZ nu moved d n ≤ 198 := by
        have := hR.2.2.1 n
        unfold numZ; split <;> omega
      obtain ⟨W', hW'⟩ := rw_step hP.1 hR.2.2.2.1 hW (r := n) (hR.2.1 n) (step_bnd hnum (dv_bnd hR.2.2.2.1 nc n))
      refine ⟨W', rw_iff hW' (fun y => ⟨fun q r hr hc => ?_, fun q => ⟨fun r hr hc => q r (by omega) hc, q n (by omega) e⟩⟩), ?_⟩
      · rcases (show r < n ∨ r = n by omega) with w | w
        · exact q.1 r w hc
        · subst w; exact q.2
      · show tNl (layT st kd rk nu ct sa nc moved d (beginT nc co lo hi S) n) + 1 ≤ _
        omega
    · rw [if_neg e]
      refine ⟨W, rw_iff hW (fun y => ⟨fun q r hr hc => ?_, fun q r hr hc => q r (by omega) hc⟩), by omega⟩
      rcases (show r < n ∨ r = n by omega) with w | w
      · exact q r w hc
      · subst w; exact absurd hc e
theorem rw_stale {nc : Nat} (hnc : nc ≤ 5) {co lo hi : Nat → Int} (hlo : ∀ j, -20 ≤ lo j ∧ lo j ≤ 20) (hhi : ∀ j, hi j = NONEz ∨ (-20 ≤ hi j ∧ hi j ≤ 20)) {Φ : (Nat → Int) → Prop} {W : Nat → Nat → Int} {S : TS} (h : rwI nc co lo hi Φ W S) (h18 : tNl S ≤ 18) : staleT S := by
  have h' := h
  obtain ⟨a1, a2, a3, a4, a5, a6, a7, a8, a9, a10, a12, a13, s1, s2, s3, s4, s5⟩ := h
  have hA := tabA_b0 (ce := tCe S) (sh := tSh S) (nl := tNl S) (W := W) hnc (fun i j hi' hj _ => a4 i j hi' hj)
  have hb := rw_bnd hnc h' h18 hA (b0_small hnc (co := co) hlo hhi) (fun _ _ => rfl) rfl rfl rfl a2 (by rw [a3]; omega)
  exact ⟨hb.2.2.1, hb.2.2.2.1, s3, s4, s5⟩
theorem tab_stale {gd : Prop} {nc : Nat} {W : Nat → Nat → Int} {S : TS} {B : Nat → Nat → Int} {s : Int} (h : tabI gd nc W S B s) (hlo : ∀ j, -20 ≤ tLo S j ∧ tLo S j ≤ 20) : staleT S := by
  obtain ⟨b1, b2, b3, b4, b5, b6, b7, b8⟩ := h.2.2.2.2.2.2.2.2.2.2.2
  exact ⟨b3, b4, b6, b7, hlo⟩
/-- the root of a search -/
theorem root_ok {st : Bool} {kd pa lo hi co rk nu ct sa : Nat → Int} {nc nr : Nat} {moved d : Int} {S : TS} (hP : colsOk nc kd pa lo hi) (hco : ∀ j, -9 ≤ co j ∧ co j ≤ 9) (hR : rowsOk nr rk nu ct sa) (hd : -99 ≤ d ∧ d ≤ 99) (hS : staleT S) :
    NI True nc co kd lo hi (phiP rk ct sa nc (fun r => inStepZ (rk r) (numZ nu moved d r) (dvZ st kd sa nc r)) nr) (reachT nc (layT st kd rk nu ct sa nc moved d (beginT nc co lo hi S) nr)) ∧
    (∀ c, c < nc → tLo (reachT nc (layT st kd rk nu ct sa nc moved d (beginT nc co lo hi S) nr)) c = lo c ∧ tHi (reachT nc (layT st kd rk nu ct sa nc moved d (beginT nc co lo hi S) nr)) c = hi c ∧ tTi (reachT nc (layT st kd rk nu ct sa nc moved d (beginT nc co lo hi S) nr)) (1 + c) = 1) := by
  obtain ⟨W, hW, hl⟩ := lay_ok (st := st) (moved := moved) hP hco hR hd hS nr (Nat.le_refl nr)
  have h18 : tNl (layT st kd rk nu ct sa nc moved d (beginT nc co lo hi S) nr) ≤ 18 := by
    have := hP.1
    have := hR.1
    omega
  obtain ⟨B, s, k1, k2⟩ := far_ok (gd := True) hP.1 hP.2.2.1 hP.2.2.2.1 hW h18
  obtain ⟨a1, a2, a3, a4, a5, a6, a7, a8, a9, a10, a12, a13, s1, s2, s3, s4, s5⟩ := hW
  refine ⟨⟨⟨W, B, s, k1, k2, a5⟩, s5, ?_, ?_⟩, fun c hc => ⟨(a9 c hc).1, (a9 c hc).2.1, a12 c hc⟩⟩
  · intro c hc
    have e1 : tLo (reachT nc (layT st kd rk nu ct sa nc moved d (beginT nc co lo hi S) nr)) c = lo c := (a9 c hc).1
    have e2 : tHi (reachT nc (layT st kd rk nu ct sa nc moved d (beginT nc co lo hi S) nr)) c = hi c := (a9 c hc).2.1
    rw [e1, e2]
    refine ⟨Int.le_refl _, fun q => ⟨q, ?_, Int.le_refl _⟩, fun q => q⟩
    rcases hP.2.2.2.1 c with w | w
    · exact absurd w q
    · exact w.1
  · intro c hc ht
    have e3 : tTi (reachT nc (layT st kd rk nu ct sa nc moved d (beginT nc co lo hi S) nr)) (1 + c) = 1 := a12 c hc
    rw [e3] at ht; omega
/-- what a kept solving says -/
def semP (nc : Nat) (co : Nat → Int) (F : (Nat → Int) → Prop) (b : BS4) : Prop := bstI nc co F b ∧ ∀ y, F y → bLe nc co b y
theorem BI_end {nc : Nat} {co kd pa lo0 hi0 : Nat → Int} {Φ : (Nat → Int) → Prop} (hP : colsOk nc kd pa lo0 hi0) : ∀ (fuel : Nat) {X : BX} {n : Nat} {g : Nat → Prop}, BI nc co kd pa lo0 hi0 Φ X n g fuel → semP nc co (FP nc kd pa lo0 hi0 Φ) (bBs (runB kd pa nc fuel X))
  | 0, X, n, g, h => by
    obtain ⟨h1, h2, h3, h4, h5, h6⟩ := h
    have hn : n = 0 := by
      rcases n with _ | n
      · rfl
      · have := pd_pos hP (h3 n (by omega))
        have h7 : psN kd pa nc (bTb X) (bSp X) (bSg X) n + pdN kd pa nc (bTb X n) (bSp X n) (bSg X n) ≤ 0 := h6
        omega
    subst hn
    refine ⟨h4, fun y hy => ?_⟩
    rcases h5 y hy with q | ⟨l, q1, q2⟩
    · exact q
    · omega
  | fuel + 1, X, n, g, h => by
    rcases n with _ | n
    · obtain ⟨h1, h2, h3, h4, h5, h6⟩ := h
      have e : runB kd pa nc (fuel + 1) X = X := by
        show (if bLv X < 0 then X else _) = X
        rw [if_pos (by rw [h1]; decide)]
      rw [e]
      refine ⟨h4, fun y hy => ?_⟩
      rcases h5 y hy with q | ⟨l, q1, q2⟩
      · exact q
      · omega
    · have h1 : bLv X = (n : Int) := by have := h.1; omega
      have e : runB kd pa nc (fuel + 1) X = runB kd pa nc fuel (stepB kd pa nc n X) := by
        show (if bLv X < 0 then X else runB kd pa nc fuel (stepB kd pa nc (bLv X).toNat X)) = _
        rw [if_neg (by omega), h1, Int.toNat_natCast]
      rw [e]
      obtain ⟨n', g', h'⟩ := BI_step hP h
      exact BI_end hP fuel h'
theorem sem_iff {nc : Nat} {co : Nat → Int} {F G : (Nat → Int) → Prop} {b : BS4} (he : ∀ y, F y ↔ G y) (h : semP nc co F b) : semP nc co G b := by
  have : F = G := funext (fun y => propext (he y))
  rw [← this]; exact h
/-- the search begun at a root -/
theorem BI_root {kd pa lo hi co : Nat → Int} {Φ : (Nat → Int) → Prop} {nc : Nat} (hP : colsOk nc kd pa lo hi) {S : TS} (hN : NI True nc co kd lo hi Φ S) (hl : dcLn S < 0) (hf : ∀ c, c < nc → tLo S c = lo c ∧ tHi S c = hi c ∧ tTi S (1 + c) = 1) {tb : Nat → Nat × TS} (ht : tb 0 = (nc, S)) {sp sg : Nat → Int} (hs : sg 0 = 0) {b : BS4} (hb : bstI nc co (FP nc kd pa lo hi Φ) b) :
    BI nc co kd pa lo hi Φ (0, tb, sp, sg, b) 1 (fun _ => True) 1000000 := by
  obtain ⟨r1, r2⟩ := wt_root (ti := tTi S) hP (fun c hc => (hf c hc).1) (fun c hc => (hf c hc).2.1)
  refine ⟨rfl, by omega, ?_, hb, ?_, ?_⟩
  · intro l hl'
    have : l = 0 := by omega
    subst this
    show levI nc co kd pa lo hi Φ True (tb 0) (sp 0) (sg 0) 0
    rw [ht, hs]
    refine ⟨rfl, hN, hl, fun _ => ?_, Or.inl rfl⟩
    show sumZ (dmC kd pa nc (tLo S) (tHi S) (tTi S)) nc + 0 ≤ 50
    omega
  · intro y hy
    refine Or.inr ⟨0, by omega, ?_⟩
    show pndP nc Φ True (tb 0) (sp 0) (sg 0) y
    rw [ht, hs]
    refine ⟨trivial, ⟨hy.1.1, fun c hc => ?_, hy.2.1⟩, Or.inl rfl⟩
    show tLo S c * y 0 ≤ y (1 + c) ∧ (tTi S (1 + c) = 2 → y (1 + c) = tLo S c * y 0) ∧ (tHi S c ≠ NONEz → y (1 + c) ≤ tHi S c * y 0)
    obtain ⟨e1, e2, e3⟩ := hf c hc
    rw [e1, e2, e3]
    exact ⟨(hy.1.2 c hc).1, fun q => by omega, (hy.1.2 c hc).2⟩
  · show 0 + pdN kd pa nc (tb 0) (sp 0) (sg 0) ≤ 1000000
    rw [ht, hs]
    unfold pdN
    rw [if_pos rfl]
    show 0 + (6 * prN (wtC kd pa nc (tLo S) (tHi S) (tTi S)) nc - 3) ≤ 1000000
    omega
