variable {gd : Prop}
-- ===== how large an alternating function can be =====
def bdN (M : Nat) : Nat → Nat
  | 0 => 1
  | n + 1 => (n + 1) * (M * bdN M n)
theorem sg_abs (i : Nat) (x : Int) : (sgZ i * x).natAbs = x.natAbs := by
  rcases sgZ_or i with h | h <;> rw [h] <;> simp
theorem det_bnd {M : Nat} : ∀ {n : Nat} {w : Nat → Nat → Int}, (∀ a b, a < n → b < n → (w a b).natAbs ≤ M) → (detD n w).natAbs ≤ bdN M n
  | 0, _, _ => by simp [detD, bdN]
  | n + 1, w, h => by
    unfold detD bdN
    refine sm_abs (fun i hi => ?_)
    rw [Int.mul_assoc, sg_abs, Int.natAbs_mul]
    refine Nat.mul_le_mul (h i 0 hi (by omega)) (det_bnd (fun a b ha hb => ?_))
    unfold minV
    split
    · exact h _ _ (by omega) (by omega)
    · exact h _ _ (by omega) (by omega)
theorem det_row0 {n : Nat} {w : Nat → Nat → Int} {a : Nat} (ha : a < n) (h : ∀ b, b < n → w a b = 0) : detD n w = 0 := by
  rw [← det_zero w ha]
  refine det_cong (fun r b _ hb => ?_)
  by_cases e : r = a
  · subst e; rw [putV_eq]; exact h b hb
  · rw [putV_ne e]
theorem det6_lin {w : Nat → Nat → Int} (h5 : w 5 = unV 0) (h : ∀ a b, a < 5 → 1 ≤ b → b < 6 → (w a b).natAbs ≤ 9) : (detD 6 w).natAbs ≤ 7085880 := by
  have e : detD 6 w = sgZ 5 * w 5 0 * detD 5 (minV 5 w) := by
    show sumZ (fun i => sgZ i * w i 0 * detD 5 (minV i w)) 6 = _
    refine sm_one (k := 5) (f := fun i => sgZ i * w i 0 * detD 5 (minV i w)) (by omega) (fun i hi hne => ?_)
    show sgZ i * w i 0 * detD 5 (minV i w) = 0
    rw [det_row0 (n := 5) (w := minV i w) (a := 4) (by omega) (fun b hb => ?_)]
    · simp
    · unfold minV; rw [if_neg (by omega), h5]; unfold unV; rw [if_neg (by omega)]
  rw [e, Int.mul_assoc, sg_abs, h5]
  have h1 : unV 0 0 = 1 := rfl
  rw [h1, Int.one_mul]
  refine Nat.le_trans (det_bnd (M := 9) (fun a b ha hb => ?_)) (by decide)
  unfold minV
  rw [if_pos ha]
  exact h a (b + 1) ha (by omega) (by omega)
theorem det6_all {w : Nat → Nat → Int} (h0 : ∀ a, a < 6 → (w a 0).natAbs ≤ 1000) (h : ∀ a b, a < 6 → 1 ≤ b → b < 6 → (w a b).natAbs ≤ 9) : (detD 6 w).natAbs ≤ 42515280000 := by
  show (sumZ (fun i => sgZ i * w i 0 * detD 5 (minV i w)) 6).natAbs ≤ 6 * 7085880000
  refine sm_abs (fun i hi => ?_)
  rw [Int.mul_assoc, sg_abs, Int.natAbs_mul]
  refine Nat.le_trans (Nat.mul_le_mul (h0 i hi) (det_bnd (M := 9) (fun a b ha hb => ?_))) (by decide)
  unfold minV
  split
  · exact h _ _ (by omega) (by omega) (by omega)
  · exact h _ _ (by omega) (by omega) (by omega)
-- ===== what a table is =====
/-- how far a column's value is above l -/
def lnV (c : Nat) (l : Int) : Nat → Int := fun x => if x = 1 + c then 1 else if x = 0 then -l else 0
def feas (nl : Nat) (W : Nat → Nat → Int) (ti : Nat → Int) (y : Nat → Int) : Prop :=
  0 < y 0 ∧ ∀ i, 1 ≤ i → i < nl → (ti i = 1 → 0 ≤ dotZ 6 (W i) y) ∧ (ti i = 2 → dotZ 6 (W i) y = 0)
def smallV (f : Nat → Int) : Prop := (f 0).natAbs ≤ 1000 ∧ ∀ x, 1 ≤ x → x < 6 → (f x).natAbs ≤ 9
abbrev tCe (S : TS) : Nat → Int := S.1
abbrev tTi (S : TS) : Nat → Int := S.2.1
abbrev tLo (S : TS) : Nat → Int := S.2.2.1
abbrev tHi (S : TS) : Nat → Int := S.2.2.2.1
abbrev tGl (S : TS) : Nat → Int := S.2.2.2.2.1
abbrev tSh (S : TS) : Nat → Int := S.2.2.2.2.2.1
abbrev tNl (S : TS) : Nat := S.2.2.2.2.2.2.1
abbrev tBel (S : TS) : Int := S.2.2.2.2.2.2.2.1
abbrev tFar (S : TS) : Int := S.2.2.2.2.2.2.2.2
def tabI (gd : Prop) (nc : Nat) (W : Nat → Nat → Int) (S : TS) (B : Nat → Nat → Int) (s : Int) : Prop :=
  tabA nc (tCe S) (tSh S) (tNl S) (tBel S) W B s ∧ nc ≤ 5 ∧ nc + 1 ≤ tNl S ∧
  (∀ i, i < tNl S → ∀ c, nc ≤ c → c < 5 → W i (1 + c) = 0) ∧ (∀ c, c < nc → W (1 + c) = lnV c (tLo S c)) ∧
  (tTi S 0 = 0 ∧ ∀ i, 1 ≤ i → i < tNl S → tTi S i = 1 ∨ tTi S i = 2) ∧
  (∀ j, j < nc → tSh S j = 0 → lexP (fun i => tCe S (i * 6 + j)) (nc + 1)) ∧
  (tFar S = -1 ∨ ∃ f : Nat, f < nc ∧ tFar S = (f : Int) ∧ tSh S f = 0) ∧
  (∀ j, j < 6 → smallV (B j)) ∧ (∀ i, i < tNl S → smallV (W i)) ∧
  (gd → ∀ y, feas (tNl S) W (tTi S) y → ∀ j, j < nc → (tSh S j = 0 → (j : Int) ≠ tFar S → 0 ≤ dotZ 6 (B j) y) ∧ (tSh S j ≠ 0 → dotZ 6 (B j) y = 0)) ∧
  bndT nc S
theorem firstZ_is {f : Nat → Bool} : ∀ {n i : Nat}, firstZ f n = (i : Int) → i < n ∧ f i = true ∧ ∀ j, j < i → f j = false
  | 0, i, h => by simp [firstZ] at h <;> omega
  | n + 1, i, h => by
    unfold firstZ at h
    split at h
    · rename_i e
      split at h
      · rename_i e2
        have : n = i := by omega
        subst this
        refine ⟨by omega, e2, fun j hj => ?_⟩
        have aux : ∀ {m : Nat}, firstZ f m = -1 → ∀ j, j < m → f j = false := by
          intro m
          induction m with
          | zero => intro _ j hj; omega
          | succ m ih =>
            intro hm j hj
            unfold firstZ at hm
            split at hm
            · rename_i q
              split at hm
              · omega
              · rename_i q2
                rcases (show j < m ∨ j = m by omega) with w | w
                · exact ih q j w
                · subst w; simpa using q2
            · rename_i q; exact absurd hm q
        exact aux e j hj
      · omega
    · obtain ⟨h1, h2, h3⟩ := firstZ_is h
      exact ⟨by omega, h2, h3⟩
theorem firstZ_isNone {f : Nat → Bool} : ∀ {n : Nat}, firstZ f n < 0 → ∀ j, j < n → f j = false
  | 0, _, j, hj => absurd hj (Nat.not_lt_zero j)
  | n + 1, h, j, hj => by
    have hr := firstZ_rng f n
    unfold firstZ at h
    split at h
    · rename_i e
      split at h
      · omega
      · rename_i e2
        rcases (show j < n ∨ j = n by omega) with w | w
        · exact firstZ_isNone (by omega) j w
        · subst w; simpa using e2
    · rename_i e
      omega
/-- a column tells something -/
theorem tab_col {nc : Nat} {ce sh lo : Nat → Int} {nl : Nat} {bel : Int} {W B : Nat → Nat → Int} {s : Int} (h : tabA nc ce sh nl bel W B s) (hnc : nc ≤ 5) (hnl : nc + 1 ≤ nl) (hL : ∀ c, c < nc → W (1 + c) = lnV c (lo c)) {j : Nat} (hj : j < nc) (hs : sh j = 0) (hz : ∀ i, i < nc + 1 → ce (i * 6 + j) = 0) : False := by
  obtain ⟨hs1, hb, hb0, hC, h5, hU, hS, hcell⟩ := h
  have hd0 : detD 6 B ≠ 0 := by intro e; rw [e] at hb; simp at hb; omega
  have h0 : dlV 6 B j 0 = 0 := dl_5 h5 (by omega)
  have hall : ∀ x, x < 6 → dlV 6 B j x = 0 := by
    intro x hx
    rcases (show x = 0 ∨ ∃ c, x = 1 + c by rcases x with _ | x; exact Or.inl rfl; exact Or.inr ⟨x, by omega⟩) with e | ⟨c, e⟩
    · subst e; exact h0
    · subst e
      rcases (show c < nc ∨ nc ≤ c by omega) with q | q
      · have h1 := hcell (1 + c) j (by omega) (by omega) (Or.inr hs)
        rw [hz (1 + c) (by omega), hL c q] at h1
        have h2 : dotZ 6 (lnV c (lo c)) (dlV 6 B j) = dlV 6 B j (1 + c) := by
          unfold dotZ
          rw [sm_two (a := 0) (b := 1 + c) (by omega) (by omega) (by omega) (fun x hx h1 h2 => by unfold lnV; rw [if_neg h2, if_neg h1]; simp), h0]
          unfold lnV; simp
        rw [h2] at h1
        rcases hs1 with e | e <;> rw [e] at h1 <;> omega
      · exact dl_far (hU c q (by omega)) (by omega) (by omega) (by omega)
  apply hd0
  rw [← dl_self B (m := j) (by omega)]
  exact sm_z (fun x hx => by rw [hall x hx]; simp)
theorem sd_way {x sd : Int} {w : Int} (h : x * sd < 0) (hr : -1 ≤ sd ∧ sd ≤ 1) (hw : w = if x < 0 then -1 else 1) : w = -sd ∧ sd ≠ 0 := by
  rcases (show sd = -1 ∨ sd = 0 ∨ sd = 1 by omega) with e | e | e
  · subst e; rw [hw, if_neg (by omega)]; omega
  · subst e; simp at h
  · subst e; rw [hw, if_pos (by omega)]; omega
theorem tabI_turn {nc : Nat} {W : Nat → Nat → Int} {S : TS} {B : Nat → Nat → Int} {s : Int} {line k : Nat} (h : tabI gd nc W S B s) (hln : dcLn S = (line : Int)) (hk : dcK nc S = (k : Int)) :
    tabI gd nc W (turnT nc line k S) (putV B k (W line)) (s * wyZ (tCe S) line k) := by
  obtain ⟨hA, hnc, hnl, hWz, hL, ⟨ht0, ht⟩, hlex, hfar, hBs, hWs, hsem, hbn⟩ := h
  obtain ⟨hl, hbr, -⟩ := firstZ_is (f := brokB (tCe S) (tTi S) (tFar S)) hln
  unfold dcK at hk
  rw [hln, Int.toNat_natCast] at hk
  have hkr := cheapZ_rng (tCe S) (tSh S) nc line (sideZ (tCe S) (tFar S) line) nc
  have hkn : k < nc := by have := hkr.2; rw [show cheapZ (tCe S) (tSh S) nc line (sideZ (tCe S) (tFar S) line) nc = (k : Int) from hk] at this; omega
  obtain ⟨hsk, hneg⟩ := cheapZ_neg hk
  have hbest := cheapZ_best hk
  have hp : tCe S (line * 6 + k) ≠ 0 := cheapZ_ne hk
  have hsr := sideZ_rng (tCe S) (tFar S) line
  obtain ⟨sd, hsd⟩ : ∃ sd, sd = sideZ (tCe S) (tFar S) line := ⟨_, rfl⟩
  rw [← hsd] at hneg hbest hsr
  have hway := sd_way hneg hsr (w := wyZ (tCe S) line k) rfl
  have hwp := wyZ_pos (ce := tCe S) (line := line) (k := k) hp
  have hbr2 : tTi S line ≠ 0 ∧ (sd < 0 ∨ (0 < sd ∧ tTi S line = 2)) := by
    unfold brokB at hbr; rw [← hsd] at hbr; simpa using hbr
  have hl1 : 1 ≤ line := by
    rcases (show line = 0 ∨ 1 ≤ line by omega) with e | e
    · subst e; exact absurd ht0 hbr2.1
    · exact e
  have hz : (if tTi S line = 2 then (1 : Int) else 0) = 0 → 0 < tCe S (line * 6 + k) := by
    intro q
    have h2 : tTi S line ≠ 2 := by intro w; rw [if_pos w] at q; omega
    have h3 : sd = -1 := by omega
    have hneg2 : tCe S (line * 6 + k) * sd < 0 := hneg
    rw [h3] at hneg2; omega
  have hA2 := tabA_turn hA hnc hl hkn hsk hp (hWz line hl) (if tTi S line = 2 then 1 else 0) hz
  have hcl := fun i j hi hj hjk hjs => tabA_cell (i := i) (j := j) hA hnc hl hkn hsk hi hj hjk hjs
  have hBs2 : ∀ j, j < 6 → smallV (putV B k (W line) j) := by
    intro j hj
    by_cases e : j = k
    · subst e; rw [putV_eq]; exact hWs line hl
    · rw [putV_ne e]; exact hBs j hj
  have hb0 := hA.2.2.1
  have hlex2 : ∀ j, j < nc → va_up (tSh S) k (if tTi S line = 2 then 1 else 0) j = 0 → lexP (fun i => tnE (tCe S) (tSh S) nc (tNl S) line k (tBel S) (i * 6 + j)) (nc + 1) := by
    intro j hj hsj
    by_cases e : j = k
    · subst e
      rw [up_same] at hsj
      have hw1 : wyZ (tCe S) line j = 1 := by unfold wyZ; rw [if_neg]; have := hz hsj; omega
      refine lexP_cong (fun i hi => ?_) (hlex j hj hsk)
      by_cases ei : i = line
      · subst ei; rw [tn_at_line (by omega) (by omega), if_pos rfl, hw1, Int.one_mul]
      · rw [tn_at_other (by omega) (by omega) (by omega) ei]
        unfold tnC
        rw [(dm6 (show j < 6 by omega)).1, (dm6 (show j < 6 by omega)).2, if_neg (fun q => q.2.2.1 rfl)]
    · rw [up_ne e] at hsj
      have hrow : ∀ i, i < nc + 1 → tBel S * tnE (tCe S) (tSh S) nc (tNl S) line k (tBel S) (i * 6 + j) = wyZ (tCe S) line k * tCe S (line * 6 + k) * tCe S (i * 6 + j) - wyZ (tCe S) line k * tCe S (i * 6 + k) * tCe S (line * 6 + j) := by
        intro i hi
        rw [hA2.2.2.2.2.2.2.2 i j (by omega) (by omega) (Or.inr (by rw [up_ne e]; exact hsj))]
        exact hcl i j (by omega) (by omega) e (Or.inr hsj)
      rcases (show tCe S (line * 6 + j) * sd < 0 ∨ 0 ≤ tCe S (line * 6 + j) * sd by omega) with q | q
      · have h1 := hbest j hj hsj q
        have hwj := sd_way q hsr (w := wyZ (tCe S) line j) rfl
        have hpj : tCe S (line * 6 + j) ≠ 0 := by intro w; rw [w] at q; simp at q
        have hwpj := (wyZ_pos hpj).2
        have hww : wyZ (tCe S) line j = wyZ (tCe S) line k := by omega
        rw [hww] at hwpj
        have h2 : lexN (fun i => tnE (tCe S) (tSh S) nc (tNl S) line k (tBel S) (i * 6 + j)) (nc + 1) := by
          refine lexN_div hb0 (fun i hi => ?_) h1
          rw [hrow i hi, hwp.2, ← hwpj]
          grind
        rcases h2 with h2 | h2
        · exact absurd (tab_col hA2 hnc hnl hL hj (by rw [up_ne e]; exact hsj) h2) id
        · exact h2
      · have h1 := lexP_add (lexP_mul hwp.1 (hlex j hj hsj)) (lexN_mul (a := tCe S (line * 6 + j) * sd) q (Or.inr (hlex k hkn hsk)))
        refine lexP_div hb0 (fun i hi => ?_) h1
        rw [hrow i hi, hway.1]
        grind
  obtain ⟨b1, b2, b3, b4, b5, b6, b7, b8⟩ := hbn
  refine ⟨hA2, hnc, hnl, hWz, hL, ⟨ht0, ht⟩, hlex2, ?_, hBs2, hWs, ?_, ?_⟩
  · show (if tFar S = (k : Int) then (-1 : Int) else tFar S) = -1 ∨ _
    by_cases e : tFar S = (k : Int)
    · exact Or.inl (if_pos e)
    · rcases hfar with q | ⟨f, q1, q2, q3⟩
      · exact Or.inl (by rw [if_neg e]; exact q)
      · refine Or.inr ⟨f, q1, ?_, ?_⟩
        · show (if tFar S = (k : Int) then (-1 : Int) else tFar S) = _
          rw [if_neg e]; exact q2
        · show va_up (tSh S) k _ f = 0
          rw [up_ne (by omega)]; exact q3
  · intro hg y hy j hj
    have hold := hsem hg y hy j hj
    by_cases e : j = k
    · subst e
      have hy2 := hy.2 line hl1 hl
      refine ⟨fun hq _ => ?_, fun hq => ?_⟩
      · rw [putV_eq]
        have hq2 : (if tTi S line = 2 then (1 : Int) else 0) = 0 := by
          have hq3 : va_up (tSh S) j (if tTi S line = 2 then (1 : Int) else 0) j = 0 := hq
          rwa [up_same] at hq3
        refine hy2.1 ?_
        rcases ht line hl1 hl with w | w
        · exact w
        · rw [if_pos w] at hq2; omega
      · rw [putV_eq]
        have hq2 : (if tTi S line = 2 then (1 : Int) else 0) ≠ 0 := by
          have hq3 : va_up (tSh S) j (if tTi S line = 2 then (1 : Int) else 0) j ≠ 0 := hq
          rwa [up_same] at hq3
        refine hy2.2 ?_
        by_cases w : tTi S line = 2
        · exact w
        · rw [if_neg w] at hq2; exact absurd rfl hq2
    · rw [putV_ne e]
      refine ⟨fun hq hf => hold.1 ?_ ?_, fun hq => hold.2 ?_⟩
      · have hq3 : va_up (tSh S) k (if tTi S line = 2 then (1 : Int) else 0) j = 0 := hq
        rwa [up_ne e] at hq3
      · intro w
        apply hf
        show (j : Int) = (if tFar S = (k : Int) then (-1 : Int) else tFar S)
        rw [if_neg (by omega)]; exact w
      · have hq3 : va_up (tSh S) k (if tTi S line = 2 then (1 : Int) else 0) j ≠ 0 := hq
        rwa [up_ne e] at hq3
  · have hs2 : ∀ x : Int, (s * wyZ (tCe S) line k * x).natAbs = x.natAbs := by
      intro x
      rcases hA2.1 with e | e <;> rw [e] <;> simp
    have hdl : ∀ i j, i < tNl S → j < 5 → (dotZ 6 (W i) (dlV 6 (putV B k (W line)) j)).natAbs ≤ 7085880 := by
      intro i j hi hj
      rw [← dl_ev _ (show j < 6 by omega)]
      refine det6_lin (by rw [putV_ne (by omega)]; exact hA2.2.2.2.2.1) (fun a b ha h1 h2 => ?_)
      by_cases e : a = j
      · subst e; rw [putV_eq]; exact (hWs i hi).2 b h1 h2
      · rw [putV_ne e]; exact (hBs2 a (by omega)).2 b h1 h2
    refine ⟨b1, b2, ?_, ?_, ?_, ?_, b7, ?_⟩
    · intro i j hj
      show -8000000 ≤ tnE (tCe S) (tSh S) nc (tNl S) line k (tBel S) (i * 6 + j) ∧ tnE (tCe S) (tSh S) nc (tNl S) line k (tBel S) (i * 6 + j) ≤ 8000000
      have b3ij := b3 i j hj
      rcases (show i < tNl S ∨ tNl S ≤ i by omega) with hi | hi
      · by_cases hc : nc ≤ j ∨ va_up (tSh S) k (if tTi S line = 2 then 1 else 0) j = 0
        · have h1 := hA2.2.2.2.2.2.2.2 i j hi (by omega) hc
          have h2 := hdl i j hi hj
          rw [← hs2, ← h1] at h2
          omega
        · by_cases ei : i = line
          · subst ei
            rw [tn_at_line (by omega) (by omega), hwp.2]
            have b3k := b3 i k (by omega)
            have e9 : tCe S (i * 6 + k) = S.1 (i * 6 + k) := rfl
            split <;> omega
          · rw [tn_at_other (by omega) (by omega) hi ei]
            unfold tnC
            rw [(dm6 (show j < 6 by omega)).1, (dm6 (show j < 6 by omega)).2, if_neg]
            · exact b3ij
            · rintro ⟨-, -, q3, q4⟩
              apply hc
              rcases q4 with q4 | q4
              · exact Or.inl q4
              · exact Or.inr (by rw [up_ne q3]; exact q4)
      · rw [tn_at_stale (by omega) hl (show tNl S * 6 ≤ i * 6 + j by omega)]
        exact b3ij
    · intro i
      show -100000000000 ≤ tnE (tCe S) (tSh S) nc (tNl S) line k (tBel S) (i * 6 + 5) ∧ tnE (tCe S) (tSh S) nc (tNl S) line k (tBel S) (i * 6 + 5) ≤ 100000000000
      rcases (show i < tNl S ∨ tNl S ≤ i by omega) with hi | hi
      · have h1 := hA2.2.2.2.2.2.2.2 i 5 hi (by omega) (Or.inl hnc)
        have h2 : (dotZ 6 (W i) (dlV 6 (putV B k (W line)) 5)).natAbs ≤ 42515280000 := by
          rw [← dl_ev _ (show 5 < 6 by omega)]
          refine det6_all (fun a ha => ?_) (fun a b ha q1 q2 => ?_)
          · by_cases e : a = 5
            · subst e; rw [putV_eq]; exact (hWs i hi).1
            · rw [putV_ne e]; exact (hBs2 a ha).1
          · by_cases e : a = 5
            · subst e; rw [putV_eq]; exact (hWs i hi).2 b q1 q2
            · rw [putV_ne e]; exact (hBs2 a ha).2 b q1 q2
        rw [← hs2, ← h1] at h2
        omega
      · rw [tn_at_stale (by omega) hl (show tNl S * 6 ≤ i * 6 + 5 by omega)]
        exact b4 i
    · show 0 < wyZ (tCe S) line k * tCe S (line * 6 + k) ∧ wyZ (tCe S) line k * tCe S (line * 6 + k) ≤ 8000000
      refine ⟨hwp.1, ?_⟩
      rw [hwp.2]
      have := b3 line k (by omega)
      have e9 : tCe S (line * 6 + k) = S.1 (line * 6 + k) := rfl
      omega
    · intro j
      show 0 ≤ va_up (tSh S) k (if tTi S line = 2 then 1 else 0) j ∧ va_up (tSh S) k (if tTi S line = 2 then 1 else 0) j ≤ 1
      by_cases e : j = k
      · subst e; rw [up_same]; split <;> omega
      · rw [up_ne e]; exact b6 j
    · show -1 ≤ (if tFar S = (k : Int) then (-1 : Int) else tFar S) ∧ (if tFar S = (k : Int) then (-1 : Int) else tFar S) ≤ 4
      split
      · omega
      · exact b8
