-- ===== a table's cells are what its slots tell of its lines =====
theorem piv_dot {n : Nat} {B : Nat → Nat → Int} {k j : Nat} {w : Nat → Int} (hC : CrV n B) (hk : k < n) (hj : j < n) (hjk : j ≠ k) (f : Nat → Int) :
    detD n B * dotZ n f (dlV n (putV B k w) j) = detD n (putV B k w) * dotZ n f (dlV n B j) - detD n (putV B j w) * dotZ n f (dlV n B k) := by
  have h : sumZ (fun c => detD n B * (f c * dlV n (putV B k w) j c)) n = sumZ (fun c => detD n (putV B k w) * (f c * dlV n B j c) + (-detD n (putV B j w)) * (f c * dlV n B k c)) n :=
    sm_cong (fun c hc => by have := piv_j (w := w) hC hk hj hjk hc; grind)
  rw [sm_mul, sm_lin] at h
  unfold dotZ
  rw [h]
  grind
/-- the cells behind a turn -/
def tnE (ce sh : Nat → Int) (nc nl line k : Nat) (bel : Int) : Nat → Int :=
  va_up (fillZ (mixZ (tnC ce sh nc line k bel (wyZ ce line k) (wyZ ce line k * ce (line * 6 + k))) ce (nl * 6)) (line * 6) 6 0) (line * 6 + k) (wyZ ce line k * ce (line * 6 + k))
theorem tn_at_line {ce sh : Nat → Int} {nc nl line k j : Nat} {bel : Int} (hj : j < 6) (hk : k < 6) : tnE ce sh nc nl line k bel (line * 6 + j) = if j = k then wyZ ce line k * ce (line * 6 + k) else 0 := by
  unfold tnE
  by_cases e : j = k
  · subst e; rw [up_same, if_pos rfl]
  · rw [up_ne (by omega), if_neg e]; unfold fillZ; rw [if_pos (by omega)]
theorem tn_at_other {ce sh : Nat → Int} {nc nl line k i j : Nat} {bel : Int} (hj : j < 6) (hk : k < 6) (hi : i < nl) (h : i ≠ line) : tnE ce sh nc nl line k bel (i * 6 + j) = tnC ce sh nc line k bel (wyZ ce line k) (wyZ ce line k * ce (line * 6 + k)) (i * 6 + j) := by
  unfold tnE
  rw [up_ne (by omega)]; unfold fillZ; rw [if_neg (by omega), mix_lt (by omega)]
theorem tn_at_stale {ce sh : Nat → Int} {nc nl line k q : Nat} {bel : Int} (hk : k < 6) (hl : line < nl) (h : nl * 6 ≤ q) : tnE ce sh nc nl line k bel q = ce q := by
  unfold tnE
  rw [up_ne (by omega)]; unfold fillZ; rw [if_neg (by omega), mix_ge (by omega)]
def tabA (nc : Nat) (ce sh : Nat → Int) (nl : Nat) (bel : Int) (W B : Nat → Nat → Int) (s : Int) : Prop :=
  (s = 1 ∨ s = -1) ∧ bel = s * detD 6 B ∧ 0 < bel ∧ CrV 6 B ∧ B 5 = unV 0 ∧ (∀ j, nc ≤ j → j < 5 → B j = unV (1 + j)) ∧ (∀ j, j < nc → ∀ c, nc ≤ c → c < 5 → B j (1 + c) = 0) ∧
  (∀ i j, i < nl → j < 6 → (nc ≤ j ∨ sh j = 0) → ce (i * 6 + j) = s * dotZ 6 (W i) (dlV 6 B j))
theorem tabA_cell {nc : Nat} {ce sh : Nat → Int} {nl : Nat} {bel : Int} {W B : Nat → Nat → Int} {s : Int} {line k i j : Nat} (h : tabA nc ce sh nl bel W B s) (hnc : nc ≤ 5) (hl : line < nl) (hk : k < nc) (hs : sh k = 0) (hi : i < nl) (hj : j < 6) (hjk : j ≠ k) (hjs : nc ≤ j ∨ sh j = 0) :
    bel * (s * wyZ ce line k * dotZ 6 (W i) (dlV 6 (putV B k (W line)) j)) = wyZ ce line k * ce (line * 6 + k) * ce (i * 6 + j) - wyZ ce line k * ce (i * 6 + k) * ce (line * 6 + j) := by
  obtain ⟨hs1, hb, hb0, hC, h5, hU, hS, hcell⟩ := h
  have hpk : ce (line * 6 + k) = s * detD 6 (putV B k (W line)) := by rw [hcell line k hl (by omega) (Or.inr hs), dl_ev B (by omega)]
  have hpj : ce (line * 6 + j) = s * detD 6 (putV B j (W line)) := by rw [hcell line j hl hj hjs, dl_ev B hj]
  have hij := hcell i j hi hj hjs
  have hik := hcell i k hi (by omega) (Or.inr hs)
  have hd := piv_dot (w := W line) hC (show k < 6 by omega) hj hjk (W i)
  rw [hb, hpk, hpj, hij, hik]
  rcases hs1 with e | e <;> subst e <;> grind
theorem tabA_turn {nc : Nat} {ce sh : Nat → Int} {nl : Nat} {bel : Int} {W B : Nat → Nat → Int} {s : Int} {line k : Nat} (h : tabA nc ce sh nl bel W B s) (hnc : nc ≤ 5) (hl : line < nl) (hk : k < nc) (hs : sh k = 0) (hp : ce (line * 6 + k) ≠ 0)
    (hW : ∀ c, nc ≤ c → c < 5 → W line (1 + c) = 0) (z : Int) (hz : z = 0 → 0 < ce (line * 6 + k)) :
    tabA nc (tnE ce sh nc nl line k bel) (va_up sh k z) nl (wyZ ce line k * ce (line * 6 + k)) W (putV B k (W line)) (s * wyZ ce line k) := by
  have hcl := fun i j hi hj hjk hjs => tabA_cell (i := i) (j := j) h hnc hl hk hs hi hj hjk hjs
  obtain ⟨hs1, hb, hb0, hC, h5, hU, hS, hcell⟩ := h
  have hpk : ce (line * 6 + k) = s * detD 6 (putV B k (W line)) := by rw [hcell line k hl (by omega) (Or.inr hs), dl_ev B (by omega)]
  have hwo := wyZ_or ce line k
  have hwp := wyZ_pos (ce := ce) (line := line) (k := k) hp
  have hd0 : detD 6 B ≠ 0 := by intro e; rw [e] at hb; simp at hb; omega
  refine ⟨?_, ?_, hwp.1, piv_Cr hC (by omega) hd0, ?_, ?_, ?_, ?_⟩
  · rcases hs1 with e | e <;> rcases hwo with e2 | e2 <;> rw [e, e2] <;> simp
  · rw [hpk]
    rcases hs1 with e | e <;> subst e <;> grind
  · rw [putV_ne (by omega)]; exact h5
  · intro j h1 h2; rw [putV_ne (by omega)]; exact hU j h1 h2
  · intro j h1 c h2 h3
    by_cases e : j = k
    · subst e; rw [putV_eq]; exact hW c h2 h3
    · rw [putV_ne e]; exact hS j h1 c h2 h3
  · intro i j hi hj hc
    by_cases ei : i = line
    · subst ei
      rw [tn_at_line hj (by omega)]
      by_cases ej : j = k
      · subst ej
        rw [if_pos rfl]
        have h1 := dl_self (n := 6) (putV B j (W i)) (m := j) hj
        rw [putV_eq] at h1
        rw [h1, hpk]
        rcases hs1 with e | e <;> subst e <;> grind
      · rw [if_neg ej]
        have h1 := dl_other (n := 6) (putV B k (W i)) (m := j) (j := k) hj (by omega) ej
        rw [putV_eq] at h1
        rw [h1]; simp
    · rw [tn_at_other hj (by omega) hi ei]
      unfold tnC
      rw [(dm6 hj).1, (dm6 hj).2]
      by_cases ej : j = k
      · subst ej
        rw [if_neg (fun q => q.2.2.1 rfl), piv_k]
        have hz0 : z = 0 := by
          rcases hc with q | q
          · omega
          · rwa [up_same] at q
        have hw1 : wyZ ce line j = 1 := by unfold wyZ; rw [if_neg]; have := hz hz0; omega
        rw [hw1, Int.mul_one]
        exact hcell i j hi hj (Or.inr hs)
      · have hjs : nc ≤ j ∨ sh j = 0 := by
          rcases hc with q | q
          · exact Or.inl q
          · rw [up_ne ej] at q; exact Or.inr q
        have h1 := hcl i j hi hj ej hjs
        by_cases ec : i ≠ line ∧ (wyZ ce line k * ce (i * 6 + k) ≠ 0 ∨ wyZ ce line k * ce (line * 6 + k) ≠ bel) ∧ j ≠ k ∧ (nc ≤ j ∨ sh j = 0)
        · rw [if_pos ec, ← h1, Int.mul_tdiv_cancel_left _ (by omega)]
        · rw [if_neg ec]
          have e1 : wyZ ce line k * ce (i * 6 + k) = 0 := Decidable.byContradiction (fun q => ec ⟨ei, Or.inl q, ej, hjs⟩)
          have e2 : wyZ ce line k * ce (line * 6 + k) = bel := Decidable.byContradiction (fun q => ec ⟨ei, Or.inr q, ej, hjs⟩)
          rw [e1, e2] at h1
          refine (Int.eq_of_mul_eq_mul_left (show bel ≠ 0 by omega) ?_).symm
          rw [h1]; simp
-- what slots tell beyond the columns
theorem dl_5 {B : Nat → Nat → Int} (h5 : B 5 = unV 0) {j : Nat} (hj : j < 5) : dlV 6 B j 0 = 0 := by
  unfold dlV
  exact det_same (a := j) (b := 5) (by omega) (by omega) (by omega) (by rw [putV_eq, putV_ne (by omega), h5])
theorem dl_far {B : Nat → Nat → Int} {j m : Nat} (hm : B m = unV (1 + m)) (hm5 : m < 5) (hj : j < 6) (hjm : j ≠ m) : dlV 6 B j (1 + m) = 0 := by
  unfold dlV
  exact det_same (a := j) (b := m) hjm hj (by omega) (by rw [putV_eq, putV_ne (Ne.symm hjm), hm])
theorem dl_m {nc : Nat} {B : Nat → Nat → Int} (hC : CrV 6 B) (h5 : B 5 = unV 0) (hU : ∀ j, nc ≤ j → j < 5 → B j = unV (1 + j)) (hS : ∀ j, j < nc → ∀ c, nc ≤ c → c < 5 → B j (1 + c) = 0) {m : Nat} (h1 : nc ≤ m) (h2 : m < 5) {c : Nat} (hc : c < 6) : dlV 6 B m c = detD 6 B * unV c (1 + m) := by
  rw [hC c hc (1 + m) (by omega), sm_one (k := m) (by omega) (fun j hj hne => ?_)]
  · rw [hU m h1 h2]; unfold unV; rw [if_pos rfl]; simp
  · rcases (show j < nc ∨ (nc ≤ j ∧ j < 5) ∨ j = 5 by omega) with q | q | q
    · rw [hS j q m h1 h2]; simp
    · rw [hU j q.1 q.2]; unfold unV; rw [if_neg (by omega)]; simp
    · subst q; rw [h5]; unfold unV; rw [if_neg (by omega)]; simp
theorem dot_dl_m {nc : Nat} {B : Nat → Nat → Int} (hC : CrV 6 B) (h5 : B 5 = unV 0) (hU : ∀ j, nc ≤ j → j < 5 → B j = unV (1 + j)) (hS : ∀ j, j < nc → ∀ c, nc ≤ c → c < 5 → B j (1 + c) = 0) {m : Nat} (h1 : nc ≤ m) (h2 : m < 5) {f : Nat → Int} (hf : f (1 + m) = 0) : dotZ 6 f (dlV 6 B m) = 0 := by
  unfold dotZ
  refine sm_z (fun c hc => ?_)
  rw [dl_m hC h5 hU hS h1 h2 hc]
  by_cases e : c = 1 + m
  · subst e; rw [hf]; simp
  · unfold unV; rw [if_neg (Ne.symm e)]; simp
