-- ===== corners: a plan that nothing lets move is told by the conditions that are tight there =====
theorem sm_neg {f : Nat → Int} : ∀ {n : Nat}, sumZ (fun j => -f j) n = -sumZ f n
  | 0 => rfl
  | n + 1 => by
    show sumZ (fun j => -f j) n + -f n = -(sumZ f n + f n)
    rw [sm_neg]; omega
/-- a combination of m vectors -/
def cmbV (m : Nat) (a : Nat → Int) (bs : Nat → Nat → Int) : Nat → Int := fun x => sumZ (fun i => a i * bs i x) m
theorem dot_cmb {N m : Nat} (f : Nat → Int) (a : Nat → Int) (bs : Nat → Nat → Int) : dotZ N f (cmbV m a bs) = sumZ (fun i => a i * dotZ N f (bs i)) m := by
  unfold dotZ cmbV
  have h1 : sumZ (fun c => f c * sumZ (fun i => a i * bs i c) m) N = sumZ (fun c => sumZ (fun i => a i * (f c * bs i c)) m) N := by
    refine sm_cong (fun c _ => ?_)
    rw [← sm_mul]
    exact sm_cong (fun i _ => by grind)
  rw [h1, sm_swap]
  exact sm_cong (fun i _ => by rw [sm_mul])
/-- what is known on the way: the conditions chosen so far, and a basis of what they leave open -/
def vtI (n K : Nat) (A : Nat → Nat → Int) (sel : Nat → Bool) (m : Nat) (bs : Nat → Nat → Int) : Prop :=
  cntZ sel K + m = n ∧ (∀ i, i < m → bs i 0 = 0 ∧ ∀ k, k < K → sel k = true → dotZ (n + 1) (A k) (bs i) = 0) ∧
  (∀ a : Nat → Int, (∀ x, x < n + 1 → cmbV m a bs x = 0) → ∀ i, i < m → a i = 0) ∧
  (∀ w : Nat → Int, w 0 = 0 → (∀ k, k < K → sel k = true → dotZ (n + 1) (A k) w = 0) → ∃ (c : Int) (a : Nat → Int), c ≠ 0 ∧ ∀ x, x < n + 1 → c * w x = cmbV m a bs x)
theorem un_eq (c : Nat) : unV c c = 1 := by unfold unV; rw [if_pos rfl]
theorem un_ne {c x : Nat} (h : x ≠ c) : unV c x = 0 := by unfold unV; rw [if_neg h]
def idV (i : Nat) : Nat → Int := unV (1 + i)
theorem idV_eq (i : Nat) : idV i (1 + i) = 1 := by unfold idV unV; rw [if_pos rfl]
theorem idV_ne {i x : Nat} (h : x ≠ 1 + i) : idV i x = 0 := by unfold idV unV; rw [if_neg h]
theorem vt_0 (n K : Nat) (A : Nat → Nat → Int) : vtI n K A (fun _ => false) n idV := by
  refine ⟨by rw [cnt_0]; omega, ?_, ?_, ?_⟩
  · intro i hi
    exact ⟨idV_ne (by omega), fun k _ h => by cases h⟩
  · intro a ha i hi
    have h1 := ha (1 + i) (by omega)
    unfold cmbV at h1
    rw [sm_one (k := i) hi (fun j _ hj => by rw [idV_ne (by omega)]; simp), idV_eq] at h1
    omega
  · intro w hw _
    refine ⟨1, fun i => w (1 + i), by decide, fun x hx => ?_⟩
    unfold cmbV
    rcases (show x = 0 ∨ ∃ c, x = 1 + c by rcases x with _ | x; exact Or.inl rfl; exact Or.inr ⟨x, by omega⟩) with e | ⟨c, e⟩
    · subst e
      rw [hw, sm_z (fun i _ => by rw [idV_ne (by omega)]; simp)]; rfl
    · subst e
      rw [sm_one (k := c) (by omega) (fun j _ hj => by rw [idV_ne (by omega)]; simp), idV_eq]
      show 1 * w (1 + c) = w (1 + c) * 1
      omega
theorem vt_step {n K : Nat} {A : Nat → Nat → Int} {sel : Nat → Bool} {m : Nat} {bs : Nat → Nat → Int} (h : vtI n K A sel (m + 1) bs) {k : Nat} (hk : k < K) (hne : dotZ (n + 1) (A k) (bs m) ≠ 0) :
    vtI n K A (fun j => if j = k then true else sel j) m (fun i x => dotZ (n + 1) (A k) (bs m) * bs i x - dotZ (n + 1) (A k) (bs i) * bs m x) := by
  obtain ⟨h1, h2, h3, h4⟩ := h
  have hsk : sel k = false := by
    rcases hs : sel k with _ | _
    · rfl
    · exact absurd ((h2 m (by omega)).2 k hk hs) hne
  have hdot : ∀ f i, dotZ (n + 1) f (fun x => dotZ (n + 1) (A k) (bs m) * bs i x - dotZ (n + 1) (A k) (bs i) * bs m x) = dotZ (n + 1) (A k) (bs m) * dotZ (n + 1) f (bs i) - dotZ (n + 1) (A k) (bs i) * dotZ (n + 1) f (bs m) := by
    intro f i
    have := dot_lin (n + 1) f (bs i) (bs m) (dotZ (n + 1) (A k) (bs m)) (-dotZ (n + 1) (A k) (bs i))
    rw [dot_cong (z := fun x => dotZ (n + 1) (A k) (bs m) * bs i x + -dotZ (n + 1) (A k) (bs i) * bs m x) (fun x _ => by grind), this]
    grind
  -- combinations of the new basis, told in the old one
  have hcmb : ∀ (a : Nat → Int) x, cmbV m a (fun i x => dotZ (n + 1) (A k) (bs m) * bs i x - dotZ (n + 1) (A k) (bs i) * bs m x) x = dotZ (n + 1) (A k) (bs m) * sumZ (fun i => a i * bs i x) m - sumZ (fun i => a i * dotZ (n + 1) (A k) (bs i)) m * bs m x := by
    intro a x
    unfold cmbV
    have e : sumZ (fun i => a i * (dotZ (n + 1) (A k) (bs m) * bs i x - dotZ (n + 1) (A k) (bs i) * bs m x)) m = sumZ (fun i => dotZ (n + 1) (A k) (bs m) * (a i * bs i x) + (-bs m x) * (a i * dotZ (n + 1) (A k) (bs i))) m := sm_cong (fun i _ => by grind)
    rw [e, sm_lin]
    grind
  refine ⟨?_, ?_, ?_, ?_⟩
  · rw [cnt_add1 (f := sel) (g := fun j => if j = k then true else sel j) hsk (by simp) (fun j hj => by simp [hj]) hk]; omega
  · intro i hi
    refine ⟨?_, fun j hj hs => ?_⟩
    · show dotZ (n + 1) (A k) (bs m) * bs i 0 - dotZ (n + 1) (A k) (bs i) * bs m 0 = 0
      rw [(h2 i (by omega)).1, (h2 m (by omega)).1]; simp
    · rw [hdot]
      by_cases e : j = k
      · rw [e]; grind
      · have hs2 : sel j = true := by simpa [e] using hs
        rw [(h2 i (by omega)).2 j hj hs2, (h2 m (by omega)).2 j hj hs2]; simp
  · intro a ha i hi
    have h5 := h3 (fun i => if i = m then -sumZ (fun i => a i * dotZ (n + 1) (A k) (bs i)) m else dotZ (n + 1) (A k) (bs m) * a i) (fun x hx => by
      have h6 := ha x hx
      rw [hcmb] at h6
      unfold cmbV
      show sumZ (fun i => (if i = m then -sumZ (fun i => a i * dotZ (n + 1) (A k) (bs i)) m else dotZ (n + 1) (A k) (bs m) * a i) * bs i x) m + (if m = m then -sumZ (fun i => a i * dotZ (n + 1) (A k) (bs i)) m else dotZ (n + 1) (A k) (bs m) * a m) * bs m x = 0
      rw [if_pos rfl]
      have e : sumZ (fun i => (if i = m then -sumZ (fun i => a i * dotZ (n + 1) (A k) (bs i)) m else dotZ (n + 1) (A k) (bs m) * a i) * bs i x) m = dotZ (n + 1) (A k) (bs m) * sumZ (fun i => a i * bs i x) m := by
        rw [← sm_mul]
        exact sm_cong (fun i hi => by rw [if_neg (by omega)]; grind)
      rw [e, ← h6]; grind) i (by omega)
    have h7 : (if i = m then -sumZ (fun i => a i * dotZ (n + 1) (A k) (bs i)) m else dotZ (n + 1) (A k) (bs m) * a i) = 0 := h5
    rw [if_neg (by omega)] at h7
    rcases Int.mul_eq_zero.mp h7 with q | q
    · exact absurd q hne
    · exact q
  · intro w hw hs
    obtain ⟨c, a, hc, ha⟩ := h4 w hw (fun j hj hsj => hs j hj (by by_cases e : j = k; simp [e]; simp [e]; exact hsj))
    have hkw := hs k hk (by simp)
    have h5 : sumZ (fun i => a i * dotZ (n + 1) (A k) (bs i)) m + a m * dotZ (n + 1) (A k) (bs m) = 0 := by
      have h6 : dotZ (n + 1) (A k) (cmbV (m + 1) a bs) = 0 := by
        rw [dot_cong (z := fun x => c * w x) (fun x hx => (ha x hx).symm), dot_mul, hkw]; simp
      rw [dot_cmb] at h6
      exact h6
    refine ⟨dotZ (n + 1) (A k) (bs m) * c, a, ?_, fun x hx => ?_⟩
    · intro e
      rcases Int.mul_eq_zero.mp e with q | q
      · exact hne q
      · exact hc q
    · rw [hcmb]
      have h6 : c * w x = sumZ (fun i => a i * bs i x) m + a m * bs m x := ha x hx
      have h7 : dotZ (n + 1) (A k) (bs m) * c * w x = dotZ (n + 1) (A k) (bs m) * (c * w x) := by grind
      rw [h7, h6]
      have h8 : sumZ (fun i => a i * dotZ (n + 1) (A k) (bs i)) m = -(a m * dotZ (n + 1) (A k) (bs m)) := by omega
      rw [h8]; grind
/-- a condition, over a plan or a way -/
abbrev okD (kind x : Int) : Prop := x = 0 ∨ (x < 0 ∧ kind = 0) ∨ (0 < x ∧ kind = 1)
def plP (n K : Nat) (A : Nat → Nat → Int) (ck : Nat → Int) (y : Nat → Int) : Prop := ∀ k, k < K → okD (ck k) (dotZ (n + 1) (A k) y)
/-- of those that stop a way, the first to do so -/
theorem ratio_min {K : Nat} {P : Nat → Prop} {s r : Nat → Int} (hr : ∀ k, k < K → P k → 0 < r k ∧ 0 ≤ s k) : ∀ n, n ≤ K → (∀ k, k < n → ¬ P k) ∨ ∃ k, k < n ∧ P k ∧ ∀ j, j < n → P j → s k * r j ≤ s j * r k
  | 0, _ => Or.inl (fun k hk => absurd hk (Nat.not_lt_zero k))
  | n + 1, hn => by
    rcases ratio_min hr n (by omega) with h | ⟨k, h1, h2, h3⟩
    · by_cases e : P n
      · refine Or.inr ⟨n, by omega, e, fun j hj hp => ?_⟩
        rcases (show j < n ∨ j = n by omega) with q | q
        · exact absurd hp (h j q)
        · subst q; exact Int.le_refl _
      · refine Or.inl (fun k hk => ?_)
        rcases (show k < n ∨ k = n by omega) with q | q
        · exact h k q
        · subst q; exact e
    · by_cases e : P n ∧ s n * r k < s k * r n
      · refine Or.inr ⟨n, by omega, e.1, fun j hj hp => ?_⟩
        rcases (show j < n ∨ j = n by omega) with q | q
        · have hjk := h3 j q hp
          have hk := hr k (by omega) h2
          have hj2 := hr j (by omega) hp
          have hn2 := hr n (by omega) e.1
          -- s n / r n < s k / r k <= s j / r j
          have e1 : s n * r k * r j ≤ s k * r n * r j := Int.mul_le_mul_of_nonneg_right (by omega) (by omega)
          have e2 : s k * r j * r n ≤ s j * r k * r n := Int.mul_le_mul_of_nonneg_right hjk (by omega)
          have e3 : s n * r j * r k ≤ s j * r n * r k := by grind
          rcases (show s n * r j ≤ s j * r n ∨ s j * r n < s n * r j by omega) with w | w
          · exact w
          · have := Int.mul_lt_mul_of_pos_right w hk.1; omega
        · subst q; exact Int.le_refl _
      · refine Or.inr ⟨k, by omega, h2, fun j hj hp => ?_⟩
        rcases (show j < n ∨ j = n by omega) with q | q
        · exact h3 j q hp
        · subst q
          rcases (show s k * r j ≤ s j * r k ∨ s j * r k < s k * r j by omega) with w | w
          · exact w
          · exact absurd ⟨hp, w⟩ e
/-- what is sought: cost, then value by value -/
abbrev obN (O : Nat → Nat → Int) (n N : Nat) (z y : Nat → Int) : Prop := lexN (fun i => dotZ (n + 1) (O i) y * z 0 - dotZ (n + 1) (O i) z * y 0) N
theorem vertex {n K N : Nat} {A O : Nat → Nat → Int} {ck : Nat → Int} (hO : ∀ w : Nat → Int, w 0 = 0 → (∀ i, i < N → dotZ (n + 1) (O i) w = 0) → ∀ x, x < n + 1 → w x = 0)
    (hray : ∀ w : Nat → Int, w 0 = 0 → plP n K A ck w → lexP (fun i => -dotZ (n + 1) (O i) w) N → False) : ∀ (m : Nat) {sel : Nat → Bool} {bs : Nat → Nat → Int} {y : Nat → Int}, vtI n K A sel m bs → 0 < y 0 → plP n K A ck y → (∀ k, k < K → sel k = true → dotZ (n + 1) (A k) y = 0) →
    ∃ (sel' : Nat → Bool) (y' : Nat → Int), cntZ sel' K = n ∧ (∀ w : Nat → Int, w 0 = 0 → (∀ k, k < K → sel' k = true → dotZ (n + 1) (A k) w = 0) → ∀ x, x < n + 1 → w x = 0) ∧ 0 < y' 0 ∧ plP n K A ck y' ∧ (∀ k, k < K → sel' k = true → dotZ (n + 1) (A k) y' = 0) ∧ obN O n N y' y
  | 0, sel, bs, y, h, hy0, hy, hs => by
    obtain ⟨h1, h2, h3, h4⟩ := h
    refine ⟨sel, y, by omega, fun w hw hk x hx => ?_, hy0, hy, hs, Or.inl (fun i _ => by show _ - _ = _; omega)⟩
    obtain ⟨c, a, hc, ha⟩ := h4 w hw hk
    have h5 : c * w x = 0 := ha x hx
    rcases Int.mul_eq_zero.mp h5 with q | q
    · exact absurd q hc
    · exact q
  | m + 1, sel, bs, y, h, hy0, hy, hs => by
    have hv := h
    obtain ⟨h1, h2, h3, h4⟩ := h
    have hv0 := (h2 m (by omega)).1
    have hvs := (h2 m (by omega)).2
    -- the last of the basis is not nothing
    have hne : ¬ ∀ x, x < n + 1 → bs m x = 0 := by
      intro q
      have := h3 (unV m) (fun x hx => by
        unfold cmbV
        rw [sm_one (k := m) (by omega) (fun j _ hj => by rw [un_ne hj]; simp), q x hx]; simp) m (by omega)
      rw [un_eq] at this
      omega
    -- a way that lowers
    obtain ⟨u, hu0, hus, hul, hun⟩ : ∃ u : Nat → Int, u 0 = 0 ∧ (∀ k, k < K → sel k = true → dotZ (n + 1) (A k) u = 0) ∧ lexP (fun i => -dotZ (n + 1) (O i) u) N ∧ (∀ k, dotZ (n + 1) (A k) u ≠ 0 → dotZ (n + 1) (A k) (bs m) ≠ 0) := by
      rcases lex_tri (fun i => dotZ (n + 1) (O i) (bs m)) N with q | q | q
      · exact absurd (hO (bs m) hv0 q) hne
      · refine ⟨fun x => -1 * bs m x, by show -1 * bs m 0 = 0; rw [hv0]; rfl, fun k hk hsk => by rw [dot_mul, hvs k hk hsk]; rfl, lexP_cong (fun i _ => by rw [dot_mul]; omega) q, fun k hk hz => hk (by rw [dot_mul, hz]; rfl)⟩
      · exact ⟨bs m, hv0, hvs, q, fun k hk => hk⟩
    by_cases ht : ∃ k, k < K ∧ dotZ (n + 1) (A k) y = 0 ∧ dotZ (n + 1) (A k) u ≠ 0
    · obtain ⟨k, k1, k2, k3⟩ := ht
      exact vertex hO hray m (vt_step hv k1 (hun k k3)) hy0 hy (fun j hj hsj => by
        by_cases e : j = k
        · rw [e]; exact k2
        · exact hs j hj (by simpa [e] using hsj))
    · have ht2 : ∀ k, k < K → dotZ (n + 1) (A k) y = 0 → dotZ (n + 1) (A k) u = 0 := fun k hk hz => Decidable.byContradiction (fun q => ht ⟨k, hk, hz, q⟩)
      rcases ratio_min (K := K) (P := fun k => (ck k = 0 ∧ 0 < dotZ (n + 1) (A k) u) ∨ (ck k = 1 ∧ dotZ (n + 1) (A k) u < 0)) (s := fun k => ((dotZ (n + 1) (A k) y).natAbs : Int)) (r := fun k => ((dotZ (n + 1) (A k) u).natAbs : Int)) (fun k _ hp => by
          show 0 < ((dotZ (n + 1) (A k) u).natAbs : Int) ∧ 0 ≤ ((dotZ (n + 1) (A k) y).natAbs : Int)
          rcases hp with q | q <;> omega) K (Nat.le_refl K) with q | ⟨k, k1, k2, k3⟩
      · exfalso
        refine hray u hu0 (fun k hk => ?_) hul
        have hyk := hy k hk
        have hqk := q k hk
        by_cases hz : dotZ (n + 1) (A k) y = 0
        · exact Or.inl (ht2 k hk hz)
        · unfold okD at hyk ⊢
          omega
      · obtain ⟨σ, hσ⟩ : ∃ σ, σ = ((dotZ (n + 1) (A k) y).natAbs : Int) := ⟨_, rfl⟩
        obtain ⟨ρ, hρ⟩ : ∃ ρ, ρ = ((dotZ (n + 1) (A k) u).natAbs : Int) := ⟨_, rfl⟩
        have hρ0 : 0 < ρ := by rcases k2 with w | w <;> omega
        have hσ0 : 0 ≤ σ := by omega
        have hdy : ∀ f, dotZ (n + 1) f (fun x => ρ * y x + σ * u x) = ρ * dotZ (n + 1) f y + σ * dotZ (n + 1) f u := fun f => dot_lin _ _ _ _ _ _
        have hkz : dotZ (n + 1) (A k) (fun x => ρ * y x + σ * u x) = 0 := by
          rw [hdy]
          have hyk := hy k k1
          unfold okD at hyk
          rcases k2 with ⟨w1, w2⟩ | ⟨w1, w2⟩
          · have e1 : ρ = dotZ (n + 1) (A k) u := by omega
            have e2 : σ = -dotZ (n + 1) (A k) y := by omega
            rw [e1, e2]; grind
          · have e1 : ρ = -dotZ (n + 1) (A k) u := by omega
            have e2 : σ = dotZ (n + 1) (A k) y := by omega
            rw [e1, e2]; grind
        have hnew : plP n K A ck (fun x => ρ * y x + σ * u x) := by
          intro j hj
          rw [hdy]
          have hyj := hy j hj
          by_cases hz : dotZ (n + 1) (A j) y = 0
          · rw [hz, ht2 j hj hz]; left; simp
          · have hmin := k3 j hj
            have hyj2 : (dotZ (n + 1) (A j) y < 0 ∧ ck j = 0) ∨ (0 < dotZ (n + 1) (A j) y ∧ ck j = 1) := by
              unfold okD at hyj; omega
            rcases hyj2 with ⟨w1, w2⟩ | ⟨w1, w2⟩
            · rcases (show 0 < dotZ (n + 1) (A j) u ∨ dotZ (n + 1) (A j) u ≤ 0 by omega) with z | z
              · have h5 := hmin (Or.inl ⟨w2, z⟩)
                have h6 : σ * dotZ (n + 1) (A j) u ≤ -dotZ (n + 1) (A j) y * ρ := by
                  have h7 : ((dotZ (n + 1) (A k) y).natAbs : Int) * ((dotZ (n + 1) (A j) u).natAbs : Int) ≤ ((dotZ (n + 1) (A j) y).natAbs : Int) * ((dotZ (n + 1) (A k) u).natAbs : Int) := h5
                  rw [← hσ, ← hρ, show ((dotZ (n + 1) (A j) u).natAbs : Int) = dotZ (n + 1) (A j) u by omega, show ((dotZ (n + 1) (A j) y).natAbs : Int) = -dotZ (n + 1) (A j) y by omega] at h7
                  exact h7
                have h8 : ρ * dotZ (n + 1) (A j) y + σ * dotZ (n + 1) (A j) u ≤ 0 := by grind
                unfold okD; omega
              · have h5 : 0 ≤ σ * -dotZ (n + 1) (A j) u := Int.mul_nonneg hσ0 (by omega)
                have h6 : 0 < ρ * -dotZ (n + 1) (A j) y := Int.mul_pos hρ0 (by omega)
                have h8 : ρ * dotZ (n + 1) (A j) y + σ * dotZ (n + 1) (A j) u < 0 := by grind
                unfold okD; omega
            · rcases (show dotZ (n + 1) (A j) u < 0 ∨ 0 ≤ dotZ (n + 1) (A j) u by omega) with z | z
              · have h5 := hmin (Or.inr ⟨w2, z⟩)
                have h6 : σ * -dotZ (n + 1) (A j) u ≤ dotZ (n + 1) (A j) y * ρ := by
                  have h7 : ((dotZ (n + 1) (A k) y).natAbs : Int) * ((dotZ (n + 1) (A j) u).natAbs : Int) ≤ ((dotZ (n + 1) (A j) y).natAbs : Int) * ((dotZ (n + 1) (A k) u).natAbs : Int) := h5
                  rw [← hσ, ← hρ, show ((dotZ (n + 1) (A j) u).natAbs : Int) = -dotZ (n + 1) (A j) u by omega, show ((dotZ (n + 1) (A j) y).natAbs : Int) = dotZ (n + 1) (A j) y by omega] at h7
                  exact h7
                have h8 : 0 ≤ ρ * dotZ (n + 1) (A j) y + σ * dotZ (n + 1) (A j) u := by grind
                unfold okD; omega
              · have h5 : 0 ≤ σ * dotZ (n + 1) (A j) u := Int.mul_nonneg hσ0 z
                have h6 : 0 < ρ * dotZ (n + 1) (A j) y := Int.mul_pos hρ0 w1
                unfold okD; omega
        have hy0' : 0 < (fun x => ρ * y x + σ * u x) 0 := by
          show 0 < ρ * y 0 + σ * u 0
          rw [hu0]
          have := Int.mul_pos hρ0 hy0
          omega
        have hku : dotZ (n + 1) (A k) u ≠ 0 := by rcases k2 with w | w <;> omega
        obtain ⟨sel', y', r1, r2, r3, r4, r5, r6⟩ := vertex hO hray m (vt_step hv k1 (hun k hku)) hy0' hnew (fun j hj hsj => by
          by_cases e : j = k
          · rw [e]; exact hkz
          · have hsj2 : sel j = true := by simpa [e] using hsj
            rw [hdy, hs j hj hsj2, hus j hj hsj2]; simp)
        refine ⟨sel', y', r1, r2, r3, r4, r5, ?_⟩
        -- what was reached is no worse
        have hle : obN O n N (fun x => ρ * y x + σ * u x) y := by
          have h9 := lexN_mul (a := σ * y 0) (Int.mul_nonneg hσ0 (Int.le_of_lt hy0)) (Or.inr hul)
          refine lexN_cong (fun i _ => ?_) h9
          show σ * y 0 * -dotZ (n + 1) (O i) u = dotZ (n + 1) (O i) y * (ρ * y 0 + σ * u 0) - dotZ (n + 1) (O i) (fun x => ρ * y x + σ * u x) * y 0
          rw [hdy, hu0]; grind
        refine lexN_div hy0' (fun i _ => ?_) (lexN_add (lexN_mul (Int.le_of_lt r3) hle) (lexN_mul (Int.le_of_lt hy0) r6))
        grind
