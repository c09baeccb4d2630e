-- ===== all choices of n conditions, one after the other =====
def chV (n K : Nat) (c : Nat → Int) : Prop := (∀ i, i < n → 0 ≤ c i ∧ c i < (K : Int)) ∧ ∀ i j, i < j → j < n → c i < c j
def ltC (n : Nat) (c t : Nat → Int) : Prop := ∃ i, i < n ∧ c i < t i ∧ ∀ j, j < i → c j = t j
def eqC (n : Nat) (c t : Nat → Int) : Prop := ∀ i, i < n → c i = t i
/-- the last place that can still grow, or -1 -/
def pvI (n K : Nat) (c : Nat → Int) : Nat → Int
  | 0 => -1
  | i + 1 => if c i = (K : Int) - n + i then pvI n K c i else (i : Int)
def nxC (c : Nat → Int) (i0 : Nat) : Nat → Int := fun j => if j < i0 then c j else c i0 + 1 + ((j : Int) - i0)
theorem pv_spec {n K : Nat} {c : Nat → Int} : ∀ {m : Nat}, (pvI n K c m = -1 ∧ ∀ i, i < m → c i = (K : Int) - n + i) ∨ ∃ i0 : Nat, i0 < m ∧ pvI n K c m = (i0 : Int) ∧ c i0 ≠ (K : Int) - n + i0 ∧ ∀ i, i0 < i → i < m → c i = (K : Int) - n + i
  | 0 => Or.inl ⟨rfl, fun i hi => absurd hi (Nat.not_lt_zero i)⟩
  | m + 1 => by
    unfold pvI
    by_cases e : c m = (K : Int) - n + m
    · rw [if_pos e]
      rcases pv_spec (n := n) (K := K) (c := c) (m := m) with ⟨h1, h2⟩ | ⟨i0, h1, h2, h3, h4⟩
      · refine Or.inl ⟨h1, fun i hi => ?_⟩
        rcases (show i < m ∨ i = m by omega) with q | q
        · exact h2 i q
        · rw [q]; exact e
      · refine Or.inr ⟨i0, by omega, h2, h3, fun i h5 h6 => ?_⟩
        rcases (show i < m ∨ i = m by omega) with q | q
        · exact h4 i h5 q
        · rw [q]; exact e
    · rw [if_neg e]
      exact Or.inr ⟨m, by omega, rfl, e, fun i h1 h2 => by omega⟩
theorem ch_gap {n K : Nat} {c : Nat → Int} (h : chV n K c) : ∀ {d i : Nat}, i + d < n → c i + d ≤ c (i + d)
  | 0, i, _ => by show c i + (0 : Int) ≤ c (i + 0); rw [Nat.add_zero]; omega
  | d + 1, i, hd => by
    have h1 := ch_gap h (d := d) (i := i) (by omega)
    have h2 := h.2 (i + d) (i + d + 1) (by omega) (by omega)
    show c i + ((d + 1 : Nat) : Int) ≤ c (i + d + 1)
    omega
theorem ch_max {n K : Nat} {c : Nat → Int} (h : chV n K c) {i : Nat} (hi : i < n) : c i ≤ (K : Int) - n + i := by
  have h1 := ch_gap h (d := n - 1 - i) (i := i) (by omega)
  have h2 := (h.1 (i + (n - 1 - i)) (by omega)).2
  have h3 : ((n - 1 - i : Nat) : Int) = (n : Int) - 1 - i := by omega
  omega
theorem ch_min {n K : Nat} {c : Nat → Int} (h : chV n K c) {i : Nat} (hi : i < n) : (i : Int) ≤ c i := by
  have h1 := ch_gap h (d := i) (i := 0) (by omega)
  have h2 := (h.1 0 (by omega)).1
  rw [Nat.zero_add] at h1
  omega
theorem ch_first {n K : Nat} (h : n ≤ K) : chV n K (fun i => (i : Int)) := ⟨fun i hi => by show 0 ≤ (i : Int) ∧ (i : Int) < K; omega, fun i j h1 h2 => by show (i : Int) < j; omega⟩
theorem first_least {n K : Nat} {t : Nat → Int} (h : chV n K t) : ¬ ltC n t (fun i => (i : Int)) := by
  rintro ⟨i, h1, h2, h3⟩
  have := ch_min h h1
  have h4 : t i < (i : Int) := h2
  omega
theorem ch_size {n K : Nat} {c : Nat → Int} (h : chV n K c) : n ≤ K := by
  rcases n with _ | n
  · exact Nat.zero_le _
  · have h1 := ch_min h (i := n) (by omega)
    have h2 := (h.1 n (by omega)).2
    omega
/-- equal, or one ahead of the other -/
theorem eq_or_lt {n : Nat} {c t : Nat → Int} {a : Nat} (h0 : ∀ j, j < a → t j = c j) (hle : ∀ j, a ≤ j → j < n → t j ≤ c j) : eqC n t c ∨ ltC n t c := by
  rcases first_not (P := fun i => t i = c i) n with h | ⟨i, h1, h2, h3⟩
  · exact Or.inl h
  · right
    have hi : a ≤ i := by
      rcases (show a ≤ i ∨ i < a by omega) with q | q
      · exact q
      · exact absurd (h0 i q) h3
    have := hle i hi h1
    exact ⟨i, h1, by omega, h2⟩
theorem ch_next {n K : Nat} {c : Nat → Int} (h : chV n K c) {i0 : Nat} (hp : pvI n K c n = (i0 : Int)) : i0 < n ∧ chV n K (nxC c i0) ∧ ltC n c (nxC c i0) ∧ ∀ t, chV n K t → ltC n t (nxC c i0) → eqC n t c ∨ ltC n t c := by
  rcases pv_spec (n := n) (K := K) (c := c) (m := n) with ⟨h1, -⟩ | ⟨i1, h1, h2, h3, h4⟩
  · omega
  · have e : i1 = i0 := by omega
    subst e
    have hmax := ch_max h h1
    have hlt : c i1 + 1 ≤ (K : Int) - n + i1 := by omega
    have hat : ∀ j, i1 ≤ j → nxC c i1 j = c i1 + 1 + ((j : Int) - i1) := fun j hj => by unfold nxC; rw [if_neg (by omega)]
    have hbe : ∀ j, j < i1 → nxC c i1 j = c j := fun j hj => by unfold nxC; rw [if_pos hj]
    refine ⟨h1, ⟨fun i hi => ?_, fun i j hij hj => ?_⟩, ⟨i1, h1, by rw [hat i1 (Nat.le_refl _)]; omega, fun j hj => (hbe j hj).symm⟩, fun t ht hlt2 => ?_⟩
    · rcases (show i < i1 ∨ i1 ≤ i by omega) with q | q
      · rw [hbe i q]; exact h.1 i hi
      · rw [hat i q]
        have := (h.1 i1 h1).1
        omega
    · rcases (show j < i1 ∨ i1 ≤ j by omega) with q | q
      · rw [hbe i (by omega), hbe j q]; exact h.2 i j hij hj
      · rw [hat j q]
        rcases (show i < i1 ∨ i1 ≤ i by omega) with w | w
        · rw [hbe i w]
          have := h.2 i i1 w h1
          omega
        · rw [hat i w]; omega
    · obtain ⟨d, d1, d2, d3⟩ := hlt2
      rcases Nat.lt_trichotomy d i1 with q | q | q
      · rw [hbe d q] at d2
        exact Or.inr ⟨d, d1, d2, fun j hj => by rw [d3 j hj, hbe j (by omega)]⟩
      · subst q
        rw [hat d (Nat.le_refl _)] at d2
        refine eq_or_lt (a := d) (fun j hj => by rw [d3 j hj, hbe j hj]) (fun j j1 j2 => ?_)
        rcases (show j = d ∨ d < j by omega) with w | w
        · rw [w]; omega
        · have := ch_max ht j2
          rw [h4 j w j2]; exact this
      · exfalso
        have e1 := d3 i1 q
        rw [hat i1 (Nat.le_refl _)] at e1
        rw [hat d (by omega)] at d2
        have e2 := ch_gap ht (d := d - i1) (i := i1) (by omega)
        rw [show i1 + (d - i1) = d by omega] at e2
        omega
theorem ch_last {n K : Nat} {c : Nat → Int} (hp : pvI n K c n < 0) {t : Nat → Int} (ht : chV n K t) : eqC n t c ∨ ltC n t c := by
  rcases pv_spec (n := n) (K := K) (c := c) (m := n) with ⟨h1, h2⟩ | ⟨i1, h1, h2, h3, h4⟩
  · refine eq_or_lt (a := 0) (fun j hj => absurd hj (Nat.not_lt_zero j)) (fun j _ hj => ?_)
    rw [h2 j hj]; exact ch_max ht hj
  · omega
/-- a number for a choice, growing from one to the next -/
def cdC (c : Nat → Int) : Nat → Int
  | 0 => 0
  | i + 1 => cdC c i * 32 + c i
theorem cdC_lt {n K : Nat} (hK : K ≤ 31) {c t : Nat → Int} (hc : chV n K c) (ht : chV n K t) (h : ltC n c t) : cdC c n < cdC t n := by
  obtain ⟨i, h1, h2, h3⟩ := h
  have key : ∀ m, m ≤ n → (m ≤ i → cdC c m = cdC t m) ∧ (i < m → cdC c m + 1 ≤ cdC t m) := by
    intro m
    induction m with
    | zero => intro _; exact ⟨fun _ => rfl, fun q => by omega⟩
    | succ m ih =>
      intro hm
      obtain ⟨a, b⟩ := ih (by omega)
      have c1 := hc.1 m (by omega)
      have t1 := ht.1 m (by omega)
      refine ⟨fun q => ?_, fun q => ?_⟩
      · show cdC c m * 32 + c m = cdC t m * 32 + t m
        rw [a (by omega), h3 m (by omega)]
      · show cdC c m * 32 + c m + 1 ≤ cdC t m * 32 + t m
        rcases (show m = i ∨ i < m by omega) with w | w
        · have := a (by omega)
          rw [w] at this ⊢
          omega
        · have := b w
          omega
  have := (key n (Nat.le_refl n)).2 h1
  omega
theorem cdC_rng {n K : Nat} (hK : K ≤ 31) {c : Nat → Int} (hc : chV n K c) : ∀ m, m ≤ n → 0 ≤ cdC c m ∧ cdC c m < (32 : Int) ^ m
  | 0, _ => by show (0 : Int) ≤ 0 ∧ (0 : Int) < 32 ^ 0; decide
  | m + 1, hm => by
    have ih := cdC_rng hK hc m (by omega)
    have c1 := hc.1 m (by omega)
    show 0 ≤ cdC c m * 32 + c m ∧ cdC c m * 32 + c m < 32 ^ (m + 1)
    rw [Int.pow_succ]
    omega
-- ===== a choice out of a set =====
def nthS (sel : Nat → Bool) (K : Nat) (j : Nat) : Int := (((List.range K).filter sel)[j]?.getD 0 : Nat)
theorem len_filter (sel : Nat → Bool) : ∀ K, ((List.range K).filter sel).length = cntZ sel K
  | 0 => rfl
  | K + 1 => by
    rw [List.range_succ, List.filter_append, List.length_append, len_filter sel K]
    show cntZ sel K + ([K].filter sel).length = cntZ sel K + (if sel K then 1 else 0)
    rcases h : sel K with _ | _
    · simp [h]
    · simp [h]
theorem nth_ok {sel : Nat → Bool} {n K : Nat} (hn : cntZ sel K = n) : chV n K (nthS sel K) ∧ (∀ j, j < n → sel (nthS sel K j).toNat = true) ∧ (∀ k, k < K → sel k = true → ∃ j, j < n ∧ nthS sel K j = (k : Int)) := by
  have hl : ((List.range K).filter sel).length = n := by rw [len_filter, hn]
  have hat : ∀ j, j < n → ∃ x, ((List.range K).filter sel)[j]? = some x ∧ nthS sel K j = (x : Int) ∧ x < K ∧ sel x = true := by
    intro j hj
    have hx : ((List.range K).filter sel)[j]? = some (((List.range K).filter sel)[j]'(by omega)) := List.getElem?_eq_getElem (by omega)
    have hm := List.mem_of_getElem? hx
    rw [List.mem_filter, List.mem_range] at hm
    exact ⟨_, hx, by unfold nthS; rw [hx]; rfl, hm.1, hm.2⟩
  have hpw : ((List.range K).filter sel).Pairwise (· < ·) := List.Pairwise.filter _ List.pairwise_lt_range
  refine ⟨⟨fun i hi => ?_, fun i j hij hj => ?_⟩, fun j hj => ?_, fun k hk hs => ?_⟩
  · obtain ⟨x, x1, x2, x3, x4⟩ := hat i hi
    rw [x2]; omega
  · obtain ⟨x, x1, x2, x3, x4⟩ := hat i (by omega)
    obtain ⟨z, z1, z2, z3, z4⟩ := hat j hj
    rw [x2, z2]
    obtain ⟨xi, xe⟩ := List.getElem?_eq_some_iff.mp x1
    obtain ⟨zi, ze⟩ := List.getElem?_eq_some_iff.mp z1
    have := List.pairwise_iff_getElem.mp hpw i j xi zi hij
    rw [xe, ze] at this
    omega
  · obtain ⟨x, x1, x2, x3, x4⟩ := hat j hj
    rw [x2, Int.toNat_natCast]; exact x4
  · have hm : k ∈ (List.range K).filter sel := by rw [List.mem_filter, List.mem_range]; exact ⟨hk, hs⟩
    obtain ⟨j, hj⟩ := List.getElem?_of_mem hm
    obtain ⟨ji, -⟩ := List.getElem?_eq_some_iff.mp hj
    exact ⟨j, by omega, by unfold nthS; rw [hj]; rfl⟩
