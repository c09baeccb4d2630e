-- ===== columns begun, one by one =====
theorem bcC_at {ce : Nat → Int} {c : Nat} (hc : c < 5) {p low start way : Int} (q : Nat) : bcC ce c p low start way q = if q = (1 + c) * 6 + 5 then start - low else if q = (1 + c) * 6 + c then way else if q = 5 then ce 5 + p * start else if q = c then p * way else ce q := by
  unfold bcC
  by_cases h1 : q = (1 + c) * 6 + 5
  · rw [h1, up_same, if_pos rfl]
  · rw [up_ne h1, if_neg h1]
    by_cases h2 : q = (1 + c) * 6 + c
    · rw [h2, up_same, if_pos rfl]
    · rw [up_ne h2, if_neg h2]
      by_cases h3 : q = 5
      · rw [h3, up_same, if_pos rfl, up_ne (by omega)]
      · rw [up_ne h3, if_neg h3]
        by_cases h4 : q = c
        · rw [h4, up_same, if_pos rfl]
        · rw [up_ne h4, if_neg h4]
theorem costV_succ {t : Nat} {co : Nat → Int} (c : Nat) : costV (t + 1) co (1 + c) = costV t co (1 + c) + (if c = t then co t else 0) := by
  unfold costV
  by_cases e : c = t
  · subst e
    rw [if_pos (by omega), if_neg (by omega), if_pos rfl, show 1 + c - 1 = c by omega]; omega
  · rw [if_neg e]
    by_cases q : 1 + c ≤ t
    · rw [if_pos (by omega), if_pos (by omega)]; omega
    · rw [if_neg (by omega), if_neg (by omega)]; omega
theorem dot_cost5 {nc t : Nat} (hnc : nc ≤ 5) (ht : t < nc) {co lo hi : Nat → Int} : dotZ 6 (costV (t + 1) co) (dmV nc co lo hi 5) = dotZ 6 (costV t co) (dmV nc co lo hi 5) + co t * stC co lo hi t := by
  rw [dm_5 hnc, dm_5 hnc]
  have e0 : costV (t + 1) co 0 = costV t co 0 := by unfold costV; rw [if_neg (by omega), if_neg (by omega)]
  have e1 : sumZ (fun c => costV (t + 1) co (1 + c) * stC co lo hi c) nc = sumZ (fun c => costV t co (1 + c) * stC co lo hi c) nc + co t * stC co lo hi t := by
    have h1 : sumZ (fun c => costV (t + 1) co (1 + c) * stC co lo hi c) nc = sumZ (fun c => costV t co (1 + c) * stC co lo hi c + (if c = t then co t * stC co lo hi t else 0)) nc := by
      refine sm_cong (fun c _ => ?_)
      rw [costV_succ]
      by_cases e : c = t
      · subst e; rw [if_pos rfl, if_pos rfl, Int.add_mul]
      · rw [if_neg e, if_neg e]; simp
    rw [h1, sm_add, sm_one ht (fun j _ hj => if_neg hj), if_pos rfl]
  rw [e0, e1]; omega
theorem dot_ln5 {nc c : Nat} (hnc : nc ≤ 5) (hc : c < nc) {co lo hi : Nat → Int} (l : Int) : dotZ 6 (lnV c l) (dmV nc co lo hi 5) = stC co lo hi c - l := by
  rw [dot_ln (by omega)]
  have e1 : dmV nc co lo hi 5 (1 + c) = stC co lo hi c := by unfold dmV; rw [if_pos rfl, if_neg (by omega), if_pos (by omega), show 1 + c - 1 = c by omega]
  have e2 : dmV nc co lo hi 5 0 = 1 := by unfold dmV; rw [if_pos rfl, if_pos rfl]
  rw [e1, e2]; omega
theorem dot_hg5 {nc c : Nat} (hnc : nc ≤ 5) (hc : c < nc) {co lo hi : Nat → Int} (u : Int) : dotZ 6 (hgV c u) (dmV nc co lo hi 5) = u - stC co lo hi c := by
  rw [dot_hg (by omega)]
  have e1 : dmV nc co lo hi 5 (1 + c) = stC co lo hi c := by unfold dmV; rw [if_pos rfl, if_neg (by omega), if_pos (by omega), show 1 + c - 1 = c by omega]
  have e2 : dmV nc co lo hi 5 0 = 1 := by unfold dmV; rw [if_pos rfl, if_pos rfl]
  rw [e1, e2]; omega
theorem bc_cell {nc t : Nat} (hnc : nc ≤ 5) (ht : t < nc) {co lo hi ce : Nat → Int} {W : Nat → Nat → Int} {nl : Nat} (hce : ∀ i j, i < nl → j < 6 → ce (i * 6 + j) = dotZ 6 (W i) (dmV nc co lo hi j)) (hn : nc + 1 ≤ nl) (hW0 : W 0 = costV t co) (hWt : W (1 + t) = fun _ => 0) {i j : Nat} (hi' : i < nl) (hj : j < 6) :
    bcC ce t (co t) (lo t) (stC co lo hi t) (wyC co hi t) (i * 6 + j) = dotZ 6 (if i = 0 then costV (t + 1) co else if i = 1 + t then lnV t (lo t) else W i) (dmV nc co lo hi j) := by
  rw [bcC_at (by omega)]
  by_cases i0 : i = 0
  · subst i0
    rw [if_pos rfl, if_neg (by omega), if_neg (by omega)]
    have h1 := hce 0 j hi' hj
    rw [Nat.zero_mul, Nat.zero_add, hW0] at h1
    rw [Nat.zero_mul, Nat.zero_add]
    by_cases j5 : j = 5
    · subst j5; rw [if_pos rfl, h1, dot_cost5 hnc ht]
    · rw [if_neg j5, dm_j _ (by omega), costV_succ]
      by_cases jt : j = t
      · subst jt
        rw [if_pos rfl, if_pos rfl, if_pos ht]
        have : costV j co (1 + j) = 0 := by unfold costV; rw [if_neg (by omega)]
        rw [this, Int.zero_add]
      · rw [if_neg jt, if_neg jt, h1, dm_j _ (by omega), Int.add_zero]
  · rw [if_neg i0]
    by_cases it : i = 1 + t
    · subst it
      rw [if_pos rfl]
      have h1 := hce (1 + t) j hi' hj
      rw [hWt] at h1
      have h2 : dotZ 6 (fun _ => (0 : Int)) (dmV nc co lo hi j) = 0 := sm_z (fun x _ => by simp)
      rw [h2] at h1
      by_cases j5 : j = 5
      · subst j5; rw [if_pos rfl, dot_ln5 hnc ht]
      · rw [if_neg (by omega), dm_j _ (by omega)]
        by_cases jt : j = t
        · subst jt
          rw [if_pos rfl, if_pos ht]
          unfold lnV; rw [if_pos rfl]; simp
        · rw [if_neg (by omega), if_neg (by omega), if_neg (by omega), h1]
          unfold lnV; rw [if_neg (by omega), if_neg (by omega)]; simp
    · rw [if_neg it, if_neg (by omega), if_neg (by omega), if_neg (by omega), if_neg (by omega)]
      exact hce i j hi' hj
theorem bld_step {nc t : Nat} (hnc : nc ≤ 5) (ht : t < nc) {co lo hi : Nat → Int} (hlo : ∀ j, -20 ≤ lo j ∧ lo j ≤ 20) {W : Nat → Nat → Int} {S : TS} (h : bldI nc t co lo hi W S) : ∃ W', bldI nc (t + 1) co lo hi W' (bcT t (co t) (lo t) (hi t) S) := by
  obtain ⟨a1, a2, a3, a4, a5, a6, a7, a8, a9, a10, a11, ⟨a12, a13⟩, s1, s2, s3, s4, s5⟩ := h
  have hcell := fun i j hi' hj => bc_cell (lo := lo) hnc ht a6 a2 a7 (a9 t (Nat.le_refl t) ht) (i := i) (j := j) hi' hj
  have hlo2 : ∀ j, -20 ≤ va_up (tLo S) t (lo t) j ∧ va_up (tLo S) t (lo t) j ≤ 20 := by
    intro j
    by_cases e : j = t
    · rw [e, up_same]; exact hlo t
    · rw [up_ne e]; exact s5 j
  have hsh2 : ∀ j, 0 ≤ va_up (tSh S) t 0 j ∧ va_up (tSh S) t 0 j ≤ 1 := by
    intro j
    by_cases e : j = t
    · rw [e, up_same]; omega
    · rw [up_ne e]; exact s3 j
  have hst : ∀ q, tNl S * 6 ≤ q → bcC (tCe S) t (co t) (lo t) (stC co lo hi t) (wyC co hi t) q = tCe S q := by
    intro q hq
    rw [bcC_at (by omega), if_neg (by omega), if_neg (by omega), if_neg (by omega), if_neg (by omega)]
  by_cases hn : hi t = NONEz
  · have eS : bcT t (co t) (lo t) (hi t) S = (bcC (tCe S) t (co t) (lo t) (stC co lo hi t) (wyC co hi t), tTi S, va_up (tLo S) t (lo t), va_up (tHi S) t (hi t), va_up (tGl S) t (-1), va_up (tSh S) t 0, tNl S, tBel S, tFar S) := by
      unfold bcT; rw [if_pos hn]
    rw [eS]
    refine ⟨fun i => if i = 0 then costV (t + 1) co else if i = 1 + t then lnV t (lo t) else W i, by omega, a2, by show tNl S ≤ nc + 1 + (t + 1); omega, a4, a5, hcell, if_pos rfl, ?_, ?_, ?_, ?_, ⟨a12, a13⟩, ?_, ?_, hsh2, s4, hlo2⟩
    · intro c hc
      show (if 1 + c = 0 then costV (t + 1) co else if 1 + c = 1 + t then lnV t (lo t) else W (1 + c)) = _
      rw [if_neg (by omega)]
      by_cases e : c = t
      · subst e; rw [if_pos rfl]
      · rw [if_neg (by omega)]; exact a8 c (by omega)
    · intro c h1 h2
      show (if 1 + c = 0 then costV (t + 1) co else if 1 + c = 1 + t then lnV t (lo t) else W (1 + c)) = _
      rw [if_neg (by omega), if_neg (by omega)]; exact a9 c (by omega) h2
    · intro i h1 h2
      obtain ⟨c, c1, c2, c3, c4⟩ := a10 i h1 h2
      refine ⟨c, by omega, c2, ?_, ?_⟩
      · show va_up (tGl S) t (-1) c = _
        rw [up_ne (by omega)]; exact c3
      · show (if i = 0 then costV (t + 1) co else if i = 1 + t then lnV t (lo t) else W i) = _
        rw [if_neg (by omega), if_neg (by omega)]; exact c4
    · intro c hc
      show va_up (tLo S) t (lo t) c = lo c ∧ va_up (tHi S) t (hi t) c = hi c ∧ va_up (tSh S) t 0 c = 0 ∧ (hi c ≠ NONEz → ∃ g : Nat, nc + 1 ≤ g ∧ g < tNl S ∧ va_up (tGl S) t (-1) c = (g : Int) ∧ (if g = 0 then costV (t + 1) co else if g = 1 + t then lnV t (lo t) else W g) = hgV c (hi c))
      by_cases e : c = t
      · subst e
        rw [up_same, up_same, up_same]
        exact ⟨rfl, rfl, rfl, fun q => absurd hn q⟩
      · rw [up_ne e, up_ne e, up_ne e, up_ne e]
        obtain ⟨b1, b2, b3, b4⟩ := a11 c (by omega)
        refine ⟨b1, b2, b3, fun q => ?_⟩
        obtain ⟨g, g1, g2, g3, g4⟩ := b4 q
        exact ⟨g, g1, g2, g3, by rw [if_neg (by omega), if_neg (by omega)]; exact g4⟩
    · intro i k h1 hk
      have h2 : tNl S ≤ i := h1
      show -8000000 ≤ bcC (tCe S) t (co t) (lo t) (stC co lo hi t) (wyC co hi t) (i * 6 + k) ∧ bcC (tCe S) t (co t) (lo t) (stC co lo hi t) (wyC co hi t) (i * 6 + k) ≤ 8000000
      rw [hst _ (by omega)]; exact s1 i k h1 hk
    · intro i h1
      have h2 : tNl S ≤ i := h1
      show -100000000000 ≤ bcC (tCe S) t (co t) (lo t) (stC co lo hi t) (wyC co hi t) (i * 6 + 5) ∧ bcC (tCe S) t (co t) (lo t) (stC co lo hi t) (wyC co hi t) (i * 6 + 5) ≤ 100000000000
      rw [hst _ (by omega)]; exact s2 i h1
  · have eS : bcT t (co t) (lo t) (hi t) S = (va_up (va_up (fillZ (bcC (tCe S) t (co t) (lo t) (stC co lo hi t) (wyC co hi t)) (tNl S * 6) 6 0) (tNl S * 6 + t) (-(wyC co hi t))) (tNl S * 6 + 5) (hi t - stC co lo hi t), va_up (tTi S) (tNl S) 1, va_up (tLo S) t (lo t), va_up (tHi S) t (hi t), va_up (va_up (tGl S) t (-1)) t (tNl S : Int), va_up (tSh S) t 0, tNl S + 1, tBel S, tFar S) := by
      unfold bcT; rw [if_neg hn]
    rw [eS]
    have hnew : ∀ q, (q < tNl S * 6 ∨ tNl S * 6 + 6 ≤ q) → va_up (va_up (fillZ (bcC (tCe S) t (co t) (lo t) (stC co lo hi t) (wyC co hi t)) (tNl S * 6) 6 0) (tNl S * 6 + t) (-(wyC co hi t))) (tNl S * 6 + 5) (hi t - stC co lo hi t) q = bcC (tCe S) t (co t) (lo t) (stC co lo hi t) (wyC co hi t) q := by
      intro q hq
      rw [up_ne (by omega), up_ne (by omega)]
      unfold fillZ; rw [if_neg (by omega)]
    have hline : ∀ j, j < 6 → va_up (va_up (fillZ (bcC (tCe S) t (co t) (lo t) (stC co lo hi t) (wyC co hi t)) (tNl S * 6) 6 0) (tNl S * 6 + t) (-(wyC co hi t))) (tNl S * 6 + 5) (hi t - stC co lo hi t) (tNl S * 6 + j) = dotZ 6 (hgV t (hi t)) (dmV nc co lo hi j) := by
      intro j hj
      by_cases j5 : j = 5
      · subst j5; rw [up_same, dot_hg5 hnc ht]
      · rw [up_ne (by omega), dm_j _ (by omega)]
        by_cases jt : j = t
        · subst jt
          rw [up_same, if_pos ht]
          unfold hgV; rw [if_pos rfl]; omega
        · rw [up_ne (by omega)]
          unfold fillZ hgV
          rw [if_pos (by omega), if_neg (by omega), if_neg (by omega)]; simp
    refine ⟨fun i => if i = tNl S then hgV t (hi t) else if i = 0 then costV (t + 1) co else if i = 1 + t then lnV t (lo t) else W i, by omega, by show nc + 1 ≤ tNl S + 1; omega, by show tNl S + 1 ≤ nc + 1 + (t + 1); omega, a4, a5, ?_, ?_, ?_, ?_, ?_, ?_, ⟨?_, ?_⟩, ?_, ?_, hsh2, ?_, hlo2⟩
    · intro i j hi' hj
      have hi2 : i < tNl S + 1 := hi'
      show va_up (va_up (fillZ (bcC (tCe S) t (co t) (lo t) (stC co lo hi t) (wyC co hi t)) (tNl S * 6) 6 0) (tNl S * 6 + t) (-(wyC co hi t))) (tNl S * 6 + 5) (hi t - stC co lo hi t) (i * 6 + j) = dotZ 6 (if i = tNl S then hgV t (hi t) else if i = 0 then costV (t + 1) co else if i = 1 + t then lnV t (lo t) else W i) (dmV nc co lo hi j)
      by_cases e : i = tNl S
      · rw [e, if_pos rfl]; exact hline j hj
      · rw [if_neg e, hnew _ (by omega)]; exact hcell i j (by omega) hj
    · show (if 0 = tNl S then hgV t (hi t) else if 0 = 0 then costV (t + 1) co else if 0 = 1 + t then lnV t (lo t) else W 0) = _
      rw [if_neg (by omega), if_pos rfl]
    · intro c hc
      show (if 1 + c = tNl S then hgV t (hi t) else if 1 + c = 0 then costV (t + 1) co else if 1 + c = 1 + t then lnV t (lo t) else W (1 + c)) = _
      rw [if_neg (by omega), if_neg (by omega)]
      by_cases e : c = t
      · subst e; rw [if_pos rfl]
      · rw [if_neg (by omega)]; exact a8 c (by omega)
    · intro c h1 h2
      show (if 1 + c = tNl S then hgV t (hi t) else if 1 + c = 0 then costV (t + 1) co else if 1 + c = 1 + t then lnV t (lo t) else W (1 + c)) = _
      rw [if_neg (by omega), if_neg (by omega), if_neg (by omega)]; exact a9 c (by omega) h2
    · intro i h1 h2
      have h3 : i < tNl S + 1 := h2
      show ∃ c, c < t + 1 ∧ hi c ≠ NONEz ∧ va_up (va_up (tGl S) t (-1)) t (tNl S : Int) c = (i : Int) ∧ (if i = tNl S then hgV t (hi t) else if i = 0 then costV (t + 1) co else if i = 1 + t then lnV t (lo t) else W i) = hgV c (hi c)
      by_cases e : i = tNl S
      · exact ⟨t, by omega, hn, by rw [up_same, e], by rw [if_pos e]⟩
      · obtain ⟨c, c1, c2, c3, c4⟩ := a10 i h1 (by omega)
        exact ⟨c, by omega, c2, by rw [up_ne (by omega), up_ne (by omega)]; exact c3, by rw [if_neg e, if_neg (by omega), if_neg (by omega)]; exact c4⟩
    · intro c hc
      show va_up (tLo S) t (lo t) c = lo c ∧ va_up (tHi S) t (hi t) c = hi c ∧ va_up (tSh S) t 0 c = 0 ∧ (hi c ≠ NONEz → ∃ g : Nat, nc + 1 ≤ g ∧ g < tNl S + 1 ∧ va_up (va_up (tGl S) t (-1)) t (tNl S : Int) c = (g : Int) ∧ (if g = tNl S then hgV t (hi t) else if g = 0 then costV (t + 1) co else if g = 1 + t then lnV t (lo t) else W g) = hgV c (hi c))
      by_cases e : c = t
      · subst e
        rw [up_same, up_same, up_same, up_same]
        exact ⟨rfl, rfl, rfl, fun q => ⟨tNl S, a2, by omega, rfl, if_pos rfl⟩⟩
      · rw [up_ne e, up_ne e, up_ne e, up_ne e, up_ne e]
        obtain ⟨b1, b2, b3, b4⟩ := a11 c (by omega)
        refine ⟨b1, b2, b3, fun q => ?_⟩
        obtain ⟨g, g1, g2, g3, g4⟩ := b4 q
        exact ⟨g, g1, by omega, g3, by rw [if_neg (by omega), if_neg (by omega), if_neg (by omega)]; exact g4⟩
    · show va_up (tTi S) (tNl S) 1 0 = 0
      rw [up_ne (by omega)]; exact a12
    · intro i h1 h2
      have h3 : i < tNl S + 1 := h2
      show va_up (tTi S) (tNl S) 1 i = 1
      by_cases e : i = tNl S
      · rw [e, up_same]
      · rw [up_ne e]; exact a13 i h1 (by omega)
    · intro i k h1 hk
      have h2 : tNl S + 1 ≤ i := h1
      show -8000000 ≤ va_up (va_up (fillZ (bcC (tCe S) t (co t) (lo t) (stC co lo hi t) (wyC co hi t)) (tNl S * 6) 6 0) (tNl S * 6 + t) (-(wyC co hi t))) (tNl S * 6 + 5) (hi t - stC co lo hi t) (i * 6 + k) ∧ va_up (va_up (fillZ (bcC (tCe S) t (co t) (lo t) (stC co lo hi t) (wyC co hi t)) (tNl S * 6) 6 0) (tNl S * 6 + t) (-(wyC co hi t))) (tNl S * 6 + 5) (hi t - stC co lo hi t) (i * 6 + k) ≤ 8000000
      rw [hnew _ (by omega), hst _ (by omega)]; exact s1 i k (show tNl S ≤ i by omega) hk
    · intro i h1
      have h2 : tNl S + 1 ≤ i := h1
      show -100000000000 ≤ va_up (va_up (fillZ (bcC (tCe S) t (co t) (lo t) (stC co lo hi t) (wyC co hi t)) (tNl S * 6) 6 0) (tNl S * 6 + t) (-(wyC co hi t))) (tNl S * 6 + 5) (hi t - stC co lo hi t) (i * 6 + 5) ∧ va_up (va_up (fillZ (bcC (tCe S) t (co t) (lo t) (stC co lo hi t) (wyC co hi t)) (tNl S * 6) 6 0) (tNl S * 6 + t) (-(wyC co hi t))) (tNl S * 6 + 5) (hi t - stC co lo hi t) (i * 6 + 5) ≤ 100000000000
      rw [hnew _ (by omega), hst _ (by omega)]; exact s2 i (show tNl S ≤ i by omega)
    · intro j
      show 0 ≤ va_up (tTi S) (tNl S) 1 j ∧ va_up (tTi S) (tNl S) 1 j ≤ 2
      by_cases e : j = tNl S
      · rw [e, up_same]; omega
      · rw [up_ne e]; exact s4 j
theorem bld_all {nc : Nat} (hnc : nc ≤ 5) {co lo hi : Nat → Int} (hlo : ∀ j, -20 ≤ lo j ∧ lo j ≤ 20) {S : TS} (h : staleT S) : ∀ t, t ≤ nc → ∃ W, bldI nc t co lo hi W (colsT co lo hi (linesT (startT S) (nc + 1)) t)
  | 0, _ => ⟨_, bld_0 co lo hi h⟩
  | t + 1, ht => by
    obtain ⟨W, hW⟩ := bld_all hnc hlo h t (by omega)
    exact bld_step hnc (by omega) hlo hW
