variable {gd : Prop}
-- ===== rows laid =====
def rwI (nc : Nat) (co lo hi : Nat → Int) (Φ : (Nat → Int) → Prop) (W : Nat → Nat → Int) (S : TS) : Prop :=
  nc + 1 ≤ tNl S ∧ tBel S = 1 ∧ tFar S = -1 ∧ (∀ i j, i < tNl S → j < 6 → tCe S (i * 6 + j) = dotZ 6 (W i) (dmV nc co lo hi j)) ∧
  W 0 = costV nc co ∧ (∀ c, c < nc → W (1 + c) = lnV c (lo c)) ∧ (∀ i, i < tNl S → ∀ c, nc ≤ c → c < 5 → W i (1 + c) = 0) ∧ (∀ i, i < tNl S → smallV (W i)) ∧
  (∀ c, c < nc → tLo S c = lo c ∧ tHi S c = hi c ∧ tSh S c = 0) ∧ (tTi S 0 = 0 ∧ ∀ i, 1 ≤ i → i < tNl S → tTi S i = 1 ∨ tTi S i = 2) ∧ (∀ c, c < nc → tTi S (1 + c) = 1) ∧ stI nc Φ W S ∧ stB S
theorem hg_inj {c c' : Nat} {u u' : Int} (h : hgV c u = hgV c' u') : c = c' := by
  have h1 := congrFun h (1 + c)
  unfold hgV at h1
  rw [if_pos rfl] at h1
  by_cases e : 1 + c = 1 + c'
  · omega
  · rw [if_neg e, if_neg (by omega)] at h1; omega
theorem ln_small {c : Nat} {l : Int} (h : -20 ≤ l ∧ l ≤ 20) : smallV (lnV c l) := by
  refine ⟨?_, fun x h1 h2 => ?_⟩
  · unfold lnV; rw [if_neg (by omega), if_pos rfl]; omega
  · unfold lnV; split
    · decide
    · rw [if_neg (by omega)]; decide
theorem hg_small {c : Nat} {l : Int} (h : -20 ≤ l ∧ l ≤ 20) : smallV (hgV c l) := by
  refine ⟨?_, fun x h1 h2 => ?_⟩
  · unfold hgV; rw [if_neg (by omega), if_pos rfl]; omega
  · unfold hgV; split
    · decide
    · rw [if_neg (by omega)]; decide
theorem cost_small {t : Nat} {co : Nat → Int} (h : ∀ j, -9 ≤ co j ∧ co j ≤ 9) : smallV (costV t co) := by
  refine ⟨?_, fun x h1 h2 => ?_⟩
  · unfold costV; rw [if_neg (by omega)]; decide
  · unfold costV; split
    · have := h (x - 1); omega
    · decide
theorem rw_0 {nc : Nat} (hnc : nc ≤ 5) {co lo hi : Nat → Int} (hco : ∀ j, -9 ≤ co j ∧ co j ≤ 9) (hlo : ∀ j, -20 ≤ lo j ∧ lo j ≤ 20) (hhi : ∀ j, hi j = NONEz ∨ (-20 ≤ hi j ∧ hi j ≤ 20)) {W : Nat → Nat → Int} {S : TS} (h : bldI nc nc co lo hi W S) : rwI nc co lo hi (fun _ => True) W S := by
  obtain ⟨a1, a2, a3, a4, a5, a6, a7, a8, a9, a10, a11, ⟨a12, a13⟩, a14⟩ := h
  have hcase : ∀ i, i < tNl S → i = 0 ∨ (∃ c, c < nc ∧ i = 1 + c) ∨ nc + 1 ≤ i := by
    intro i hi'
    rcases (show i = 0 ∨ (1 ≤ i ∧ i < nc + 1) ∨ nc + 1 ≤ i by omega) with q | q | q
    · exact Or.inl q
    · exact Or.inr (Or.inl ⟨i - 1, by omega, by omega⟩)
    · exact Or.inr (Or.inr q)
  refine ⟨a2, a4, a5, a6, a7, a8, ?_, ?_, fun c hc => ⟨(a11 c hc).1, (a11 c hc).2.1, (a11 c hc).2.2.1⟩, ⟨a12, fun i h1 h2 => Or.inl (a13 i h1 h2)⟩, fun c hc => a13 (1 + c) (by omega) (by omega), ⟨?_, ?_, ?_⟩, a14⟩
  · intro i hi' c h1 h2
    rcases hcase i hi' with q | ⟨c', q1, q2⟩ | q
    · rw [q, a7]; unfold costV; rw [if_neg (by omega)]
    · rw [q2, a8 c' q1]; unfold lnV; rw [if_neg (by omega), if_neg (by omega)]
    · obtain ⟨c', c1, c2, c3, c4⟩ := a10 i q hi'
      rw [c4]; unfold hgV; rw [if_neg (by omega), if_neg (by omega)]
  · intro i hi'
    rcases hcase i hi' with q | ⟨c', q1, q2⟩ | q
    · rw [q, a7]; exact cost_small hco
    · rw [q2, a8 c' q1]; exact ln_small (hlo c')
    · obtain ⟨c', c1, c2, c3, c4⟩ := a10 i q hi'
      rw [c4]
      rcases hhi c' with e | e
      · exact absurd e c2
      · exact hg_small e
  · intro c hc hu
    rw [(a11 c hc).2.1] at hu
    obtain ⟨g, g1, g2, g3, g4⟩ := (a11 c hc).2.2.2 hu
    exact ⟨g, g1, g2, g3, by rw [(a11 c hc).2.1]; exact g4, a13 g (by omega) g2⟩
  · intro c c' hc hc' h1 h2 h3
    rw [(a11 c hc).2.1] at h1
    rw [(a11 c' hc').2.1] at h2
    obtain ⟨g, g1, g2, g3, g4⟩ := (a11 c hc).2.2.2 h1
    obtain ⟨g', k1, k2, k3, k4⟩ := (a11 c' hc').2.2.2 h2
    have : g = g' := by omega
    subst this
    exact hg_inj (g4.symm.trans k4)
  · intro y hy
    refine ⟨fun _ => trivial, fun _ i h1 h2 h3 => ?_⟩
    obtain ⟨c, c1, c2, c3, c4⟩ := a10 i h1 h2
    exact absurd c3 (h3 c c1 (by rw [(a11 c c1).2.1]; exact c2))
def rwV (nc : Nat) (kind : Int) (sa : Nat → Int) (r : Nat) (number : Int) : Nat → Int := fun x => if x = 0 then -(way2 kind * number) else if x ≤ nc then way2 kind * sa (r * 5 + (x - 1)) else 0
theorem dot_rw {nc : Nat} (hnc : nc ≤ 5) (kind : Int) (sa : Nat → Int) (r : Nat) (number : Int) (y : Nat → Int) : dotZ 6 (rwV nc kind sa r number) y = way2 kind * (sumZ (fun c => sa (r * 5 + c) * y (1 + c)) nc - number * y 0) := by
  unfold dotZ
  rw [sm_shift, sm_ext (a := nc) hnc (fun j h1 h2 => by unfold rwV; rw [if_neg (by omega), if_neg (by omega)]; simp)]
  have e : sumZ (fun c => rwV nc kind sa r number (1 + c) * y (1 + c)) nc = sumZ (fun c => way2 kind * (sa (r * 5 + c) * y (1 + c))) nc := by
    refine sm_cong (fun c hc => ?_)
    unfold rwV
    rw [if_neg (by omega), if_pos (by omega), show 1 + c - 1 = c by omega]; grind
  have e0 : rwV nc kind sa r number 0 = -(way2 kind * number) := by unfold rwV; rw [if_pos rfl]
  rw [e, e0, sm_mul]; grind
theorem way2_or (k : Int) : (k = 0 ∧ way2 k = -1) ∨ (k ≠ 0 ∧ way2 k = 1) := by
  unfold way2; split
  · exact Or.inl ⟨by assumption, rfl⟩
  · exact Or.inr ⟨by assumption, rfl⟩
theorem rw_step {nc : Nat} (hnc : nc ≤ 5) {co lo hi sa : Nat → Int} (hsa : ∀ j, -9 ≤ sa j ∧ sa j ≤ 9) {Φ : (Nat → Int) → Prop} {W : Nat → Nat → Int} {S : TS} (h : rwI nc co lo hi Φ W S) {kind number : Int} {r : Nat} (hk : 0 ≤ kind ∧ kind ≤ 2) (hn : -1000 ≤ number ∧ number ≤ 1000) :
    ∃ W', rwI nc co lo hi (fun y => Φ y ∧ keptP kind (sumZ (fun c => sa (r * 5 + c) * y (1 + c)) nc) (number * y 0)) W' (addRowT nc kind sa r number S) := by
  obtain ⟨a1, a2, a3, a4, a5, a6, a7, a8, a9, ⟨a10, a11⟩, a12, ⟨b1, b2, b3⟩, s1, s2, s3, s4, s5⟩ := h
  have hw := way2_or kind
  have hold : ∀ q, q < tNl S * 6 ∨ tNl S * 6 + 6 ≤ q → tCe (addRowT nc kind sa r number S) q = tCe S q := by
    intro q hq
    show va_up (rowZ (fillZ (tCe S) (tNl S * 6) 6 0) (tNl S * 6) (rwG (fillZ (tCe S) (tNl S * 6) 6 0) sa r (way2 kind)) nc) (tNl S * 6 + 5) _ q = tCe S q
    rw [up_ne (by omega), row_out (by omega)]
    unfold fillZ; rw [if_neg (by omega)]
  have hf : ∀ q, q < tNl S * 6 → fillZ (tCe S) (tNl S * 6) 6 0 q = tCe S q := by
    intro q hq; unfold fillZ; rw [if_neg (by omega)]
  have hnew : ∀ j, j < 6 → tCe (addRowT nc kind sa r number S) (tNl S * 6 + j) = dotZ 6 (rwV nc kind sa r number) (dmV nc co lo hi j) := by
    intro j hj
    show va_up (rowZ (fillZ (tCe S) (tNl S * 6) 6 0) (tNl S * 6) (rwG (fillZ (tCe S) (tNl S * 6) 6 0) sa r (way2 kind)) nc) (tNl S * 6 + 5) (way2 kind * (-number + sumZ (fun j => sa (r * 5 + j) * valZ (tLo S) (fillZ (tCe S) (tNl S * 6) 6 0) (tBel S) j) nc)) (tNl S * 6 + j) = _
    by_cases j5 : j = 5
    · subst j5
      rw [up_same, dm_5 hnc]
      have e0 : rwV nc kind sa r number 0 = -(way2 kind * number) := by unfold rwV; rw [if_pos rfl]
      have e1 : sumZ (fun c => rwV nc kind sa r number (1 + c) * stC co lo hi c) nc = sumZ (fun c => way2 kind * (sa (r * 5 + c) * stC co lo hi c)) nc := by
        refine sm_cong (fun c hc => ?_)
        unfold rwV
        rw [if_neg (by omega), if_pos (by omega), show 1 + c - 1 = c by omega]; grind
      have e2 : sumZ (fun j => sa (r * 5 + j) * valZ (tLo S) (fillZ (tCe S) (tNl S * 6) 6 0) (tBel S) j) nc = sumZ (fun c => sa (r * 5 + c) * stC co lo hi c) nc := by
        refine sm_cong (fun c hc => ?_)
        congr 1
        show tLo S c * tBel S + fillZ (tCe S) (tNl S * 6) 6 0 ((1 + c) * 6 + 5) = stC co lo hi c
        rw [hf _ (by omega), a4 (1 + c) 5 (by omega) (by omega), a6 c hc, dot_ln5 hnc hc, (a9 c hc).1, a2]; omega
      rw [e0, e1, e2, sm_mul]; grind
    · rw [up_ne (by omega), dm_j _ (by omega)]
      by_cases jn : j < nc
      · rw [row_in (by omega) (by omega), show tNl S * 6 + j - tNl S * 6 = j by omega, if_pos jn]
        unfold rwG rwV
        rw [hf _ (by omega), a4 (1 + j) j (by omega) hj, a6 j jn, dm_j _ (by omega), if_pos jn, if_neg (by omega), if_pos (by omega), show 1 + j - 1 = j by omega]
        unfold lnV; rw [if_pos rfl, Int.one_mul]
      · rw [row_out (by omega), if_neg jn]
        unfold fillZ rwV
        rw [if_pos (by omega), if_neg (by omega), if_neg (by omega)]; simp
  have eT : tTi (addRowT nc kind sa r number S) = va_up (tTi S) (tNl S) (if kind = 2 then 2 else 1) := rfl
  have eN : tNl (addRowT nc kind sa r number S) = tNl S + 1 := rfl
  have eH : tHi (addRowT nc kind sa r number S) = tHi S := rfl
  have eG : tGl (addRowT nc kind sa r number S) = tGl S := rfl
  have hgl : ∀ c, c < nc → tHi S c ≠ NONEz → tGl S c ≠ (tNl S : Int) := by
    intro c hc hu e
    obtain ⟨g, g1, g2, g3, g4, g5⟩ := b1 c hc hu
    omega
  refine ⟨putV W (tNl S) (rwV nc kind sa r number), by rw [eN]; omega, a2, a3, ?_, by rw [putV_ne (by omega)]; exact a5, ?_, ?_, ?_, a9, ⟨?_, ?_⟩, ?_, ⟨?_, ?_, ?_⟩, ?_, ?_, s3, ?_, s5⟩
  · intro i j hi' hj
    rw [eN] at hi'
    by_cases e : i = tNl S
    · rw [e, putV_eq]; exact hnew j hj
    · rw [putV_ne e, hold _ (by omega)]; exact a4 i j (by omega) hj
  · intro c hc; rw [putV_ne (by omega)]; exact a6 c hc
  · intro i hi' c h1 h2
    rw [eN] at hi'
    by_cases e : i = tNl S
    · rw [e, putV_eq]; unfold rwV; rw [if_neg (by omega), if_neg (by omega)]
    · rw [putV_ne e]; exact a7 i (by omega) c h1 h2
  · intro i hi'
    rw [eN] at hi'
    by_cases e : i = tNl S
    · rw [e, putV_eq]
      refine ⟨?_, fun x h1 h2 => ?_⟩
      · unfold rwV; rw [if_pos rfl]
        rcases hw with ⟨_, q⟩ | ⟨_, q⟩ <;> rw [q] <;> omega
      · unfold rwV; rw [if_neg (by omega)]
        have := hsa (r * 5 + (x - 1))
        split
        · rcases hw with ⟨_, q⟩ | ⟨_, q⟩ <;> rw [q] <;> omega
        · decide
    · rw [putV_ne e]; exact a8 i (by omega)
  · rw [eT, up_ne (by omega)]; exact a10
  · intro i h1 h2
    rw [eN] at h2
    rw [eT]
    by_cases e : i = tNl S
    · rw [e, up_same]; split
      · exact Or.inr rfl
      · exact Or.inl rfl
    · rw [up_ne e]; exact a11 i h1 (by omega)
  · intro c hc; rw [eT, up_ne (by omega)]; exact a12 c hc
  · intro c hc hu
    rw [eH] at hu
    obtain ⟨g, g1, g2, g3, g4, g5⟩ := b1 c hc hu
    exact ⟨g, g1, by rw [eN]; omega, g3, by rw [putV_ne (by omega), eH]; exact g4, by rw [eT, up_ne (by omega)]; exact g5⟩
  · rw [eH, eG]; exact b2
  · intro y hy
    have hlast : lineOk (putV W (tNl S) (rwV nc kind sa r number)) (tTi (addRowT nc kind sa r number S)) y (tNl S) ↔ keptP kind (sumZ (fun c => sa (r * 5 + c) * y (1 + c)) nc) (number * y 0) := by
      unfold lineOk
      rw [eT, up_same, putV_eq, dot_rw hnc]
      by_cases e2 : kind = 2
      · rw [if_pos e2]
        have q : way2 kind = 1 := by rcases hw with ⟨q, _⟩ | ⟨_, q⟩; omega; exact q
        rw [q, Int.one_mul]
        constructor
        · intro w; have := w.2 rfl; exact Or.inl (by omega)
        · intro w; exact ⟨fun z => by omega, fun _ => by rcases w with w | w | w <;> omega⟩
      · rw [if_neg e2]
        rcases hw with ⟨q0, q⟩ | ⟨q0, q⟩
        · rw [q]
          constructor
          · intro w; have := w.1 rfl; unfold keptP; omega
          · intro w; unfold keptP at w; exact ⟨fun _ => by omega, fun z => by omega⟩
        · rw [q]
          constructor
          · intro w; have := w.1 rfl; unfold keptP; omega
          · intro w; unfold keptP at w; exact ⟨fun _ => by omega, fun z => by omega⟩
    show _ ↔ (Φ y ∧ keptP kind (sumZ (fun c => sa (r * 5 + c) * y (1 + c)) nc) (number * y 0))
    rw [← hlast, ← b3 y hy, eN, eH, eG]
    constructor
    · intro w
      refine ⟨fun i q1 q2 q3 => ?_, w (tNl S) a1 (by omega) hgl⟩
      have := w i q1 (by omega) q3
      unfold lineOk at this ⊢
      rw [eT, up_ne (by omega), putV_ne (by omega)] at this
      exact this
    · rintro ⟨w1, w2⟩ i q1 q2 q3
      by_cases e : i = tNl S
      · rw [e]; exact w2
      · have := w1 i q1 (by omega) q3
        unfold lineOk at this ⊢
        rw [eT, up_ne e, putV_ne e]
        exact this
  · intro i k h1 hk
    rw [eN] at h1
    rw [hold _ (by omega)]; exact s1 i k (by omega) hk
  · intro i h1
    rw [eN] at h1
    rw [hold _ (by omega)]; exact s2 i (by omega)
  · intro j
    rw [eT]
    by_cases e : j = tNl S
    · rw [e, up_same]; split <;> omega
    · rw [up_ne e]; exact s4 j
-- ===== the far bound =====
theorem tabA_inv {nc : Nat} {ce sh : Nat → Int} {nl : Nat} {W B Dm : Nat → Nat → Int} (hinv : ∀ c, c < 6 → ∀ x, x < 6 → unV c x = sumZ (fun m => Dm m c * B m x) 6) (hd : detD 6 B = 1 ∨ detD 6 B = -1) (h5 : B 5 = unV 0) (hU : ∀ j, nc ≤ j → j < 5 → B j = unV (1 + j)) (hS : ∀ j, j < nc → ∀ c, nc ≤ c → c < 5 → B j (1 + c) = 0)
    (hc : ∀ i j, i < nl → j < 6 → (nc ≤ j ∨ sh j = 0) → ce (i * 6 + j) = dotZ 6 (W i) (Dm j)) : tabA nc ce sh nl 1 W B (detD 6 B) := by
  obtain ⟨h1, h2⟩ := cr_of_inv hinv
  refine ⟨hd, ?_, by omega, h2, h5, hU, hS, ?_⟩
  · rcases hd with e | e <;> rw [e] <;> rfl
  · intro i j hil hj hcc
    rw [hc i j hil hj hcc]
    have e : dotZ 6 (W i) (dlV 6 B j) = detD 6 B * dotZ 6 (W i) (Dm j) := by
      rw [← dot_mul]
      exact dot_cong (fun x hx => by rw [h1 j x hj hx, Int.mul_comm])
    rw [e]
    rcases hd with e | e <;> rw [e] <;> simp
theorem b0_dot {nc : Nat} (hnc : nc ≤ 5) {co lo hi : Nat → Int} {j : Nat} (hj : j < nc) (y : Nat → Int) : dotZ 6 (b0V nc co lo hi j) y = wyC co hi j * (y (1 + j) - stC co lo hi j * y 0) := by
  unfold dotZ
  rw [sm_two (a := 0) (b := 1 + j) (by omega) (by omega) (by omega) (fun x hx h1 h2 => by rw [b0_in hj, if_neg h2, if_neg h1]; simp), b0_in hj, b0_in hj, if_neg (by omega), if_pos rfl, if_pos rfl]
  grind
theorem rw_sem {nc : Nat} (hnc : nc ≤ 5) {co lo hi : Nat → Int} {Φ : (Nat → Int) → Prop} {W : Nat → Nat → Int} {S : TS} (h : rwI nc co lo hi Φ W S) {y : Nat → Int} (hy : feas (tNl S) W (tTi S) y) {j : Nat} (hj : j < nc) : 0 ≤ dotZ 6 (b0V nc co lo hi j) y := by
  obtain ⟨a1, a2, a3, a4, a5, a6, a7, a8, a9, ⟨a10, a11⟩, a12, ⟨b1, b2, b3⟩, -⟩ := h
  rw [b0_dot hnc hj]
  have h1 := (hy.2 (1 + j) (by omega) (by omega)).1 (a12 j hj)
  rw [a6 j hj, dot_ln (by omega)] at h1
  unfold wyC stC wayZ startZ
  by_cases e : co j < 0 ∧ hi j ≠ -2000000005
  · rw [if_pos e, if_pos e]
    obtain ⟨g, g1, g2, g3, g4, g5⟩ := b1 j hj (by rw [(a9 j hj).2.1]; exact e.2)
    have h2 := (hy.2 g (by omega) g2).1 g5
    rw [g4, dot_hg (by omega), (a9 j hj).2.1] at h2
    omega
  · rw [if_neg e, if_neg e]; omega
theorem lex_b0 {nc : Nat} (hnc : nc ≤ 5) {co lo hi : Nat → Int} {Φ : (Nat → Int) → Prop} {W : Nat → Nat → Int} {S : TS} (h : rwI nc co lo hi Φ W S) {j : Nat} (hj : j < nc) :
    tCe S j = co j * wyC co hi j ∧ (∀ c, c < nc → tCe S ((1 + c) * 6 + j) = if c = j then wyC co hi j else 0) := by
  obtain ⟨a1, a2, a3, a4, a5, a6, -⟩ := h
  constructor
  · have h1 := a4 0 j (by omega) (by omega)
    rw [Nat.zero_mul, Nat.zero_add, a5, dm_j _ (by omega), if_pos hj] at h1
    rw [h1]
    unfold costV; rw [if_pos (by omega), show 1 + j - 1 = j by omega]
  · intro c hc
    rw [a4 (1 + c) j (by omega) (by omega), a6 c hc, dm_j _ (by omega), if_pos hj]
    unfold lnV
    by_cases e : c = j
    · subst e; rw [if_pos rfl, if_pos rfl, Int.one_mul]
    · rw [if_neg (by omega), if_neg (by omega), if_neg e]; simp
theorem lex_ok {nc : Nat} (hnc : nc ≤ 5) {co lo hi : Nat → Int} {Φ : (Nat → Int) → Prop} {W : Nat → Nat → Int} {S : TS} (h : rwI nc co lo hi Φ W S) {j : Nat} (hj : j < nc) (hp : ¬ tCe S j < 0) : lexP (fun i => tCe S (i * 6 + j)) (nc + 1) := by
  obtain ⟨h1, h2⟩ := lex_b0 hnc h hj
  rcases (show 0 < tCe S j ∨ tCe S j = 0 by omega) with q | q
  · exact ⟨0, by omega, by show 0 < tCe S (0 * 6 + j); rw [Nat.zero_mul, Nat.zero_add]; exact q, fun j hj => absurd hj (Nat.not_lt_zero j)⟩
  · have hc0 : co j = 0 := by
      rw [q] at h1
      rcases wyC_or co hi j with e | e <;> rw [e] at h1 <;> omega
    have hw1 : wyC co hi j = 1 := by unfold wyC wayZ; rw [if_neg (by omega)]
    refine ⟨1 + j, by omega, ?_, fun i hi' => ?_⟩
    · show 0 < tCe S ((1 + j) * 6 + j)
      rw [h2 j hj, if_pos rfl, hw1]; decide
    · show tCe S (i * 6 + j) = 0
      rcases (show i = 0 ∨ ∃ c, i = 1 + c by rcases i with _ | i; exact Or.inl rfl; exact Or.inr ⟨i, by omega⟩) with e | ⟨c, e⟩
      · subst e; rw [Nat.zero_mul, Nat.zero_add]; exact q
      · subst e; rw [h2 c (by omega), if_neg (by omega)]
theorem rw_bnd {nc : Nat} (hnc : nc ≤ 5) {co lo hi : Nat → Int} {Φ : (Nat → Int) → Prop} {W : Nat → Nat → Int} {S S' : TS} {B : Nat → Nat → Int} {s : Int} (h : rwI nc co lo hi Φ W S) (h18 : tNl S ≤ 18) (hA : tabA nc (tCe S') (tSh S) (tNl S) 1 W B s) (hBs : ∀ j, j < 6 → smallV (B j)) (hst : ∀ q, tNl S * 6 ≤ q → tCe S' q = tCe S q)
    (e1 : tTi S' = tTi S) (e2 : tSh S' = tSh S) (e3 : tNl S' = tNl S) (e4 : tBel S' = 1) (e5 : -1 ≤ tFar S' ∧ tFar S' ≤ 4) : bndT nc S' := by
  obtain ⟨a1, a2, a3, a4, a5, a6, a7, a8, a9, a10, a12, a13, s1, s2, s3, s4, s5⟩ := h
  obtain ⟨c1, c2, -⟩ := tab_bnd hA hnc hBs a8
  refine ⟨by show tNl S' ≤ 18; rw [e3]; exact h18, hnc, ?_, ?_, ?_, ?_, ?_, e5⟩
  · intro i k hk
    show -8000000 ≤ tCe S' (i * 6 + k) ∧ tCe S' (i * 6 + k) ≤ 8000000
    rcases (show i < tNl S ∨ tNl S ≤ i by omega) with q | q
    · have := c1 i k q hk (by rcases (show nc ≤ k ∨ k < nc by omega) with w | w; exact Or.inl w; exact Or.inr (a9 k w).2.2)
      omega
    · rw [hst _ (by omega)]; exact s1 i k q hk
  · intro i
    show -100000000000 ≤ tCe S' (i * 6 + 5) ∧ tCe S' (i * 6 + 5) ≤ 100000000000
    rcases (show i < tNl S ∨ tNl S ≤ i by omega) with q | q
    · have := c2 i q; omega
    · rw [hst _ (by omega)]; exact s2 i q
  · show 0 < tBel S' ∧ tBel S' ≤ 8000000
    rw [e4]; omega
  · show ∀ j, 0 ≤ tSh S' j ∧ tSh S' j ≤ 1
    rw [e2]; exact s3
  · show ∀ j, 0 ≤ tTi S' j ∧ tTi S' j ≤ 2
    rw [e1]; exact s4
/-- where no column saves without end -/
theorem near_ok {nc : Nat} (hnc : nc ≤ 5) {co lo hi : Nat → Int} (hlo : ∀ j, -20 ≤ lo j ∧ lo j ≤ 20) (hhi : ∀ j, hi j = NONEz ∨ (-20 ≤ hi j ∧ hi j ≤ 20)) {Φ : (Nat → Int) → Prop} {W : Nat → Nat → Int} {S : TS} (h : rwI nc co lo hi Φ W S) (h18 : tNl S ≤ 18) (hp : ∀ j, j < nc → ¬ tCe S j < 0) : ∃ B s, tabI gd nc W S B s := by
  have hlex := fun j hj => lex_ok hnc h (j := j) hj (hp j hj)
  have hsem := fun y hy j hj => rw_sem hnc h (y := y) hy (j := j) hj
  have h' := h
  obtain ⟨a1, a2, a3, a4, a5, a6, a7, a8, a9, a10, a12, a13, -⟩ := h
  have hA := tabA_b0 (ce := tCe S) (sh := tSh S) (nl := tNl S) (W := W) hnc (fun i j hi' hj _ => a4 i j hi' hj)
  have hBs := b0_small hnc (co := co) hlo hhi
  refine ⟨b0V nc co lo hi, detD 6 (b0V nc co lo hi), by rw [a2]; exact hA, hnc, a1, a7, fun c hc => by rw [a6 c hc, (a9 c hc).1], a10, fun j hj _ => hlex j hj, Or.inl a3, hBs, a8, ?_, rw_bnd hnc h' h18 hA hBs (fun _ _ => rfl) rfl rfl rfl a2 (by rw [a3]; omega)⟩
  intro _ y hy j hj
  exact ⟨fun _ _ => hsem y hy j hj, fun q => absurd (a9 j hj).2.2 q⟩
theorem mostZ_spec {ce : Nat → Int} : ∀ {n m : Nat}, mostZ ce n = (m : Int) → m < n ∧ ce m < 0 ∧ ∀ k, k < n → ce k < 0 → ce m ≤ ce k ∧ (ce k = ce m → k ≤ m)
  | 0, m, h => by simp [mostZ] at h <;> omega
  | n + 1, m, h => by
    by_cases hc : ce n < 0 ∧ (mostZ ce n < 0 ∨ ce n ≤ ce (mostZ ce n).toNat)
    · rw [mostZ_yes hc] at h
      have : n = m := by omega
      subst this
      refine ⟨by omega, hc.1, fun k hk hneg => ⟨?_, fun _ => by omega⟩⟩
      rcases (show k = n ∨ k < n by omega) with q | q
      · rw [q]; omega
      · have hnn : ∀ {a : Nat}, mostZ ce a < 0 → ∀ k, k < a → ¬ ce k < 0 := by
          intro a
          induction a with
          | zero => intro _ k hk; omega
          | succ a ih =>
            intro ha k hk hk0
            by_cases hx : ce a < 0 ∧ (mostZ ce a < 0 ∨ ce a ≤ ce (mostZ ce a).toNat)
            · rw [mostZ_yes hx] at ha; omega
            · rw [mostZ_no hx] at ha
              rcases (show k < a ∨ k = a by omega) with w | w
              · exact ih ha k w hk0
              · subst w; exact hx ⟨hk0, Or.inl ha⟩
        rcases (show mostZ ce n < 0 ∨ 0 ≤ mostZ ce n by omega) with w | w
        · exact absurd hneg (hnn w k q)
        · obtain ⟨o, ho⟩ : ∃ o : Nat, mostZ ce n = (o : Int) := ⟨(mostZ ce n).toNat, by omega⟩
          have ih := (mostZ_spec ho).2.2 k q hneg
          rcases hc.2 with z | z
          · omega
          · rw [ho, Int.toNat_natCast] at z; omega
    · rw [mostZ_no hc] at h
      obtain ⟨h1, h2, h3⟩ := mostZ_spec h
      refine ⟨by omega, h2, fun k hk hneg => ?_⟩
      rcases (show k < n ∨ k = n by omega) with q | q
      · exact h3 k q hneg
      · subst q
        have : ¬ ce k ≤ ce m := fun z => hc ⟨hneg, Or.inr (by rw [h, Int.toNat_natCast]; exact z)⟩
        omega
theorem mostZ_none {ce : Nat → Int} : ∀ {n : Nat}, mostZ ce n < 0 → ∀ k, k < n → ¬ ce k < 0
  | 0, _, k, hk, _ => absurd hk (Nat.not_lt_zero k)
  | n + 1, ha, k, hk, hk0 => by
    by_cases hx : ce n < 0 ∧ (mostZ ce n < 0 ∨ ce n ≤ ce (mostZ ce n).toNat)
    · rw [mostZ_yes hx] at ha; omega
    · rw [mostZ_no hx] at ha
      rcases (show k < n ∨ k = n by omega) with w | w
      · exact mostZ_none ha k w hk0
      · subst w; exact hx ⟨hk0, Or.inl ha⟩
