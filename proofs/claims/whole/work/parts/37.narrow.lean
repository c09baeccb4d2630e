variable {gd : Prop}
-- ===== bounds of a table's cells =====
theorem tab_bnd {nc : Nat} {ce sh : Nat → Int} {nl : Nat} {bel : Int} {W B : Nat → Nat → Int} {s : Int} (hA : tabA nc ce sh nl bel W B s) (hnc : nc ≤ 5) (hBs : ∀ j, j < 6 → smallV (B j)) (hWs : ∀ i, i < nl → smallV (W i)) :
    (∀ i j, i < nl → j < 5 → (nc ≤ j ∨ sh j = 0) → (ce (i * 6 + j)).natAbs ≤ 7085880) ∧ (∀ i, i < nl → (ce (i * 6 + 5)).natAbs ≤ 42515280000) ∧ bel ≤ 7085880 := by
  have hs2 : ∀ x : Int, (s * x).natAbs = x.natAbs := by
    intro x
    rcases hA.1 with e | e <;> rw [e] <;> simp
  refine ⟨fun i j hi hj hc => ?_, fun i hi => ?_, ?_⟩
  · rw [hA.2.2.2.2.2.2.2 i j hi (by omega) hc, hs2, ← dl_ev _ (show j < 6 by omega)]
    refine det6_lin (by rw [putV_ne (by omega)]; exact hA.2.2.2.2.1) (fun a b ha h1 h2 => ?_)
    by_cases e : a = j
    · subst e; rw [putV_eq]; exact (hWs i hi).2 b h1 h2
    · rw [putV_ne e]; exact (hBs a (by omega)).2 b h1 h2
  · rw [hA.2.2.2.2.2.2.2 i 5 hi (by omega) (Or.inl hnc), hs2, ← dl_ev _ (show 5 < 6 by omega)]
    refine det6_all (fun a ha => ?_) (fun a b ha q1 q2 => ?_)
    · by_cases e : a = 5
      · subst e; rw [putV_eq]; exact (hWs i hi).1
      · rw [putV_ne e]; exact (hBs a ha).1
    · by_cases e : a = 5
      · subst e; rw [putV_eq]; exact (hWs i hi).2 b q1 q2
      · rw [putV_ne e]; exact (hBs a ha).2 b q1 q2
  · have h1 : bel.natAbs ≤ 7085880 := by
      rw [hA.2.1, hs2]
      exact det6_lin hA.2.2.2.2.1 (fun a b ha h1 h2 => (hBs a (by omega)).2 b h1 h2)
    omega
-- ===== a line moved =====
theorem tabI_shift {nc : Nat} {W : Nat → Nat → Int} {S S' : TS} {B : Nat → Nat → Int} {s : Int} (h : tabI gd nc W S B s) (i0 : Nat) (hi1 : 1 ≤ i0) (hi0 : i0 < tNl S) (δ : Int)
    (hce : tCe S' = va_up (tCe S) (i0 * 6 + 5) (tCe S (i0 * 6 + 5) - δ * tBel S)) (hsh : tSh S' = tSh S) (hnl : tNl S' = tNl S) (hbl : tBel S' = tBel S) (hfr : tFar S' = tFar S)
    (hti : tTi S' 0 = 0 ∧ ∀ i, 1 ≤ i → i < tNl S → tTi S' i = 1 ∨ tTi S' i = 2) (htb : ∀ j, 0 ≤ tTi S' j ∧ tTi S' j ≤ 2)
    (hL : ∀ c, c < nc → putV W i0 (fun x => W i0 x - δ * unV 0 x) (1 + c) = lnV c (tLo S' c))
    (hsm : (W i0 0 - δ).natAbs ≤ 1000)
    (hsub : gd → ∀ y, feas (tNl S) (putV W i0 (fun x => W i0 x - δ * unV 0 x)) (tTi S') y → feas (tNl S) W (tTi S) y) :
    tabI gd nc (putV W i0 (fun x => W i0 x - δ * unV 0 x)) S' B s := by
  obtain ⟨hA, hnc, hn1, hWz, hL0, ht, hlex, hfar, hBs, hWs, hsem, hbn⟩ := h
  have hWz2 : ∀ i, i < tNl S → ∀ c, nc ≤ c → c < 5 → putV W i0 (fun x => W i0 x - δ * unV 0 x) i (1 + c) = 0 := by
    intro i hi c h1 h2
    by_cases e : i = i0
    · subst e; rw [putV_eq]; show W i (1 + c) - δ * unV 0 (1 + c) = 0
      rw [hWz i hi c h1 h2]; unfold unV; rw [if_neg (by omega)]; simp
    · rw [putV_ne e]; exact hWz i hi c h1 h2
  have hWs2 : ∀ i, i < tNl S → smallV (putV W i0 (fun x => W i0 x - δ * unV 0 x) i) := by
    intro i hi
    by_cases e : i = i0
    · subst e; rw [putV_eq]
      refine ⟨?_, fun x h1 h2 => ?_⟩
      · show (W i 0 - δ * unV 0 0).natAbs ≤ 1000
        rw [show unV 0 0 = 1 from rfl, Int.mul_one]; exact hsm
      · show (W i x - δ * unV 0 x).natAbs ≤ 9
        have e1 : unV 0 x = 0 := by unfold unV; rw [if_neg (by omega)]
        rw [e1, Int.mul_zero, Int.sub_zero]; exact (hWs i hi).2 x h1 h2
    · rw [putV_ne e]; exact hWs i hi
  have hdot : ∀ y, dotZ 6 (fun x => W i0 x - δ * unV 0 x) y = dotZ 6 (W i0) y - δ * y 0 := by
    intro y
    have h1 : dotZ 6 (fun x => W i0 x - δ * unV 0 x) y = sumZ (fun x => 1 * (W i0 x * y x) + (-δ) * (unV 0 x * y x)) 6 := sm_cong (fun j _ => by grind)
    rw [h1, sm_lin]
    have h2 : sumZ (fun x => unV 0 x * y x) 6 = y 0 := dot_un0 y
    rw [h2]
    show 1 * dotZ 6 (W i0) y + -δ * y 0 = _
    grind
  have hA2 : tabA nc (tCe S') (tSh S') (tNl S') (tBel S') (putV W i0 (fun x => W i0 x - δ * unV 0 x)) B s := by
    rw [hce, hsh, hnl, hbl]
    obtain ⟨a1, a2, a3, a4, a5, a6, a7, a8⟩ := hA
    refine ⟨a1, a2, a3, a4, a5, a6, a7, fun i j hi hj hc => ?_⟩
    by_cases e : i = i0
    · subst e
      rw [putV_eq, hdot]
      by_cases ej : j = 5
      · subst ej
        rw [up_same, a8 i 5 hi hj hc]
        have h0 : s * dlV 6 B 5 0 = tBel S := by rw [a2]; unfold dlV; rw [← a5, putV_self]
        rw [← h0]; grind
      · rw [up_ne (by omega), a8 i j hi hj hc, dl_5 a5 (by omega)]; simp
    · rw [putV_ne e, up_ne (by omega)]; exact a8 i j hi hj hc
  have hbd := tab_bnd hA2 hnc hBs (by rw [hnl]; exact hWs2)
  obtain ⟨b1, b2, b3, b4, b5, b6, b7, b8⟩ := hbn
  refine ⟨hA2, hnc, by rw [hnl]; exact hn1, by rw [hnl]; exact hWz2, hL, by rw [hnl]; exact hti, ?_, ?_, hBs, by rw [hnl]; exact hWs2, ?_, ?_⟩
  · intro j hj hs
    rw [hsh] at hs
    refine lexP_cong (fun i hi => ?_) (hlex j hj hs)
    rw [hce, up_ne (by omega)]
  · rw [hfr, hsh]; exact hfar
  · intro hg y hy
    rw [hnl] at hy
    have h1 := hsem hg y (hsub hg y hy)
    rw [hsh, hfr]; exact h1
  · have c1 : ∀ i k, k < 5 → -8000000 ≤ tCe S' (i * 6 + k) ∧ tCe S' (i * 6 + k) ≤ 8000000 := by
      intro i k hk; rw [hce, up_ne (by omega)]; exact b3 i k hk
    have c2 : ∀ i, -100000000000 ≤ tCe S' (i * 6 + 5) ∧ tCe S' (i * 6 + 5) ≤ 100000000000 := by
      intro i
      by_cases e : i = i0
      · subst e
        have := hbd.2.1 i (by rw [hnl]; exact hi0)
        omega
      · rw [hce, up_ne (by omega)]; exact b4 i
    have e1 : S'.2.2.2.2.2.2.1 = S.2.2.2.2.2.2.1 := hnl
    have e2 : S'.2.2.2.2.2.1 = S.2.2.2.2.2.1 := hsh
    have e3 : S'.2.2.2.2.2.2.2.1 = S.2.2.2.2.2.2.2.1 := hbl
    have e4 : S'.2.2.2.2.2.2.2.2 = S.2.2.2.2.2.2.2.2 := hfr
    unfold bndT
    rw [e1, e2, e3, e4]
    exact ⟨b1, b2, c1, c2, b5, b6, htb, b8⟩
-- ===== what the lines of a table are =====
def hgV (c : Nat) (u : Int) : Nat → Int := fun x => if x = 1 + c then -1 else if x = 0 then u else 0
theorem dot_hg {c : Nat} (hc : c < 5) (u : Int) (y : Nat → Int) : dotZ 6 (hgV c u) y = u * y 0 - y (1 + c) := by
  unfold dotZ
  rw [sm_two (a := 0) (b := 1 + c) (by omega) (by omega) (by omega) (fun x hx h1 h2 => by unfold hgV; rw [if_neg h2, if_neg h1]; simp)]
  unfold hgV
  rw [if_neg (by omega), if_pos rfl, if_pos rfl]
  grind
abbrev NONEz : Int := -2000000005
def lineOk (W : Nat → Nat → Int) (ti : Nat → Int) (y : Nat → Int) (i : Nat) : Prop := (ti i = 1 → 0 ≤ dotZ 6 (W i) y) ∧ (ti i = 2 → dotZ 6 (W i) y = 0)
def stI (nc : Nat) (Φ : (Nat → Int) → Prop) (W : Nat → Nat → Int) (S : TS) : Prop :=
  (∀ c, c < nc → tHi S c ≠ NONEz → ∃ g : Nat, nc + 1 ≤ g ∧ g < tNl S ∧ tGl S c = (g : Int) ∧ W g = hgV c (tHi S c) ∧ tTi S g = 1) ∧
  (∀ c c', c < nc → c' < nc → tHi S c ≠ NONEz → tHi S c' ≠ NONEz → tGl S c = tGl S c' → c = c') ∧
  (∀ y, 0 < y 0 → ((∀ i, nc + 1 ≤ i → i < tNl S → (∀ c, c < nc → tHi S c ≠ NONEz → tGl S c ≠ (i : Int)) → lineOk W (tTi S) y i) ↔ Φ y))
def boxF (nc : Nat) (lo hi ti : Nat → Int) (Φ : (Nat → Int) → Prop) (y : Nat → Int) : Prop :=
  0 < y 0 ∧ (∀ c, c < nc → lo c * y 0 ≤ y (1 + c) ∧ (ti (1 + c) = 2 → y (1 + c) = lo c * y 0) ∧ (hi c ≠ NONEz → y (1 + c) ≤ hi c * y 0)) ∧ Φ y
theorem st_feas {nc : Nat} {Φ : (Nat → Int) → Prop} {W : Nat → Nat → Int} {S : TS} {B : Nat → Nat → Int} {s : Int} (h : tabI gd nc W S B s) (hst : stI nc Φ W S) (y : Nat → Int) : feas (tNl S) W (tTi S) y ↔ boxF nc (tLo S) (tHi S) (tTi S) Φ y := by
  have hnc := h.2.1
  have hnl := h.2.2.1
  have hL := h.2.2.2.2.1
  have ht := h.2.2.2.2.2.1.2
  constructor
  · rintro ⟨h0, h1⟩
    refine ⟨h0, fun c hc => ⟨?_, ?_, ?_⟩, (hst.2.2 y h0).mp (fun i q1 q2 _ => h1 i (by omega) q2)⟩
    · have h2 := h1 (1 + c) (by omega) (by omega)
      rw [hL c hc, dot_ln (by omega)] at h2
      rcases ht (1 + c) (by omega) (by omega) with e | e
      · have := h2.1 e; omega
      · have := h2.2 e; omega
    · intro e
      have h2 := (h1 (1 + c) (by omega) (by omega)).2 e
      rw [hL c hc, dot_ln (by omega)] at h2
      omega
    · intro e
      obtain ⟨g, g1, g2, g3, g4, g5⟩ := hst.1 c hc e
      have h2 := (h1 g (by omega) g2).1 g5
      rw [g4, dot_hg (by omega)] at h2
      omega
  · rintro ⟨h0, h1, h2⟩
    refine ⟨h0, fun i q1 q2 => ?_⟩
    rcases (show i < nc + 1 ∨ nc + 1 ≤ i by omega) with w | w
    · obtain ⟨c, rfl⟩ : ∃ c, i = 1 + c := ⟨i - 1, by omega⟩
      obtain ⟨b1, b2, b3⟩ := h1 c (by omega)
      rw [hL c (by omega), dot_ln (by omega)]
      exact ⟨fun _ => by omega, fun e => by have := b2 e; omega⟩
    · by_cases hg : ∃ c, c < nc ∧ tHi S c ≠ NONEz ∧ tGl S c = (i : Int)
      · obtain ⟨c, c1, c2, c3⟩ := hg
        obtain ⟨g, g1, g2, g3, g4, g5⟩ := hst.1 c c1 c2
        have : g = i := by omega
        subst this
        rw [g4, dot_hg (by omega), g5]
        have := (h1 c c1).2.2 c2
        exact ⟨fun _ => by omega, fun e => by omega⟩
      · exact (hst.2.2 y h0).mpr h2 i w q2 (fun c c1 c2 c3 => hg ⟨c, c1, c2, c3⟩)
theorem ln_shift {c : Nat} {l δ : Int} : (fun x => lnV c l x - δ * unV 0 x) = lnV c (l + δ) := by
  funext x
  unfold lnV unV
  by_cases h1 : x = 1 + c
  · rw [if_pos h1, if_pos h1, if_neg (by omega)]; simp
  · rw [if_neg h1, if_neg h1]
    by_cases h2 : x = 0
    · rw [if_pos h2, if_pos h2, if_pos h2]; omega
    · rw [if_neg h2, if_neg h2, if_neg h2]; simp
theorem hg_shift {c : Nat} {u δ : Int} : (fun x => hgV c u x - δ * unV 0 x) = hgV c (u - δ) := by
  funext x
  unfold hgV unV
  by_cases h1 : x = 1 + c
  · rw [if_pos h1, if_pos h1, if_neg (by omega)]; simp
  · rw [if_neg h1, if_neg h1]
    by_cases h2 : x = 0
    · rw [if_pos h2, if_pos h2, if_pos h2]; omega
    · rw [if_neg h2, if_neg h2, if_neg h2]; simp
/-- a least value raised; z: what ties its line then -/
theorem raise_ok {nc : Nat} {Φ : (Nat → Int) → Prop} {W : Nat → Nat → Int} {S : TS} {B : Nat → Nat → Int} {s : Int} (h : tabI gd nc W S B s) (hst : stI nc Φ W S) {c : Nat} (hc : c < nc) {low : Int} (hlow : tLo S c ≤ low) (hl1 : -100 ≤ low ∧ low ≤ 100) (z : Int) (hz : z = 2 ∨ z = tTi S (1 + c)) (S' : TS)
    (hS : S' = (va_up S.1 ((1 + c) * 6 + 5) (S.1 ((1 + c) * 6 + 5) - (low - S.2.2.1 c) * S.2.2.2.2.2.2.2.1), va_up S.2.1 (1 + c) z, va_up S.2.2.1 c low, S.2.2.2.1, S.2.2.2.2.1, S.2.2.2.2.2.1, S.2.2.2.2.2.2.1, S.2.2.2.2.2.2.2.1, S.2.2.2.2.2.2.2.2)) (hh : gd → tTi S (1 + c) = 2 → low = tLo S c) :
    ∃ W', tabI gd nc W' S' B s ∧ stI nc Φ W' S' ∧ (∀ i, i ≠ 1 + c → W' i = W i) := by
  have hnc := h.2.1
  have hnl := h.2.2.1
  have hL := h.2.2.2.2.1
  have ht := h.2.2.2.2.2.1
  have htb := h.2.2.2.2.2.2.2.2.2.2.2.2.2.2.2.2.2.1
  have hW1 : putV W (1 + c) (fun x => W (1 + c) x - (low - tLo S c) * unV 0 x) = putV W (1 + c) (lnV c low) := by
    rw [hL c hc, ln_shift, show tLo S c + (low - tLo S c) = low by omega]
  have hzr : z = 1 ∨ z = 2 := by
    rcases hz with e | e
    · exact Or.inr e
    · rw [e]; exact ht.2 (1 + c) (by omega) (by omega)
  have eT : tTi S' = va_up (tTi S) (1 + c) z := by rw [hS]
  have eL : tLo S' = va_up (tLo S) c low := by rw [hS]
  have eH : tHi S' = tHi S := by rw [hS]
  have eG : tGl S' = tGl S := by rw [hS]
  have eN : tNl S' = tNl S := by rw [hS]
  refine ⟨putV W (1 + c) (lnV c low), ?_, ?_, fun i hi => putV_ne hi⟩
  · rw [← hW1]
    refine tabI_shift h (1 + c) (by omega) (by omega) (low - tLo S c) (by rw [hS]) (by rw [hS]) eN (by rw [hS]) (by rw [hS]) ?_ ?_ ?_ ?_ ?_
    · rw [eT]
      refine ⟨by rw [up_ne (by omega)]; exact ht.1, fun i q1 q2 => ?_⟩
      by_cases e : i = 1 + c
      · rw [e, up_same]; exact hzr
      · rw [up_ne e]; exact ht.2 i q1 q2
    · intro j
      rw [eT]
      by_cases e : j = 1 + c
      · rw [e, up_same]; omega
      · rw [up_ne e]; exact htb j
    · intro c' hc'
      rw [hW1, eL]
      by_cases e : c' = c
      · subst e; rw [putV_eq, up_same]
      · rw [putV_ne (by omega), up_ne e]; exact hL c' hc'
    · rw [hL c hc]
      unfold lnV
      rw [if_neg (by omega), if_pos rfl]
      omega
    · intro hg y hy
      rw [hW1] at hy
      refine ⟨hy.1, fun i q1 q2 => ?_⟩
      have h1 := hy.2 i q1 q2
      by_cases e : i = 1 + c
      · subst e
        rw [eT, up_same, putV_eq, dot_ln (by omega)] at h1
        rw [hL c hc, dot_ln (by omega)]
        have hy0 := hy.1
        have hm : tLo S c * y 0 ≤ low * y 0 := Int.mul_le_mul_of_nonneg_right hlow (by omega)
        refine ⟨fun _ => ?_, fun w => ?_⟩
        · rcases hzr with e1 | e1
          · have := h1.1 e1; omega
          · have := h1.2 e1; omega
        · have hz2 : z = 2 := by omega
          have := h1.2 hz2
          rw [hh hg w] at this; exact this
      · rw [eT, up_ne e, putV_ne e] at h1; exact h1
  · refine ⟨?_, ?_, ?_⟩
    · intro c' hc' hu
      rw [eH] at hu
      obtain ⟨g, g1, g2, g3, g4, g5⟩ := hst.1 c' hc' hu
      exact ⟨g, g1, by rw [eN]; exact g2, by rw [eG]; exact g3, by rw [putV_ne (by omega), eH]; exact g4, by rw [eT, up_ne (by omega)]; exact g5⟩
    · rw [eH, eG]; exact hst.2.1
    · intro y hy
      rw [← hst.2.2 y hy, eH, eG, eN]
      constructor
      · intro w i q1 q2 q3
        have := w i q1 q2 q3
        unfold lineOk at this ⊢
        rw [eT, up_ne (by omega), putV_ne (by omega)] at this
        exact this
      · intro w i q1 q2 q3
        have := w i q1 q2 q3
        unfold lineOk at this ⊢
        rw [eT, up_ne (by omega), putV_ne (by omega)]
        exact this
/-- a greatest value lowered -/
theorem lower_ok {nc : Nat} {Φ : (Nat → Int) → Prop} {W : Nat → Nat → Int} {S : TS} {B : Nat → Nat → Int} {s : Int} (h : tabI gd nc W S B s) (hst : stI nc Φ W S) {c : Nat} (hc : c < nc) {high : Int} (hu : tHi S c ≠ NONEz) (hhigh : high ≤ tHi S c) (hl1 : -100 ≤ high ∧ high ≤ 100) :
    ∃ W', tabI gd nc W' (lowerT c high S) B s ∧ stI nc Φ W' (lowerT c high S) ∧ (∀ i, i < nc + 1 → W' i = W i) := by
  have hnc := h.2.1
  have hnl := h.2.2.1
  have hL := h.2.2.2.2.1
  have ht := h.2.2.2.2.2.1
  have htb := h.2.2.2.2.2.2.2.2.2.2.2.2.2.2.2.2.2.1
  obtain ⟨g, g1, g2, g3, g4, g5⟩ := hst.1 c hc hu
  have hW1 : putV W g (fun x => W g x - (tHi S c - high) * unV 0 x) = putV W g (hgV c high) := by
    rw [g4, hg_shift, show tHi S c - (tHi S c - high) = high by omega]
  have eg : (S.2.2.2.2.1 c).toNat = g := by
    have : S.2.2.2.2.1 c = (g : Int) := g3
    rw [this, Int.toNat_natCast]
  have eC : tCe (lowerT c high S) = va_up (tCe S) (g * 6 + 5) (tCe S (g * 6 + 5) - (tHi S c - high) * tBel S) := by
    show va_up S.1 ((S.2.2.2.2.1 c).toNat * 6 + 5) (S.1 ((S.2.2.2.2.1 c).toNat * 6 + 5) - (S.2.2.2.1 c - high) * S.2.2.2.2.2.2.2.1) = _
    rw [eg]
  have eH : tHi (lowerT c high S) = va_up (tHi S) c high := rfl
  have eT : tTi (lowerT c high S) = tTi S := rfl
  have eG : tGl (lowerT c high S) = tGl S := rfl
  have hnone : high ≠ NONEz := by unfold NONEz; omega
  have hup : ∀ c', va_up (tHi S) c high c' ≠ NONEz ↔ tHi S c' ≠ NONEz := by
    intro c'
    by_cases e : c' = c
    · subst e; rw [up_same]; exact ⟨fun _ => hu, fun _ => hnone⟩
    · rw [up_ne e]
  refine ⟨putV W g (hgV c high), ?_, ?_, fun i hi => putV_ne (by omega)⟩
  · rw [← hW1]
    refine tabI_shift h g (by omega) g2 (tHi S c - high) eC rfl rfl rfl rfl ht htb ?_ ?_ ?_
    · intro c' hc'
      rw [putV_ne (by omega)]; exact hL c' hc'
    · rw [g4]
      unfold hgV
      rw [if_neg (by omega), if_pos rfl]
      omega
    · intro hg y hy
      rw [hW1] at hy
      refine ⟨hy.1, fun i q1 q2 => ?_⟩
      have h1 := hy.2 i q1 q2
      by_cases e : i = g
      · subst e
        rw [eT, putV_eq, dot_hg (by omega)] at h1
        rw [g4, dot_hg (by omega)]
        have hy0 := hy.1
        have hm : high * y 0 ≤ tHi S c * y 0 := Int.mul_le_mul_of_nonneg_right hhigh (by omega)
        exact ⟨fun w => by have := h1.1 w; omega, fun w => by omega⟩
      · rw [eT, putV_ne e] at h1; exact h1
  · refine ⟨?_, ?_, ?_⟩
    · intro c' hc' hu'
      rw [eH] at hu'
      have hu2 := (hup c').mp hu'
      obtain ⟨g', k1, k2, k3, k4, k5⟩ := hst.1 c' hc' hu2
      refine ⟨g', k1, k2, k3, ?_, k5⟩
      rw [eH]
      by_cases e : c' = c
      · subst e
        have : g' = g := by omega
        subst this
        rw [putV_eq, up_same]
      · have : g' ≠ g := by
          intro w
          exact e (hst.2.1 c' c hc' hc hu2 hu (by rw [k3, g3, w]))
        rw [putV_ne this, up_ne e]; exact k4
    · intro a b ha hb h1 h2 h3
      rw [eH] at h1 h2
      exact hst.2.1 a b ha hb ((hup a).mp h1) ((hup b).mp h2) h3
    · intro y hy
      rw [← hst.2.2 y hy]
      constructor
      · intro w i q1 q2 q3
        have := w i q1 q2 (fun c' a1 a2 => q3 c' a1 (by rw [eH] at a2; exact (hup c').mp a2))
        unfold lineOk at this ⊢
        rw [putV_ne (by intro w; exact q3 c hc hu (by rw [w]; exact g3))] at this
        exact this
      · intro w i q1 q2 q3
        have q3' : ∀ c', c' < nc → tHi S c' ≠ NONEz → tGl S c' ≠ (i : Int) := fun c' a1 a2 => q3 c' a1 (by rw [eH]; exact (hup c').mpr a2)
        have := w i q1 q2 q3'
        unfold lineOk at this ⊢
        rw [putV_ne (by intro w; exact q3' c hc hu (by rw [w]; exact g3))]
        exact this
