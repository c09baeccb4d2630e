variable {gd : Prop}
-- ===== plans compared =====
def objV (nc : Nat) (co : Nat → Int) (i : Nat) : Nat → Int := if i = 0 then costV nc co else unV i
/-- z costs no more than y, or as much and has the lesser values -/
def leqP (nc : Nat) (co : Nat → Int) (z y : Nat → Int) : Prop := lexN (fun i => dotZ 6 (objV nc co i) y * z 0 - dotZ 6 (objV nc co i) z * y 0) (nc + 1)
theorem dot_un {i : Nat} (hi : i < 6) (y : Nat → Int) : dotZ 6 (unV i) y = y i := by
  unfold dotZ
  rw [sm_one hi (fun j _ hj => by unfold unV; rw [if_neg hj]; simp)]
  simp [unV]
theorem leq_trans {nc : Nat} {co a b c : Nat → Int} (ha : 0 < a 0) (hb : 0 < b 0) (hc : 0 < c 0) (h1 : leqP nc co a b) (h2 : leqP nc co b c) : leqP nc co a c := by
  refine lexN_div hb (fun i _ => ?_) (lexN_add (lexN_mul (Int.le_of_lt ha) h2) (lexN_mul (Int.le_of_lt hc) h1))
  grind
theorem tabI_weak {gd' : Prop} {nc : Nat} {W : Nat → Nat → Int} {S : TS} {B : Nat → Nat → Int} {s : Int} (hw : gd' → gd) (h : tabI gd nc W S B s) : tabI gd' nc W S B s := by
  obtain ⟨a1, a2, a3, a4, a5, a6, a7, a8, a9, a10, a11, a12⟩ := h
  exact ⟨a1, a2, a3, a4, a5, a6, a7, a8, a9, a10, fun q => a11 (hw q), a12⟩
theorem cp_0 {nc : Nat} {S : TS} : cpV nc S 0 = tBel S := by unfold cpV; rw [if_pos rfl]
theorem cp_c {nc : Nat} {S : TS} {c : Nat} (hc : c < nc) : cpV nc S (1 + c) = valZ (tLo S) (tCe S) (tBel S) c := by
  unfold cpV; rw [if_neg (by omega), if_pos (by omega), show 1 + c - 1 = c by omega]
theorem corner_leq {nc : Nat} {W : Nat → Nat → Int} {S : TS} {B : Nat → Nat → Int} {s : Int} {co : Nat → Int} (h : tabI gd nc W S B s) (hg : gd) (hW : W 0 = costV nc co) (hf : tFar S = -1) (y : Nat → Int) (hy : feas (tNl S) W (tTi S) y) : leqP nc co (cpV nc S) y := by
  have hn := h.2.1
  refine lexN_cong (fun i hi => ?_) (corner_min h hg hf y hy)
  rw [cp_0]
  rcases (show i = 0 ∨ ∃ c, i = 1 + c by rcases i with _ | i; exact Or.inl rfl; exact Or.inr ⟨i, by omega⟩) with e | ⟨c, e⟩
  · subst e
    have e1 : objV nc co 0 = W 0 := by unfold objV; rw [if_pos rfl, hW]
    rw [e1, cp_W h (by have := h.2.2.1; omega)]
  · subst e
    have e1 : objV nc co (1 + c) = unV (1 + c) := by unfold objV; rw [if_neg (by omega)]
    rw [e1, dot_un (by omega), dot_un (by omega), cp_c (by omega), h.2.2.2.2.1 c (by omega), dot_ln (by omega)]
    show _ = y (1 + c) * tBel S - (tLo S c * tBel S + tCe S ((1 + c) * 6 + 5)) * y 0
    grind
-- ===== right plans =====
def rightP (nc : Nat) (kd pa : Nat → Int) (y : Nat → Int) : Prop := (∀ c, c < nc → 1 ≤ kd c → ∃ z : Int, y (1 + c) = z * y 0) ∧ (∀ c, c < nc → kd c = 2 → ∀ p : Nat, pa c = (p : Int) → p < nc → y (1 + c) = 0 → y (1 + p) = 0)
def inBox (nc : Nat) (lo hi : Nat → Int) (y : Nat → Int) : Prop := 0 < y 0 ∧ ∀ c, c < nc → lo c * y 0 ≤ y (1 + c) ∧ (hi c ≠ NONEz → y (1 + c) ≤ hi c * y 0)
def FP (nc : Nat) (kd pa lo hi : Nat → Int) (Φ : (Nat → Int) → Prop) (y : Nat → Int) : Prop := inBox nc lo hi y ∧ Φ y ∧ rightP nc kd pa y
def rayP (nc : Nat) (co : Nat → Int) (F : (Nat → Int) → Prop) : Prop := ∃ (a d : Nat → Int) (M0 : Int), d 0 = 0 ∧ dotZ 6 (costV nc co) d < 0 ∧ ∀ M, M0 ≤ M → F (fun x => 1 * a x + M * d x)
/-- what is known of a program's columns -/
def colsOk (nc : Nat) (kd pa lo hi : Nat → Int) : Prop := nc ≤ 5 ∧ (∀ j, 0 ≤ kd j ∧ kd j ≤ 2) ∧ (∀ j, -20 ≤ lo j ∧ lo j ≤ 20) ∧ (∀ j, hi j = NONEz ∨ (-20 ≤ hi j ∧ hi j ≤ 20)) ∧ (∀ c, c < nc → 1 ≤ kd c → hi c ≠ NONEz ∧ hi c - lo c ≤ 9) ∧ (∀ c, c < nc → kd c = 2 → lo c = 0 ∧ hi c = 1 ∧ pa c ≠ (c : Int))
def NI (gd : Prop) (nc : Nat) (co kd lo0 hi0 : Nat → Int) (Φ : (Nat → Int) → Prop) (S : TS) : Prop :=
  (∃ W B s, tabI gd nc W S B s ∧ stI nc Φ W S ∧ W 0 = costV nc co) ∧ (∀ j, -20 ≤ tLo S j ∧ tLo S j ≤ 20) ∧
  (∀ c, c < nc → lo0 c ≤ tLo S c ∧ (hi0 c ≠ NONEz → tHi S c ≠ NONEz ∧ -20 ≤ tHi S c ∧ tHi S c ≤ hi0 c) ∧ (hi0 c = NONEz → tHi S c = NONEz)) ∧
  (∀ c, c < nc → tTi S (1 + c) = 2 → 0 ≤ tLo S c ∧ (gd → tLo S c = 0))
abbrev regP (nc : Nat) (Φ : (Nat → Int) → Prop) (S : TS) (y : Nat → Int) : Prop := boxF nc (tLo S) (tHi S) (tTi S) Φ y
theorem fix_trans {S S' S'' : TS} (h : fixP S S') (h' : fixP S' S'') : fixP S S'' := by
  obtain ⟨a1, a2, a3, a4, a5⟩ := h
  obtain ⟨b1, b2, b3, b4, b5⟩ := h'
  exact ⟨b1.trans a1, b2.trans a2, b3.trans a3, b4.trans a4, b5.trans a5⟩
theorem st_fix {nc : Nat} {Φ : (Nat → Int) → Prop} {W : Nat → Nat → Int} {S S' : TS} (h : stI nc Φ W S) (hf : fixP S S') : stI nc Φ W S' := by
  obtain ⟨e1, e2, e3, e4, e5⟩ := hf
  unfold stI at h ⊢
  rw [e1, e2, e4, e5]
  exact h
/-- a node descended -/
theorem NI_desc {nc : Nat} {co kd lo0 hi0 : Nat → Int} {Φ : (Nat → Int) → Prop} {S : TS} (h : NI gd nc co kd lo0 hi0 Φ S) :
    NI gd nc co kd lo0 hi0 Φ (descT nc 1000000 S).1 ∧ fixP S (descT nc 1000000 S).1 ∧ ((descT nc 1000000 S).2 = true → dcLn (descT nc 1000000 S).1 < 0) ∧ ((descT nc 1000000 S).2 = false → gd → ∀ y, ¬ regP nc Φ S y) := by
  obtain ⟨⟨W, B, s, h1, h2, h3⟩, h4, h5, h6⟩ := h
  obtain ⟨B', s', k1, k2, k3⟩ := desc_main h1
  have hst := st_fix h2 k2
  have eT := k2.1
  have eL := k2.2.2.1
  have eH := k2.2.2.2.1
  refine ⟨⟨⟨W, B', s', k1, hst, h3⟩, by rw [eL]; exact h4, by rw [eL, eH]; exact h5, by rw [eL, eT]; exact h6⟩, k2, ?_, ?_⟩
  · intro q
    rcases k3 with ⟨a, b⟩ | ⟨a, b⟩
    · exact b
    · rw [q] at a; cases a
  · intro q hg y hy
    rcases k3 with ⟨a, b⟩ | ⟨a, b, c⟩
    · rw [q] at a; cases a
    · refine desc_none k1 hg b c y ((st_feas k1 hst y).mpr ?_)
      rw [eL, eH, eT]; exact hy
/-- a column with bounds stands between them, also at a far corner -/
theorem val_rng {nc : Nat} {Φ : (Nat → Int) → Prop} {W : Nat → Nat → Int} {S : TS} {B : Nat → Nat → Int} {s : Int} (h : tabI gd nc W S B s) (hst : stI nc Φ W S) (hl : dcLn S < 0) {c : Nat} (hc : c < nc) (hu : tHi S c ≠ NONEz) :
    tLo S c * tBel S ≤ valZ (tLo S) (tCe S) (tBel S) c ∧ valZ (tLo S) (tCe S) (tBel S) c ≤ tHi S c * tBel S ∧ ∀ f : Nat, tFar S = (f : Int) → tCe S ((1 + c) * 6 + f) = 0 := by
  have hn := h.2.1
  have hnl := h.2.2.1
  obtain ⟨g, g1, g2, g3, g4, g5⟩ := hst.1 c hc hu
  have hg5 : tCe S (g * 6 + 5) = tHi S c * tBel S - valZ (tLo S) (tCe S) (tBel S) c := by
    rw [← cp_W h g2, g4, dot_hg (by omega), cp_0, cp_c hc]
  rcases h.2.2.2.2.2.2.2.1 with hf | ⟨f, f1, f2, f3⟩
  · have d1 := desc_lines h hl (i := 1 + c) (by omega) (by omega)
    have d2 := desc_lines h hl (i := g) (by omega) g2
    have s1 := cmpZ_spec (side_near (ce := tCe S) (far := tFar S) (i := 1 + c) (by unfold backZ; rw [if_pos (by omega)]))
    have s2 := cmpZ_spec (side_near (ce := tCe S) (far := tFar S) (i := g) (by unfold backZ; rw [if_pos (by omega)]))
    refine ⟨?_, ?_, fun f hf2 => by omega⟩
    · show _ ≤ tLo S c * tBel S + tCe S ((1 + c) * 6 + 5); omega
    · omega
  · have r1 := ray_lines h hl f2 (i := 1 + c) (by omega) (by omega)
    have r2 := ray_lines h hl f2 (i := g) (by omega) g2
    have e1 := rd_W h f1 f3 g2
    rw [g4, dot_hg (by omega)] at e1
    have e2 : rdV nc S f 0 = 0 := by unfold rdV; rw [if_pos rfl]
    have e3 : rdV nc S f (1 + c) = -tCe S ((1 + c) * 6 + f) := by unfold rdV; rw [if_neg (by omega), if_pos (by omega)]
    rw [e2, e3] at e1
    have z1 : tCe S ((1 + c) * 6 + f) = 0 := by omega
    have z2 : tCe S (g * 6 + f) = 0 := by omega
    have w1 := r1.2.1 z1
    have w2 := r2.2.1 z2
    refine ⟨?_, ?_, fun f' hf2 => ?_⟩
    · show _ ≤ tLo S c * tBel S + tCe S ((1 + c) * 6 + 5); omega
    · omega
    · have : f' = f := by omega
      subst this; exact z1
theorem fl_rng {a b l u : Int} (hb : 0 < b) (h1 : l * b ≤ a) (h2 : a ≤ u * b) : l ≤ floorZ a b ∧ floorZ a b ≤ u := by
  obtain ⟨f1, f2⟩ := floorZ_spec (a := a) hb
  constructor
  · rcases (show l ≤ floorZ a b ∨ floorZ a b + 1 ≤ l by omega) with q | q
    · exact q
    · exfalso
      have : (floorZ a b + 1) * b ≤ l * b := Int.mul_le_mul_of_nonneg_right q (by omega)
      rw [Int.add_mul] at this; omega
  · rcases (show floorZ a b ≤ u ∨ u + 1 ≤ floorZ a b by omega) with q | q
    · exact q
    · exfalso
      have : (u + 1) * b ≤ floorZ a b * b := Int.mul_le_mul_of_nonneg_right q (by omega)
      rw [Int.add_mul] at this; omega
theorem fl_lt {a b u : Int} (hb : 0 < b) (h2 : a ≤ u * b) (hn : ¬ a = floorZ a b * b) : floorZ a b + 1 ≤ u := by
  obtain ⟨f1, f2⟩ := floorZ_spec (a := a) hb
  rcases (show floorZ a b + 1 ≤ u ∨ u ≤ floorZ a b by omega) with q | q
  · exact q
  · exfalso
    have : u * b ≤ floorZ a b * b := Int.mul_le_mul_of_nonneg_right q (by omega)
    omega
theorem fl_zero {b : Int} (hb : 0 < b) : floorZ 0 b = 0 := by
  have := fl_rng (a := 0) (b := b) (l := 0) (u := 0) hb (by omega) (by omega)
  omega
/-- what a column to split is -/
theorem split_is {kd pa lo ce : Nat → Int} {bel far : Int} {nc c : Nat} (h : splitZ kd pa lo ce bel far nc = (c : Int)) : c < nc ∧ ((1 ≤ kd c ∧ brkP lo ce bel c) ∨ (kd c = 2 ∧ (0 ≤ pa c ∧ pa c < (nc : Int)) ∧ nthP lo ce bel far c ∧ ¬ nthP lo ce bel far (pa c).toNat)) := by
  unfold splitZ at h
  split at h
  · obtain ⟨h1, h2, -⟩ := firstZ_is h
    unfold spA at h2
    exact ⟨h1, Or.inl (by simpa using h2)⟩
  · obtain ⟨h1, h2, -⟩ := firstZ_is h
    unfold spS at h2
    exact ⟨h1, Or.inr (of_decide_eq_true h2)⟩
theorem split_none {kd pa lo ce : Nat → Int} {bel far : Int} {nc : Nat} (h : splitZ kd pa lo ce bel far nc < 0) : (∀ c, c < nc → 1 ≤ kd c → ¬ brkP lo ce bel c) ∧ (∀ c, c < nc → kd c = 2 → (0 ≤ pa c ∧ pa c < (nc : Int)) → nthP lo ce bel far c → nthP lo ce bel far (pa c).toNat) := by
  unfold splitZ at h
  split at h
  · omega
  · rename_i h0
    have h1 := firstZ_isNone (f := spA kd lo ce bel) (n := nc) (by omega)
    have h2 := firstZ_isNone h
    refine ⟨fun c hc hk hb => ?_, fun c hc hk hp hn => ?_⟩
    · have := h1 c hc
      unfold spA at this
      exact absurd (show 1 ≤ kd c ∧ brkP lo ce bel c from ⟨hk, hb⟩) (of_decide_eq_false this)
    · have := of_decide_eq_false (h2 c hc)
      exact Classical.byContradiction (fun q => this ⟨hk, hp, hn, q⟩)
theorem split_rng (kd pa lo ce : Nat → Int) (bel far : Int) (nc : Nat) : -1 ≤ splitZ kd pa lo ce bel far nc ∧ splitZ kd pa lo ce bel far nc < nc := by
  unfold splitZ
  split
  · have := firstZ_rng (spA kd lo ce bel) nc; omega
  · exact firstZ_rng _ nc
