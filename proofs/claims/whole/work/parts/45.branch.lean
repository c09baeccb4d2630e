-- ===== the search, step by step =====
abbrev BS4 : Type := (Nat → Int) × Int × Int × Int
abbrev BX : Type := Int × (Nat → Nat × TS) × (Nat → Int) × (Nat → Int) × BS4
abbrev bLv (X : BX) : Int := X.1
abbrev bTb (X : BX) : Nat → Nat × TS := X.2.1
abbrev bSp (X : BX) : Nat → Int := X.2.2.1
abbrev bSg (X : BX) : Nat → Int := X.2.2.2.1
abbrev bBs (X : BX) : BS4 := X.2.2.2.2
def upT (f : Nat → Nat × TS) (k : Nat) (v : Nat × TS) : Nat → Nat × TS := fun i => if i = k then v else f i
theorem upT_eq {f : Nat → Nat × TS} {k : Nat} {v : Nat × TS} : upT f k v k = v := by unfold upT; rw [if_pos rfl]
theorem upT_ne {f : Nat → Nat × TS} {k i : Nat} {v : Nat × TS} (h : i ≠ k) : upT f k v i = f i := by unfold upT; rw [if_neg h]
def accB (T : Nat × TS) : BS4 := (accV T.1 (tLo T.2) (tCe T.2) (tBel T.2), tCe T.2 5, tBel T.2, if 0 ≤ tFar T.2 then 2 else 0)
abbrev yldB (T : Nat × TS) (b : BS4) : Prop := yieldP T.1 (tLo T.2) (tCe T.2) b.1 (tBel T.2) (tFar T.2) b.2.2.1 b.2.1 b.2.2.2
abbrev halfB (kd pa : Nat → Int) (nc L : Nat) (X : BX) : TS := nwT kd pa nc (bSp X L).toNat (decide (bSg X L = 1)) (bTb X L).2
def entB (kd pa : Nat → Int) (nc L : Nat) (X : BX) : BX :=
  if 51 ≤ L + 1 then ((L : Int), bTb X, bSp X, va_up (bSg X) L (bSg X L + 1), bBs X)
  else if bSg X L = 1 ∨ ¬ (kd (bSp X L).toNat = 2 ∧ (0 ≤ pa (bSp X L).toNat ∧ pa (bSp X L).toNat < (nc : Int)) ∧ 0 < tLo (bTb X L).2 (pa (bSp X L).toNat).toNat) then
    (if (descT (bTb X L).1 1000000 (halfB kd pa nc L X)).2 = true then ((L : Int) + 1, upT (bTb X) (L + 1) ((bTb X L).1, (descT (bTb X L).1 1000000 (halfB kd pa nc L X)).1), bSp X, va_up (va_up (bSg X) L (bSg X L + 1)) (L + 1) 0, bBs X)
     else ((L : Int), upT (bTb X) (L + 1) ((bTb X L).1, (descT (bTb X L).1 1000000 (halfB kd pa nc L X)).1), bSp X, va_up (bSg X) L (bSg X L + 1), bBs X))
  else ((L : Int), upT (bTb X) (L + 1) ((bTb X L).1, halfB kd pa nc L X), bSp X, va_up (bSg X) L (bSg X L + 1), bBs X)
def spB (kd pa : Nat → Int) (nc L : Nat) (X : BX) : Nat → Int := if bSg X L = 0 then va_up (bSp X) L (spZ kd pa nc (bTb X L).2) else bSp X
def stepB (kd pa : Nat → Int) (nc L : Nat) (X : BX) : BX :=
  if bSg X L = 2 ∨ ¬ yldB (bTb X L) (bBs X) then ((L : Int) - 1, bTb X, bSp X, bSg X, bBs X)
  else if spB kd pa nc L X L < 0 then ((L : Int) - 1, bTb X, spB kd pa nc L X, bSg X, accB (bTb X L))
  else entB kd pa nc L ((L : Int), bTb X, spB kd pa nc L X, bSg X, bBs X)
def runB (kd pa : Nat → Int) (nc : Nat) : Nat → BX → BX
  | 0, X => X
  | n + 1, X => if bLv X < 0 then X else runB kd pa nc n (stepB kd pa nc (bLv X).toNat X)
-- ===== what it keeps =====
def bpV (nc : Nat) (b : BS4) : Nat → Int := fun x => if x = 0 then b.2.2.1 else if x ≤ nc then b.1 (x - 1) else 0
def bstI (nc : Nat) (co : Nat → Int) (F : (Nat → Int) → Prop) (b : BS4) : Prop :=
  (0 < b.2.2.1 ∧ b.2.2.1 ≤ 8000000) ∧ (-200000000000 ≤ b.2.1 ∧ b.2.1 ≤ 200000000000) ∧ (∀ j, -200000000000 ≤ b.1 j ∧ b.1 j ≤ 200000000000) ∧ (b.2.2.2 = 0 ∨ b.2.2.2 = 1 ∨ b.2.2.2 = 2) ∧
  (b.2.2.2 = 0 → F (bpV nc b) ∧ b.2.1 = dotZ 6 (costV nc co) (bpV nc b)) ∧ (b.2.2.2 = 2 → rayP nc co F)
def bLe (nc : Nat) (co : Nat → Int) (b : BS4) (y : Nat → Int) : Prop := b.2.2.2 = 2 ∨ (b.2.2.2 = 0 ∧ leqP nc co (bpV nc b) y)
def pdN (kd pa : Nat → Int) (nc : Nat) (T : Nat × TS) (sp sg : Int) : Nat := if sg = 0 then 6 * wtS kd pa nc T.2 - 3 else if sg = 1 then 2 + (6 * wtS kd pa nc (raiseT sp.toNat (flZ T.2 sp.toNat + 1) T.2) - 3) else 1
def psN (kd pa : Nat → Int) (nc : Nat) (tb : Nat → Nat × TS) (sp sg : Nat → Int) : Nat → Nat
  | 0 => 0
  | n + 1 => psN kd pa nc tb sp sg n + pdN kd pa nc (tb n) (sp n) (sg n)
theorem ps_cong {kd pa : Nat → Int} {nc : Nat} {tb tb' : Nat → Nat × TS} {sp sp' sg sg' : Nat → Int} : ∀ {n : Nat}, (∀ l, l < n → tb l = tb' l ∧ sp l = sp' l ∧ sg l = sg' l) → psN kd pa nc tb sp sg n = psN kd pa nc tb' sp' sg' n
  | 0, _ => rfl
  | n + 1, h => by
    obtain ⟨e1, e2, e3⟩ := h n (by omega)
    show psN kd pa nc tb sp sg n + pdN kd pa nc (tb n) (sp n) (sg n) = psN kd pa nc tb' sp' sg' n + pdN kd pa nc (tb' n) (sp' n) (sg' n)
    rw [ps_cong (fun l hl => h l (by omega)), e1, e2, e3]
def levI (nc : Nat) (co kd pa lo0 hi0 : Nat → Int) (Φ : (Nat → Int) → Prop) (g : Prop) (T : Nat × TS) (sp sg : Int) (l : Nat) : Prop :=
  T.1 = nc ∧ NI g nc co kd lo0 hi0 Φ T.2 ∧ dcLn T.2 < 0 ∧ (g → dmS kd pa nc T.2 + l ≤ 50) ∧ (sg = 0 ∨ ((sg = 1 ∨ sg = 2) ∧ ∃ c : Nat, sp = (c : Int) ∧ spZ kd pa nc T.2 = (c : Int)))
def pndP (nc : Nat) (Φ : (Nat → Int) → Prop) (g : Prop) (T : Nat × TS) (sp sg : Int) (y : Nat → Int) : Prop := g ∧ regP nc Φ T.2 y ∧ (sg = 0 ∨ (sg = 1 ∧ (flZ T.2 sp.toNat + 1) * y 0 ≤ y (1 + sp.toNat)))
def BI (nc : Nat) (co kd pa lo0 hi0 : Nat → Int) (Φ : (Nat → Int) → Prop) (X : BX) (n : Nat) (g : Nat → Prop) (fuel : Nat) : Prop :=
  bLv X = (n : Int) - 1 ∧ n ≤ 51 ∧ (∀ l, l < n → levI nc co kd pa lo0 hi0 Φ (g l) (bTb X l) (bSp X l) (bSg X l) l) ∧ bstI nc co (FP nc kd pa lo0 hi0 Φ) (bBs X) ∧
  (∀ y, FP nc kd pa lo0 hi0 Φ y → bLe nc co (bBs X) y ∨ ∃ l, l < n ∧ pndP nc Φ (g l) (bTb X l) (bSp X l) (bSg X l) y) ∧ psN kd pa nc (bTb X) (bSp X) (bSg X) n ≤ fuel
theorem bp_acc {nc : Nat} {S : TS} : bpV nc (accB (nc, S)) = cpV nc S := by
  funext x
  unfold bpV cpV
  by_cases h : x = 0
  · rw [if_pos h, if_pos h]; rfl
  · rw [if_neg h, if_neg h]
    by_cases h2 : x ≤ nc
    · rw [if_pos h2, if_pos h2]
      show accV nc (tLo S) (tCe S) (tBel S) (x - 1) = _
      unfold accV; rw [if_pos (by omega)]
    · rw [if_neg h2, if_neg h2]
theorem obj_cp {gd : Prop} {nc : Nat} {co : Nat → Int} {W : Nat → Nat → Int} {S : TS} {B : Nat → Nat → Int} {s : Int} (h : tabI gd nc W S B s) (hW : W 0 = costV nc co) : dotZ 6 (objV nc co 0) (cpV nc S) = tCe S 5 ∧ ∀ c, c < nc → dotZ 6 (objV nc co (c + 1)) (cpV nc S) = vlZ S c := by
  have hn := h.2.1
  have hnl := h.2.2.1
  constructor
  · have e1 : objV nc co 0 = W 0 := by unfold objV; rw [if_pos rfl, hW]
    rw [e1, cp_W h (by omega)]
  · intro c hc
    have e1 : objV nc co (c + 1) = unV (c + 1) := by unfold objV; rw [if_neg (by omega)]
    rw [e1, dot_un (by omega), show c + 1 = 1 + c by omega, cp_c hc]
theorem obj_bp {nc : Nat} (hn : nc ≤ 5) {co : Nat → Int} {b : BS4} (hc : b.2.1 = dotZ 6 (costV nc co) (bpV nc b)) : dotZ 6 (objV nc co 0) (bpV nc b) = b.2.1 ∧ ∀ c, c < nc → dotZ 6 (objV nc co (c + 1)) (bpV nc b) = b.1 c := by
  constructor
  · have e1 : objV nc co 0 = costV nc co := by unfold objV; rw [if_pos rfl]
    rw [e1, hc]
  · intro c h
    have e1 : objV nc co (c + 1) = unV (c + 1) := by unfold objV; rw [if_neg (by omega)]
    rw [e1, dot_un (by omega)]
    unfold bpV; rw [if_neg (by omega), if_pos (by omega), show c + 1 - 1 = c by omega]
theorem yl_form (lo ce va : Nat → Int) (tb bb cost : Int) : ylF lo ce va tb bb cost = fun i => cmpZ ((match i with | 0 => ce 5 * bb | c + 1 => valZ lo ce tb c * bb) : Int) ((match i with | 0 => cost * tb | c + 1 => va c * tb) : Int) := by
  funext i
  rcases i with _ | i <;> rfl
theorem yl_no {gd : Prop} {nc : Nat} {co : Nat → Int} {W : Nat → Nat → Int} {S : TS} {B : Nat → Nat → Int} {s : Int} (h : tabI gd nc W S B s) (hW : W 0 = costV nc co) {b : BS4} (hc : b.2.1 = dotZ 6 (costV nc co) (bpV nc b)) (hl : ¬ lexZ (ylF (tLo S) (tCe S) b.1 (tBel S) b.2.2.1 b.2.1) (nc + 1) < 0) : leqP nc co (bpV nc b) (cpV nc S) := by
  rw [yl_form] at hl
  have h1 := lexZ_ge hl
  obtain ⟨a1, a2⟩ := obj_cp h hW
  obtain ⟨b1, b2⟩ := obj_bp h.2.1 hc
  have e0 : bpV nc b 0 = b.2.2.1 := by unfold bpV; rw [if_pos rfl]
  refine lexN_cong (fun i hi => ?_) h1
  rw [e0, cp_0]
  rcases i with _ | i
  · rw [a1, b1]
  · rw [a2 i (by omega), b2 i (by omega)]
theorem yl_yes {gd : Prop} {nc : Nat} {co : Nat → Int} {W : Nat → Nat → Int} {S : TS} {B : Nat → Nat → Int} {s : Int} (h : tabI gd nc W S B s) (hW : W 0 = costV nc co) {b : BS4} (hc : b.2.1 = dotZ 6 (costV nc co) (bpV nc b)) (hl : lexZ (ylF (tLo S) (tCe S) b.1 (tBel S) b.2.2.1 b.2.1) (nc + 1) < 0) : leqP nc co (cpV nc S) (bpV nc b) := by
  rw [yl_form] at hl
  have h1 := lexZ_lt hl
  obtain ⟨a1, a2⟩ := obj_cp h hW
  obtain ⟨b1, b2⟩ := obj_bp h.2.1 hc
  have e0 : bpV nc b 0 = b.2.2.1 := by unfold bpV; rw [if_pos rfl]
  refine lexN_cong (fun i hi => ?_) (Or.inr h1)
  rw [e0, cp_0]
  rcases i with _ | i
  · rw [a1, b1]
  · rw [a2 i (by omega), b2 i (by omega)]
theorem acc_bst {gd : Prop} {nc : Nat} {co kd pa lo0 hi0 : Nat → Int} {Φ : (Nat → Int) → Prop} {S : TS} (hP : colsOk nc kd pa lo0 hi0) (h : NI gd nc co kd lo0 hi0 Φ S) (hl : dcLn S < 0) (hs : spZ kd pa nc S < 0) : bstI nc co (FP nc kd pa lo0 hi0 Φ) (accB (nc, S)) := by
  have hN := h
  obtain ⟨⟨W, B, s, h1, h2, h3⟩, h4, h5, h6⟩ := h
  obtain ⟨b1, b2, b3, b4, b5, b6, b7, b8⟩ := h1.2.2.2.2.2.2.2.2.2.2.2
  have hb4 : ∀ i, -100000000000 ≤ tCe S (i * 6 + 5) ∧ tCe S (i * 6 + 5) ≤ 100000000000 := b4
  have hb5 : 0 < tBel S ∧ tBel S ≤ 8000000 := b5
  refine ⟨hb5, ?_, ?_, ?_, ?_, ?_⟩
  · show -200000000000 ≤ tCe S 5 ∧ tCe S 5 ≤ 200000000000
    have := hb4 0
    rw [Nat.zero_mul, Nat.zero_add] at this; omega
  · intro j
    show -200000000000 ≤ accV nc (tLo S) (tCe S) (tBel S) j ∧ accV nc (tLo S) (tCe S) (tBel S) j ≤ 200000000000
    unfold accV
    split
    · have q1 := h4 j
      have q2 := hb4 (1 + j)
      have q3 := mul_nat (x := tLo S j) (y := tBel S) (a := 20) (b := 8000000) (by omega) (by omega)
      show -200000000000 ≤ tLo S j * tBel S + tCe S ((1 + j) * 6 + 5) ∧ tLo S j * tBel S + tCe S ((1 + j) * 6 + 5) ≤ 200000000000
      omega
    · omega
  · show (if 0 ≤ tFar S then (2 : Int) else 0) = 0 ∨ (if 0 ≤ tFar S then (2 : Int) else 0) = 1 ∨ (if 0 ≤ tFar S then (2 : Int) else 0) = 2
    split <;> omega
  · intro q
    have q2 : (if 0 ≤ tFar S then (2 : Int) else 0) = 0 := q
    have hf : tFar S = -1 := by
      rcases h1.2.2.2.2.2.2.2.1 with w | ⟨f, w1, w2, w3⟩
      · exact w
      · rw [if_pos (by omega)] at q2; omega
    rw [bp_acc]
    refine ⟨acc_fin hN hl hs hf, ?_⟩
    show tCe S 5 = _
    have := (obj_cp h1 h3).1
    have e1 : objV nc co 0 = costV nc co := by unfold objV; rw [if_pos rfl]
    rw [e1] at this
    exact this.symm
  · intro q
    have q2 : (if 0 ≤ tFar S then (2 : Int) else 0) = 2 := q
    rcases h1.2.2.2.2.2.2.2.1 with w | ⟨f, w1, w2, w3⟩
    · rw [if_neg (by omega)] at q2; omega
    · exact acc_ray hP hN hl hs w2
theorem dm_pos {nc : Nat} {kd pa : Nat → Int} {Φ : (Nat → Int) → Prop} {S : TS} (hu : ∀ c, c < nc → 1 ≤ kd c → tHi S c ≠ NONEz) {y : Nat → Int} (hy : regP nc Φ S y) : 0 ≤ dmS kd pa nc S := by
  refine sm_pos (fun c hc => ?_)
  unfold dmC
  by_cases hk : 1 ≤ kd c
  · rw [if_pos hk]
    obtain ⟨d1, d2, d3⟩ := hy.2.1 c hc
    have d4 := d3 (hu c hc hk)
    have hf := fg_or kd pa nc (tTi S) c
    have : tLo S c ≤ tHi S c := by
      rcases (show tLo S c ≤ tHi S c ∨ tHi S c + 1 ≤ tLo S c by omega) with q | q
      · exact q
      · exfalso
        have h1 : (tHi S c + 1) * y 0 ≤ tLo S c * y 0 := Int.mul_le_mul_of_nonneg_right q (Int.le_of_lt hy.1)
        have h2 := hy.1
        rw [Int.add_mul] at h1; omega
    omega
  · rw [if_neg hk]; exact Int.le_refl _
theorem wt_fix {kd pa : Nat → Int} {nc : Nat} {S S' : TS} (h : fixP S S') : wtS kd pa nc S' = wtS kd pa nc S ∧ dmS kd pa nc S' = dmS kd pa nc S := by
  obtain ⟨e1, e2, e3, e4, e5⟩ := h
  show prN (wtC kd pa nc (tLo S') (tHi S') (tTi S')) nc = _ ∧ sumZ (dmC kd pa nc (tLo S') (tHi S') (tTi S')) nc = _
  rw [e1, e3, e4]; exact ⟨rfl, rfl⟩
theorem reg_fix {nc : Nat} {Φ : (Nat → Int) → Prop} {S S' : TS} (h : fixP S S') (y : Nat → Int) : regP nc Φ S' y ↔ regP nc Φ S y := by
  obtain ⟨e1, e2, e3, e4, e5⟩ := h
  show boxF nc (tLo S') (tHi S') (tTi S') Φ y ↔ _
  rw [e1, e3, e4]
