variable {gd : Prop}
-- ===== a descent ends =====
abbrev RS : Type := TS × (Nat → Nat → Int) × Int × (Nat → Nat)
def stepR (nc : Nat) (W : Nat → Nat → Int) (X : RS) : RS :=
  (turnT nc (dcLn X.1).toNat (dcK nc X.1).toNat X.1, putV X.2.1 (dcK nc X.1).toNat (W (dcLn X.1).toNat), X.2.2.1 * wyZ (tCe X.1) (dcLn X.1).toNat (dcK nc X.1).toNat, fun j => if j = (dcK nc X.1).toNat then (dcLn X.1).toNat else X.2.2.2 j)
def runR (nc : Nat) (W : Nat → Nat → Int) (X : RS) : Nat → RS
  | 0 => X
  | t + 1 => stepR nc W (runR nc W X t)
def onR (nc : Nat) (X : RS) : Prop := 0 ≤ dcLn X.1 ∧ 0 ≤ dcK nc X.1
def idF (W B0 : Nat → Nat → Int) (i : Nat) : Nat → Int := if i < 18 then W i else B0 (i - 18)
def fixP (S S' : TS) : Prop := tTi S' = tTi S ∧ tNl S' = tNl S ∧ tLo S' = tLo S ∧ tHi S' = tHi S ∧ tGl S' = tGl S
def RI (gd : Prop) (nc : Nat) (W B0 : Nat → Nat → Int) (S0 : TS) (X : RS) : Prop :=
  tabI gd nc W X.1 X.2.1 X.2.2.1 ∧ (∀ j, j < nc → X.2.2.2 j < 23 ∧ X.2.1 j = idF W B0 (X.2.2.2 j)) ∧
  ((tFar X.1 = tFar S0 ∧ ∀ f : Nat, tFar S0 = (f : Int) → X.2.2.2 f = 18 + f) ∨ (tFar X.1 = -1 ∧ ∀ f : Nat, tFar S0 = (f : Int) → ∀ j, j < nc → X.2.2.2 j ≠ 18 + f)) ∧ fixP S0 X.1
theorem tabA_det {nc : Nat} {ce sh : Nat → Int} {nl : Nat} {bel : Int} {W B : Nat → Nat → Int} {s : Int} (h : tabA nc ce sh nl bel W B s) : detD 6 B ≠ 0 := by
  intro e
  have h1 := h.2.1
  have h2 := h.2.2.1
  rw [e] at h1; simp at h1; omega
theorem RI_inj {nc : Nat} {W B0 : Nat → Nat → Int} {S0 : TS} {X : RS} (h : RI gd nc W B0 S0 X) {a b : Nat} (ha : a < nc) (hb : b < nc) (e : X.2.2.2 a = X.2.2.2 b) : a = b := by
  by_cases q : a = b
  · exact q
  · exfalso
    have h1 := (h.2.1 a ha).2
    have h2 := (h.2.1 b hb).2
    rw [e, ← h2] at h1
    have hn := h.1.2.1
    exact tabA_det h.1.1 (det_same q (by omega) (by omega) h1)
theorem RI_step {nc : Nat} {W B0 : Nat → Nat → Int} {S0 : TS} {X : RS} (h : RI gd nc W B0 S0 X) (ho : onR nc X) : RI gd nc W B0 S0 (stepR nc W X) ∧ potLt nc X.1 (stepR nc W X).1 := by
  obtain ⟨line, hln⟩ : ∃ line : Nat, dcLn X.1 = (line : Int) := ⟨(dcLn X.1).toNat, by have := ho.1; omega⟩
  obtain ⟨k, hk⟩ : ∃ k : Nat, dcK nc X.1 = (k : Int) := ⟨(dcK nc X.1).toNat, by have := ho.2; omega⟩
  have hX : stepR nc W X = (turnT nc line k X.1, putV X.2.1 k (W line), X.2.2.1 * wyZ (tCe X.1) line k, fun j => if j = k then line else X.2.2.2 j) := by
    unfold stepR; rw [hln, hk, Int.toNat_natCast, Int.toNat_natCast]
  have hinj := fun a b ha hb e => RI_inj h (a := a) (b := b) ha hb e
  obtain ⟨hI, hd, hf, hx⟩ := h
  obtain ⟨hl, hl1, hkn, hsk, hp, hway, hsd, hz⟩ := tab_dc hI hln hk
  have hb1 : tNl X.1 ≤ 18 := hI.2.2.2.2.2.2.2.2.2.2.2.1
  rw [hX]
  refine ⟨⟨tabI_turn hI hln hk, ?_, ?_, hx⟩, pot_step hI hln hk⟩
  · intro j hj
    show (if j = k then line else X.2.2.2 j) < 23 ∧ putV X.2.1 k (W line) j = idF W B0 (if j = k then line else X.2.2.2 j)
    by_cases e : j = k
    · subst e
      rw [if_pos rfl, putV_eq]
      refine ⟨by omega, ?_⟩
      unfold idF; rw [if_pos (by omega)]
    · rw [if_neg e, putV_ne e]; exact hd j hj
  · show ((if tFar X.1 = (k : Int) then (-1 : Int) else tFar X.1) = tFar S0 ∧ ∀ f : Nat, tFar S0 = (f : Int) → (if f = k then line else X.2.2.2 f) = 18 + f) ∨ ((if tFar X.1 = (k : Int) then (-1 : Int) else tFar X.1) = -1 ∧ ∀ f : Nat, tFar S0 = (f : Int) → ∀ j, j < nc → (if j = k then line else X.2.2.2 j) ≠ 18 + f)
    by_cases e : tFar X.1 = (k : Int)
    · right
      refine ⟨if_pos e, fun f h1 j hj => ?_⟩
      rcases hf with ⟨q1, q2⟩ | ⟨q1, q2⟩
      · have hfk : f = k := by omega
        subst hfk
        by_cases ej : j = f
        · rw [if_pos ej]; omega
        · rw [if_neg ej]
          intro w
          exact ej (hinj j f hj hkn (by rw [w, q2 f h1]))
      · omega
    · rw [if_neg e]
      rcases hf with ⟨q1, q2⟩ | ⟨q1, q2⟩
      · left
        refine ⟨q1, fun f h1 => ?_⟩
        rw [if_neg (by omega)]; exact q2 f h1
      · right
        refine ⟨q1, fun f h1 j hj => ?_⟩
        by_cases ej : j = k
        · rw [if_pos ej]; omega
        · rw [if_neg ej]; exact q2 f h1 j hj
theorem RI_run {nc : Nat} {W B0 : Nat → Nat → Int} {S0 : TS} {X : RS} (h : RI gd nc W B0 S0 X) : ∀ {n : Nat}, (∀ t, t < n → onR nc (runR nc W X t)) → RI gd nc W B0 S0 (runR nc W X n)
  | 0, _ => h
  | n + 1, ho => (RI_step (RI_run h (fun t ht => ho t (by omega))) (ho n (by omega))).1
theorem RI_lt {nc : Nat} {W B0 : Nat → Nat → Int} {S0 : TS} {X : RS} (h : RI gd nc W B0 S0 X) {a : Nat} : ∀ {d : Nat}, (∀ t, t < a + 1 + d → onR nc (runR nc W X t)) → potLt nc (runR nc W X a).1 (runR nc W X (a + 1 + d)).1
  | 0, ho => (RI_step (RI_run h (fun t ht => ho t (by omega))) (ho a (by omega))).2
  | d + 1, ho => by
    have r0 := RI_run h (n := a) (fun t ht => ho t (by omega))
    have r1 := RI_run h (n := a + 1 + d) (fun t ht => ho t (by omega))
    have r2 := RI_step r1 (ho (a + 1 + d) (by omega))
    exact pot_trans r0.1.1.2.2.1 r1.1.1.2.2.1 r2.1.1.1.2.2.1 (RI_lt h (d := d) (fun t ht => ho t (by omega))) r2.2
theorem same_slot {n : Nat} {B B' : Nat → Nat → Int} (hC : CrV n B') {m : Nat} (hm : m < n) (he : B' m = B m) (ho : ∀ j', j' < n → j' ≠ m → ∃ j, j < n ∧ j ≠ m ∧ B' j' = B j) (f : Nat → Int) :
    detD n B' * dotZ n f (dlV n B m) = detD n B * dotZ n f (dlV n B' m) := by
  rw [dot_cr hC f (dlV n B m), sm_one (f := fun j => dotZ n (B' j) (dlV n B m) * dotZ n f (dlV n B' j)) hm (fun j' hj' hne => ?_)]
  · show dotZ n (B' m) (dlV n B m) * _ = _
    rw [he, dl_self B hm]
  · show dotZ n (B' j') (dlV n B m) * _ = 0
    obtain ⟨j, h1, h2, h3⟩ := ho j' hj' hne
    rw [h3, dl_other B hm h1 (Ne.symm h2)]; simp
theorem same_set {nc : Nat} {W B0 : Nat → Nat → Int} {S0 : TS} {X X' : RS} (h : RI gd nc W B0 S0 X) (h' : RI gd nc W B0 S0 X') (he : ∀ x, x < 23 → imgB X.2.2.2 nc x = imgB X'.2.2.2 nc x) (hp : potLt nc X.1 X'.1) : False := by
  have hinj := fun a b ha hb e => RI_inj h' (a := a) (b := b) ha hb e
  obtain ⟨hI, hd, hf, hx⟩ := h
  obtain ⟨hI', hd', hf', hx'⟩ := h'
  have hnc := hI.2.1
  have hnl := hI.2.2.1
  have hnl' := hI'.2.2.1
  have hA := hI.1
  have hA' := hI'.1
  have hto : ∀ j', j' < nc → ∃ j, j < nc ∧ X.2.2.2 j = X'.2.2.2 j' := by
    intro j' hj'
    have h1 : imgB X'.2.2.2 nc (X'.2.2.2 j') = true := imgB_iff.mpr ⟨j', hj', rfl⟩
    rw [← he _ (hd' j' hj').1] at h1
    exact imgB_iff.mp h1
  have hfn : ∀ j' j, j' < nc → j < nc → X.2.2.2 j = X'.2.2.2 j' → X'.2.1 j' = X.2.1 j := by
    intro j' j h1 h2 h3
    rw [(hd' j' h1).2, (hd j h2).2, h3]
  have hss : ∀ m, m < 6 → (m = 5 ∨ ∃ f : Nat, m = f ∧ f < nc ∧ X.2.2.2 f = 18 + f ∧ X'.2.2.2 f = 18 + f) → ∀ f, detD 6 X'.2.1 * dotZ 6 f (dlV 6 X.2.1 m) = detD 6 X.2.1 * dotZ 6 f (dlV 6 X'.2.1 m) := by
    intro m hm hcase f
    refine same_slot hA'.2.2.2.1 hm ?_ (fun j' hj' hne => ?_) f
    · rcases hcase with q | ⟨f', q1, q2, q3, q4⟩
      · subst q; rw [hA.2.2.2.2.1, hA'.2.2.2.2.1]
      · subst q1; exact hfn m m q2 q2 (by rw [q3, q4])
    · rcases (show j' < nc ∨ (nc ≤ j' ∧ j' < 5) ∨ j' = 5 by omega) with w | w | w
      · obtain ⟨j, w1, w2⟩ := hto j' w
        refine ⟨j, by omega, ?_, hfn j' j w w1 w2⟩
        rcases hcase with q | ⟨f', q1, q2, q3, q4⟩
        · omega
        · intro e
          subst q1
          subst e
          exact hne (hinj j' j w q2 (by rw [← w2, q3, q4]))
      · exact ⟨j', by omega, hne, by rw [hA.2.2.2.2.2.1 j' w.1 w.2, hA'.2.2.2.2.2.1 j' w.1 w.2]⟩
      · exact ⟨j', by omega, hne, by subst w; rw [hA.2.2.2.2.1, hA'.2.2.2.2.1]⟩
  have hcell : ∀ m, m < 6 → (m = 5 ∨ ∃ f : Nat, m = f ∧ f < nc ∧ X.2.2.2 f = 18 + f ∧ X'.2.2.2 f = 18 + f) → (nc ≤ m ∨ tSh X.1 m = 0) → (nc ≤ m ∨ tSh X'.1 m = 0) → ∀ i, i < nc + 1 → tCe X'.1 (i * 6 + m) * tBel X.1 - tCe X.1 (i * 6 + m) * tBel X'.1 = 0 := by
    intro m hm hcase hs1 hs2 i hi
    have h1 := hss m hm hcase (W i)
    have e1 := hA.2.2.2.2.2.2.2 i m (by omega) hm hs1
    have e2 := hA'.2.2.2.2.2.2.2 i m (by omega) hm hs2
    rw [e1, e2, hA.2.1, hA'.2.1]
    rcases hA.1 with q | q <;> rcases hA'.1 with q' | q' <;> rw [q, q'] <;> grind
  rcases hp with ⟨p1, p2⟩ | ⟨p1, p2⟩
  · rcases hf with ⟨q1, q2⟩ | ⟨q1, q2⟩
    · rcases hf' with ⟨r1, r2⟩ | ⟨r1, r2⟩
      · omega
      · obtain ⟨f, e⟩ : ∃ f : Nat, tFar S0 = (f : Int) := ⟨(tFar S0).toNat, by omega⟩
        have hfn2 : f < nc := by
          rcases hI.2.2.2.2.2.2.2.1 with w | ⟨f', w1, w2, w3⟩ <;> omega
        have h1 : imgB X.2.2.2 nc (18 + f) = true := imgB_iff.mpr ⟨f, hfn2, q2 f e⟩
        rw [he _ (by omega)] at h1
        obtain ⟨j, w1, w2⟩ := imgB_iff.mp h1
        exact r2 f e j w1 w2
    · omega
  · refine lexP_not0 p2 (fun i hi => ?_)
    show potV nc X'.1 i * tBel X.1 - potV nc X.1 i * tBel X'.1 = 0
    unfold potV
    rcases (show i < nc + 1 ∨ ¬ i < nc + 1 by omega) with w | w
    · rw [if_pos w, if_pos w, ← p1]
      rcases (show tFar X.1 < 0 ∨ 0 ≤ tFar X.1 by omega) with w2 | w2
      · rw [if_pos w2, if_pos w2]; simp
      · rw [if_neg (by omega), if_neg (by omega)]
        obtain ⟨f, e⟩ : ∃ f : Nat, tFar X.1 = (f : Int) := ⟨(tFar X.1).toNat, by omega⟩
        rw [e, Int.toNat_natCast]
        have g1 : f < nc ∧ tSh X.1 f = 0 := by
          rcases hI.2.2.2.2.2.2.2.1 with w | ⟨f', w1, w2, w3⟩
          · omega
          · have : f' = f := by omega
            subst this; exact ⟨w1, w3⟩
        have g2 : tSh X'.1 f = 0 := by
          rcases hI'.2.2.2.2.2.2.2.1 with w | ⟨f', w1, w2, w3⟩
          · omega
          · have : f' = f := by omega
            subst this; exact w3
        have d1 : X.2.2.2 f = 18 + f := by
          rcases hf with ⟨q1, q2⟩ | ⟨q1, q2⟩
          · exact q2 f (by omega)
          · omega
        have d2 : X'.2.2.2 f = 18 + f := by
          rcases hf' with ⟨q1, q2⟩ | ⟨q1, q2⟩
          · exact q2 f (by omega)
          · omega
        have := hcell f (by omega) (Or.inr ⟨f, rfl, g1.1, d1, d2⟩) (Or.inr g1.2) (Or.inr g2) i w
        have e5 : (-tCe X'.1 (i * 6 + f)) * tBel X.1 - (-tCe X.1 (i * 6 + f)) * tBel X'.1 = -(tCe X'.1 (i * 6 + f) * tBel X.1 - tCe X.1 (i * 6 + f) * tBel X'.1) := by grind
        rw [e5, this]; rfl
    · rw [if_neg w, if_neg w]
      exact hcell 5 (by omega) (Or.inl rfl) (Or.inl hnc) (Or.inl hnc) _ (by omega)
theorem run_stop {nc : Nat} {W B0 : Nat → Nat → Int} {S0 : TS} {X : RS} (h : RI gd nc W B0 S0 X) (ho : ∀ t, t < 1000000 → onR nc (runR nc W X t)) : False := by
  have hr : ∀ t, t < 1000000 → RI gd nc W B0 S0 (runR nc W X t) := fun t ht => RI_run h (fun u hu => ho u (by omega))
  have hcn : ∀ t, t < 1000000 → cntZ (imgB (runR nc W X t).2.2.2 nc) 23 = nc := fun t ht => cnt_img (fun j hj => ((hr t ht).2.1 j hj).1) (fun a b ha hb e => RI_inj (hr t ht) ha hb e)
  obtain ⟨a, b, h1, h2, h3⟩ := pigeon (chN 23 nc) 1000000 (fun t => cdN (imgB (runR nc W X t).2.2.2 nc) 23 nc) (chN_small nc h.1.2.1) (fun t ht => cd_lt 23 nc (hcn t ht))
  have h4 := cd_inj 23 nc (hcn a (by omega)) (hcn b h2) h3
  obtain ⟨d, rfl⟩ : ∃ d, b = a + 1 + d := ⟨b - a - 1, by omega⟩
  exact same_set (hr a (by omega)) (hr _ h2) h4 (RI_lt h (fun t ht => ho t (by omega)))
theorem run_desc {nc : Nat} {W : Nat → Nat → Int} {X : RS} : ∀ {t n : Nat}, (∀ u, u < t → onR nc (runR nc W X u)) → descT nc (n + t) X.1 = descT nc n (runR nc W X t).1
  | 0, n, _ => rfl
  | t + 1, n, ho => by
    have h1 := run_desc (t := t) (n := n + 1) (fun u hu => ho u (by omega))
    rw [show n + (t + 1) = n + 1 + t by omega, h1]
    have o := ho t (by omega)
    obtain ⟨line, hln⟩ : ∃ line : Nat, dcLn (runR nc W X t).1 = (line : Int) := ⟨(dcLn (runR nc W X t).1).toNat, by have := o.1; omega⟩
    obtain ⟨k, hk⟩ : ∃ k : Nat, dcK nc (runR nc W X t).1 = (k : Int) := ⟨(dcK nc (runR nc W X t).1).toNat, by have := o.2; omega⟩
    rw [descT_on hln hk]
    show _ = descT nc n (stepR nc W (runR nc W X t)).1
    unfold stepR
    rw [hln, hk, Int.toNat_natCast, Int.toNat_natCast]
theorem first_not {P : Nat → Prop} : ∀ n, (∀ t, t < n → P t) ∨ ∃ t, t < n ∧ (∀ u, u < t → P u) ∧ ¬ P t
  | 0 => Or.inl (fun t ht => absurd ht (Nat.not_lt_zero t))
  | n + 1 => by
    rcases first_not (P := P) n with h | ⟨t, h1, h2, h3⟩
    · by_cases e : P n
      · refine Or.inl (fun t ht => ?_)
        rcases (show t < n ∨ t = n by omega) with q | q
        · exact h t q
        · subst q; exact e
      · exact Or.inr ⟨n, by omega, h, e⟩
    · exact Or.inr ⟨t, by omega, h2, h3⟩
/-- a descent comes to a corner that keeps all lines, or to a line that nothing keeps -/
theorem desc_main {nc : Nat} {W : Nat → Nat → Int} {S : TS} {B : Nat → Nat → Int} {s : Int} (h : tabI gd nc W S B s) : ∃ B' s', tabI gd nc W (descT nc 1000000 S).1 B' s' ∧ fixP S (descT nc 1000000 S).1 ∧
    (((descT nc 1000000 S).2 = true ∧ dcLn (descT nc 1000000 S).1 < 0) ∨ ((descT nc 1000000 S).2 = false ∧ 0 ≤ dcLn (descT nc 1000000 S).1 ∧ dcK nc (descT nc 1000000 S).1 < 0)) := by
  have hn := h.2.1
  have h0 : RI gd nc W B S (S, B, s, fun j => 18 + j) := by
    refine ⟨h, fun j hj => ⟨by show 18 + j < 23; omega, ?_⟩, Or.inl ⟨rfl, fun f _ => rfl⟩, rfl, rfl, rfl, rfl, rfl⟩
    show B j = idF W B (18 + j)
    unfold idF
    rw [if_neg (by omega), show 18 + j - 18 = j by omega]
  rcases first_not (P := fun t => onR nc (runR nc W (S, B, s, fun j => 18 + j) t)) 1000000 with q | ⟨t, q1, q2, q3⟩
  · exact absurd (run_stop h0 q) id
  · have hR := RI_run h0 q2
    have hd := run_desc (t := t) (n := 1000000 - t) q2
    rw [show 1000000 - t + t = 1000000 by omega] at hd
    have hd2 : descT nc 1000000 S = descT nc (1000000 - (t + 1) + 1) (runR nc W (S, B, s, fun j => 18 + j) t).1 := by
      rw [show 1000000 - (t + 1) + 1 = 1000000 - t by omega]; exact hd
    rcases (show dcLn (runR nc W (S, B, s, fun j => 18 + j) t).1 < 0 ∨ 0 ≤ dcLn (runR nc W (S, B, s, fun j => 18 + j) t).1 by omega) with w | w
    · rw [descT_yes w] at hd2
      rw [hd2]
      exact ⟨_, _, hR.1, hR.2.2.2, Or.inl ⟨rfl, w⟩⟩
    · have w2 : dcK nc (runR nc W (S, B, s, fun j => 18 + j) t).1 < 0 := by
        rcases (show dcK nc (runR nc W (S, B, s, fun j => 18 + j) t).1 < 0 ∨ 0 ≤ dcK nc (runR nc W (S, B, s, fun j => 18 + j) t).1 by omega) with z | z
        · exact z
        · exact absurd ⟨w, z⟩ q3
      rw [descT_no (by omega) w2] at hd2
      rw [hd2]
      exact ⟨_, _, hR.1, hR.2.2.2, Or.inr ⟨rfl, w, w2⟩⟩
