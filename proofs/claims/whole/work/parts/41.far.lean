variable {gd : Prop}
-- ===== the far bound laid =====
def fbV (nc m : Nat) (ce : Nat → Int) (B : Nat → Nat → Int) : Nat → Nat → Int := putV B m (fun x => sumZ (fun k => (if k < nc ∧ ce k < 0 then (-1 : Int) else 0) * B k x) 6)
def fdV (nc m : Nat) (ce : Nat → Int) (Dm : Nat → Nat → Int) : Nat → Nat → Int := fun j c => if j = m then -Dm m c else if j < nc ∧ ce j < 0 then Dm j c - Dm m c else Dm j c
theorem fb_inv {nc m : Nat} {ce : Nat → Int} {B Dm : Nat → Nat → Int} (hm : m < nc) (hnc : nc ≤ 5) (hneg : ce m < 0) (h : ∀ c, c < 6 → ∀ x, x < 6 → unV c x = sumZ (fun m => Dm m c * B m x) 6) : ∀ c, c < 6 → ∀ x, x < 6 → unV c x = sumZ (fun j => fdV nc m ce Dm j c * fbV nc m ce B j x) 6 := by
  intro c hc x hx
  have hm6 : m < 6 := by omega
  rw [h c hc x hx, sm_split hm6, sm_split (f := fun j => fdV nc m ce Dm j c * fbV nc m ce B j x) hm6]
  have e1 : fdV nc m ce Dm m c * fbV nc m ce B m x = Dm m c * (B m x + sumZ (fun j => if j = m then 0 else (if j < nc ∧ ce j < 0 then (1 : Int) else 0) * B j x) 6) := by
    unfold fdV fbV
    rw [if_pos rfl, putV_eq, sm_split hm6, if_pos ⟨hm, hneg⟩]
    have e2 : sumZ (fun j => if j = m then 0 else (if j < nc ∧ ce j < 0 then (-1 : Int) else 0) * B j x) 6 = (-1) * sumZ (fun j => if j = m then 0 else (if j < nc ∧ ce j < 0 then (1 : Int) else 0) * B j x) 6 := by
      rw [← sm_mul]
      refine sm_cong (fun j _ => ?_)
      by_cases e : j = m
      · rw [if_pos e, if_pos e]; rfl
      · rw [if_neg e, if_neg e]
        by_cases q : j < nc ∧ ce j < 0
        · rw [if_pos q, if_pos q]; omega
        · rw [if_neg q, if_neg q]; simp
    rw [e2]; grind
  rw [e1]
  have e3 : sumZ (fun j => if j = m then 0 else fdV nc m ce Dm j c * fbV nc m ce B j x) 6 = sumZ (fun j => 1 * (if j = m then 0 else Dm j c * B j x) + (-Dm m c) * (if j = m then 0 else (if j < nc ∧ ce j < 0 then (1 : Int) else 0) * B j x)) 6 := by
    refine sm_cong (fun j _ => ?_)
    by_cases e : j = m
    · rw [if_pos e, if_pos e, if_pos e]; simp
    · rw [if_neg e, if_neg e, if_neg e]
      unfold fdV fbV
      rw [if_neg e, putV_ne e]
      by_cases q : j < nc ∧ ce j < 0
      · rw [if_pos q, if_pos q]; grind
      · rw [if_neg q, if_neg q]; simp
  rw [e3, sm_lin]
  grind
theorem fb_det {nc m : Nat} {ce : Nat → Int} {B : Nat → Nat → Int} (hm : m < nc) (hnc : nc ≤ 5) (hneg : ce m < 0) : detD 6 (fbV nc m ce B) = -detD 6 B := by
  unfold fbV
  rw [det_sum B (show m < 6 by omega) (fun k => if k < nc ∧ ce k < 0 then (-1 : Int) else 0) B 6, sm_one (k := m) (by omega) (fun j hj hne => ?_), if_pos ⟨hm, hneg⟩, putV_self]
  · omega
  · rw [det_same (a := m) (b := j) (Ne.symm hne) (by omega) hj (by rw [putV_eq, putV_ne hne])]; simp
theorem dot_sub {n : Nat} (f y z : Nat → Int) : dotZ n f (fun x => y x - z x) = dotZ n f y - dotZ n f z := by
  have h := dot_lin n f y z 1 (-1)
  rw [dot_cong (z := fun x => 1 * y x + -1 * z x) (fun x _ => by show y x - z x = 1 * y x + -1 * z x; omega), h]; omega
theorem dot_neg {n : Nat} (f y : Nat → Int) : dotZ n f (fun x => -y x) = -dotZ n f y := by
  have h := dot_mul n f y (-1)
  rw [dot_cong (z := fun x => -1 * y x) (fun x _ => by show -y x = -1 * y x; omega), h]; omega
theorem far_ok {nc : Nat} (hnc : nc ≤ 5) {co lo hi : Nat → Int} (hlo : ∀ j, -20 ≤ lo j ∧ lo j ≤ 20) (hhi : ∀ j, hi j = NONEz ∨ (-20 ≤ hi j ∧ hi j ≤ 20)) {Φ : (Nat → Int) → Prop} {W : Nat → Nat → Int} {S : TS} (h : rwI nc co lo hi Φ W S) (h18 : tNl S ≤ 18) : ∃ B s, tabI gd nc W (reachT nc S) B s ∧ stI nc Φ W (reachT nc S) := by
  have hst0 : stI nc Φ W (reachT nc S) := h.2.2.2.2.2.2.2.2.2.2.2.1
  have hmr := mostZ_rng (tCe S) nc
  rcases (show mostZ (tCe S) nc < 0 ∨ 0 ≤ mostZ (tCe S) nc by omega) with hm0 | hm0
  · have e1 : reachT nc S = S := by
      have e2 : farM (tCe S) nc (mostZ (tCe S) nc) (tNl S * 6) = tCe S := by unfold farM; rw [if_pos hm0]
      have e3 : mostZ (tCe S) nc = tFar S := by rw [h.2.2.1]; omega
      show (farM (tCe S) nc (mostZ (tCe S) nc) (tNl S * 6), S.2.1, S.2.2.1, S.2.2.2.1, S.2.2.2.2.1, S.2.2.2.2.2.1, S.2.2.2.2.2.2.1, S.2.2.2.2.2.2.2.1, mostZ (tCe S) nc) = S
      rw [e2, e3]
    obtain ⟨B, s, hI⟩ := near_ok hnc hlo hhi h h18 (fun j hj => mostZ_none hm0 j hj)
    exact ⟨B, s, by rw [e1]; exact hI, hst0⟩
  · obtain ⟨m, hm⟩ : ∃ m : Nat, mostZ (tCe S) nc = (m : Int) := ⟨(mostZ (tCe S) nc).toNat, by omega⟩
    obtain ⟨m1, m2, m3⟩ := mostZ_spec hm
    have hlexb := fun j hj => lex_b0 hnc h (j := j) hj
    have hlex := fun j hj hp => lex_ok hnc h (j := j) hj hp
    have hsem := fun y hy j hj => rw_sem hnc h (y := y) hy (j := j) hj
    have h' := h
    obtain ⟨a1, a2, a3, a4, a5, a6, a7, a8, a9, a10, a12, a13, a14⟩ := h
    have eC : tCe (reachT nc S) = mixZ (farC (tCe S) nc m) (tCe S) (tNl S * 6) := by
      show farM (tCe S) nc (mostZ (tCe S) nc) (tNl S * 6) = _
      rw [hm, farM_nat]
    have eF : tFar (reachT nc S) = (m : Int) := hm
    have hcell : ∀ i j, i < tNl S → j < 6 → tCe (reachT nc S) (i * 6 + j) = if j = m then -tCe S (i * 6 + m) else if j < nc ∧ tCe S j < 0 then tCe S (i * 6 + j) - tCe S (i * 6 + m) else tCe S (i * 6 + j) := by
      intro i j hi' hj
      rw [eC, mix_lt (by omega)]
      unfold farC
      rw [(dm6 hj).1, (dm6 hj).2]
    have hinv := fb_inv m1 hnc m2 (b0_inv hnc co lo hi)
    have hdet : detD 6 (fbV nc m (tCe S) (b0V nc co lo hi)) = 1 ∨ detD 6 (fbV nc m (tCe S) (b0V nc co lo hi)) = -1 := by
      rw [fb_det m1 hnc m2]
      rcases b0_det hnc co lo hi with e | e <;> rw [e] <;> simp
    have hne : ∀ j, j ≠ m → fbV nc m (tCe S) (b0V nc co lo hi) j = b0V nc co lo hi j := fun j hj => putV_ne hj
    have hbm : ∀ x, fbV nc m (tCe S) (b0V nc co lo hi) m x = sumZ (fun k => (if k < nc ∧ tCe S k < 0 then (-1 : Int) else 0) * b0V nc co lo hi k x) 6 := fun x => by unfold fbV; rw [putV_eq]
    have hA : tabA nc (tCe (reachT nc S)) (tSh S) (tNl S) 1 W (fbV nc m (tCe S) (b0V nc co lo hi)) (detD 6 (fbV nc m (tCe S) (b0V nc co lo hi))) := by
      refine tabA_inv hinv hdet ?_ ?_ ?_ ?_
      · rw [hne 5 (by omega)]; exact b0_5 hnc
      · intro j q1 q2; rw [hne j (by omega)]; unfold b0V; rw [if_neg (by omega), if_pos q2]
      · intro j q1 c q2 q3
        by_cases e : j = m
        · rw [e, hbm]
          refine sm_z (fun k _ => ?_)
          by_cases q : k < nc ∧ tCe S k < 0
          · rw [if_pos q, b0_in q.1, if_neg (by omega), if_neg (by omega)]; simp
          · rw [if_neg q]; simp
        · rw [hne j e, b0_in q1, if_neg (by omega), if_neg (by omega)]
      · intro i j hi' hj _
        rw [hcell i j hi' hj]
        by_cases e : j = m
        · rw [if_pos e]
          have e1 : fdV nc m (tCe S) (dmV nc co lo hi) j = fun c => -dmV nc co lo hi m c := by funext c; unfold fdV; rw [if_pos e]
          rw [e1, dot_neg, a4 i m hi' (by omega)]
        · rw [if_neg e]
          by_cases q : j < nc ∧ tCe S j < 0
          · rw [if_pos q]
            have e1 : fdV nc m (tCe S) (dmV nc co lo hi) j = fun c => dmV nc co lo hi j c - dmV nc co lo hi m c := by funext c; unfold fdV; rw [if_neg e, if_pos q]
            rw [e1, dot_sub, a4 i m hi' (by omega), a4 i j hi' hj]
          · rw [if_neg q]
            have e1 : fdV nc m (tCe S) (dmV nc co lo hi) j = dmV nc co lo hi j := by funext c; unfold fdV; rw [if_neg e, if_neg q]
            rw [e1, a4 i j hi' hj]
    have hb0s := b0_small hnc (co := co) hlo hhi
    have hBs : ∀ j, j < 6 → smallV (fbV nc m (tCe S) (b0V nc co lo hi) j) := by
      intro j hj
      by_cases e : j = m
      · rw [e]
        have hst1 : ∀ k, k < nc → (stC co lo hi k).natAbs ≤ 20 := by
          intro k _
          have h1 := hlo k
          have h2 := hhi k
          unfold stC startZ
          split
          · rename_i e
            rcases h2 with e2 | e2
            · exact absurd e2 e.2
            · omega
          · omega
        refine ⟨?_, fun x h1 h2 => ?_⟩
        · rw [hbm]
          refine Nat.le_trans (sm_abs (K := 20) (fun k hk => ?_)) (by decide)
          by_cases q : k < nc ∧ tCe S k < 0
          · rw [if_pos q, b0_in q.1, if_neg (by omega), if_pos rfl]
            have := hst1 k q.1
            rcases wyC_or co hi k with e | e <;> rw [e] <;> omega
          · rw [if_neg q]; simp
        · rw [hbm]
          refine Nat.le_trans (sm_abs (K := 1) (fun k hk => ?_)) (by decide)
          by_cases q : k < nc ∧ tCe S k < 0
          · rw [if_pos q, b0_in q.1]
            split
            · rcases wyC_or co hi k with e | e <;> rw [e] <;> decide
            · rw [if_neg (by omega)]; decide
          · rw [if_neg q]; simp
      · rw [hne j e]; exact hb0s j hj
    refine ⟨fbV nc m (tCe S) (b0V nc co lo hi), detD 6 (fbV nc m (tCe S) (b0V nc co lo hi)), ⟨?_, hnc, a1, a7, fun c hc => by rw [a6 c hc]; show _ = lnV c (tLo S c); rw [(a9 c hc).1], a10, ?_, Or.inr ⟨m, m1, eF, (a9 m m1).2.2⟩, hBs, a8, ?_, ?_⟩, hst0⟩
    · show tabA nc (tCe (reachT nc S)) (tSh S) (tNl S) (tBel S) W _ _
      rw [a2]; exact hA
    · intro j hj _
      have hwneg : ∀ k, k < nc → tCe S k < 0 → wyC co hi k = 1 := by
        intro k hk hneg
        have h1 := (hlexb k hk).1
        unfold wyC wayZ at h1 ⊢
        by_cases q : co k < 0 ∧ hi k ≠ -2000000005
        · rw [if_pos q] at h1; omega
        · rw [if_neg q]
      by_cases e : j = m
      · refine ⟨0, by omega, ?_, fun i hi' => absurd hi' (Nat.not_lt_zero i)⟩
        show 0 < tCe (reachT nc S) (0 * 6 + j)
        rw [hcell 0 j (by omega) (by omega), if_pos e, Nat.zero_mul, Nat.zero_add]; omega
      · by_cases q : tCe S j < 0
        · have hc2 : ∀ i, i < tNl S → tCe (reachT nc S) (i * 6 + j) = tCe S (i * 6 + j) - tCe S (i * 6 + m) := by
            intro i hi'; rw [hcell i j hi' (by omega), if_neg e, if_pos ⟨hj, q⟩]
          obtain ⟨k1, k2⟩ := m3 j hj q
          rcases (show tCe S m < tCe S j ∨ tCe S j = tCe S m by omega) with w | w
          · refine ⟨0, by omega, ?_, fun i hi' => absurd hi' (Nat.not_lt_zero i)⟩
            show 0 < tCe (reachT nc S) (0 * 6 + j)
            rw [hc2 0 (by omega), Nat.zero_mul, Nat.zero_add, Nat.zero_add]; omega
          · have hjm : j < m := by have := k2 w; omega
            refine ⟨1 + j, by omega, ?_, fun i hi' => ?_⟩
            · show 0 < tCe (reachT nc S) ((1 + j) * 6 + j)
              rw [hc2 (1 + j) (by omega), (hlexb j hj).2 j hj, (hlexb m m1).2 j hj, if_pos rfl, if_neg (by omega), hwneg j hj q]; decide
            · show tCe (reachT nc S) (i * 6 + j) = 0
              rcases (show i = 0 ∨ ∃ c, i = 1 + c by rcases i with _ | i; exact Or.inl rfl; exact Or.inr ⟨i, by omega⟩) with z | ⟨c, z⟩
              · subst z; rw [hc2 0 (by omega), Nat.zero_mul, Nat.zero_add, Nat.zero_add]; omega
              · subst z; rw [hc2 (1 + c) (by omega), (hlexb j hj).2 c (by omega), (hlexb m m1).2 c (by omega), if_neg (by omega), if_neg (by omega)]; rfl
        · refine lexP_cong (fun i hi' => ?_) (hlex j hj q)
          rw [hcell i j (by omega) (by omega), if_neg e, if_neg (fun z => q z.2)]
    · intro _ y hy j hj
      refine ⟨fun _ hf => ?_, fun q => absurd (a9 j hj).2.2 q⟩
      have : j ≠ m := by intro z; exact hf (by rw [eF, z])
      rw [hne j this]
      exact hsem y hy j hj
    · refine rw_bnd hnc h' h18 hA hBs (fun q hq => ?_) rfl rfl rfl a2 ?_
      · rw [eC, mix_ge hq]
      · rw [eF]; omega
