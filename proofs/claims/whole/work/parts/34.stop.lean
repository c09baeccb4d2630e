variable {gd : Prop}
-- ===== counting =====
theorem cnt_cong {f g : Nat → Bool} : ∀ {n : Nat}, (∀ j, j < n → f j = g j) → cntZ f n = cntZ g n
  | 0, _ => rfl
  | n + 1, h => by
    show cntZ f n + (if f n then 1 else 0) = cntZ g n + (if g n then 1 else 0)
    rw [cnt_cong (fun j hj => h j (by omega)), h n (by omega)]
theorem cnt_add1 {f g : Nat → Bool} {x : Nat} (hf : f x = false) (hg : g x = true) (h : ∀ j, j ≠ x → g j = f j) : ∀ {n : Nat}, x < n → cntZ g n = cntZ f n + 1
  | 0, hx => absurd hx (Nat.not_lt_zero x)
  | n + 1, hx => by
    show cntZ g n + (if g n then 1 else 0) = cntZ f n + (if f n then 1 else 0) + 1
    by_cases e : x = n
    · subst e; rw [cnt_cong (f := g) (g := f) (fun j hj => h j (by omega)), hg, hf]; simp
    · rw [cnt_add1 hf hg h (show x < n by omega), h n (Ne.symm e)]; omega
theorem cnt_0 : ∀ n, cntZ (fun _ => false) n = 0
  | 0 => rfl
  | n + 1 => by show cntZ (fun _ => false) n + 0 = 0; rw [cnt_0 n]
def imgB (d : Nat → Nat) : Nat → Nat → Bool
  | 0, _ => false
  | n + 1, x => imgB d n x || d n == x
theorem imgB_iff {d : Nat → Nat} : ∀ {n x : Nat}, imgB d n x = true ↔ ∃ j, j < n ∧ d j = x
  | 0, x => by simp [imgB]
  | n + 1, x => by
    unfold imgB
    rw [Bool.or_eq_true, imgB_iff, beq_iff_eq]
    constructor
    · rintro (⟨j, h1, h2⟩ | h)
      · exact ⟨j, by omega, h2⟩
      · exact ⟨n, by omega, h⟩
    · rintro ⟨j, h1, h2⟩
      rcases (show j < n ∨ j = n by omega) with q | q
      · exact Or.inl ⟨j, q, h2⟩
      · subst q; exact Or.inr h2
theorem cnt_img {d : Nat → Nat} {K : Nat} : ∀ {n : Nat}, (∀ j, j < n → d j < K) → (∀ a b, a < n → b < n → d a = d b → a = b) → cntZ (imgB d n) K = n
  | 0, _, _ => cnt_0 K
  | n + 1, h, hi => by
    have h1 : imgB d n (d n) = false := by
      rcases hb : imgB d n (d n) with _ | _
      · rfl
      · obtain ⟨j, a1, a2⟩ := imgB_iff.mp hb
        have := hi j n (by omega) (by omega) a2
        omega
    rw [cnt_add1 (f := imgB d n) (g := imgB d (n + 1)) (x := d n) h1 (imgB_iff.mpr ⟨n, by omega, rfl⟩) (fun j hj => by show (imgB d n j || d n == j) = imgB d n j; rw [beq_eq_false_iff_ne.mpr (Ne.symm hj), Bool.or_false]) (h n (by omega)),
      cnt_img (fun j hj => h j (by omega)) (fun a b ha hb e => hi a b (by omega) (by omega) e)]
def chN : Nat → Nat → Nat
  | _, 0 => 1
  | 0, _ + 1 => 0
  | n + 1, k + 1 => chN n k + chN n (k + 1)
def cdN (m : Nat → Bool) : Nat → Nat → Nat
  | 0, _ => 0
  | n + 1, k => if m n then chN n k + cdN m n (k - 1) else cdN m n k
theorem cd_lt {m : Nat → Bool} : ∀ (n k : Nat), cntZ m n = k → cdN m n k < chN n k
  | 0, k, h => by
    have : k = 0 := h.symm
    subst this
    show (0 : Nat) < 1
    decide
  | n + 1, k, h => by
    have h1 : cntZ m n + (if m n then 1 else 0) = k := h
    unfold cdN
    by_cases e : m n = true
    · rw [if_pos e]
      rw [if_pos e] at h1
      obtain ⟨k', rfl⟩ : ∃ k', k = k' + 1 := ⟨k - 1, by omega⟩
      have := cd_lt (m := m) n k' (by omega)
      show chN n (k' + 1) + cdN m n k' < chN n k' + chN n (k' + 1)
      omega
    · rw [if_neg e]
      rw [if_neg e] at h1
      have := cd_lt (m := m) n k (by omega)
      rcases k with _ | k
      · have e1 : chN n 0 = 1 := by cases n <;> rfl
        show cdN m n 0 < 1
        omega
      · show cdN m n (k + 1) < chN n k + chN n (k + 1)
        omega
theorem cd_inj {m m' : Nat → Bool} : ∀ (n k : Nat), cntZ m n = k → cntZ m' n = k → cdN m n k = cdN m' n k → ∀ x, x < n → m x = m' x
  | 0, _, _, _, _, x, hx => absurd hx (Nat.not_lt_zero x)
  | n + 1, k, h, h', he, x, hx => by
    have h1 : cntZ m n + (if m n then 1 else 0) = k := h
    have h2 : cntZ m' n + (if m' n then 1 else 0) = k := h'
    unfold cdN at he
    by_cases e : m n = true
    · by_cases e' : m' n = true
      · rw [if_pos e] at he h1
        rw [if_pos e'] at he h2
        rcases (show x < n ∨ x = n by omega) with q | q
        · exact cd_inj n (k - 1) (by omega) (by omega) (by omega) x q
        · subst q; rw [e, e']
      · rw [if_pos e] at he
        rw [if_neg e'] at he h2
        have := cd_lt (m := m') n k (by omega)
        omega
    · by_cases e' : m' n = true
      · rw [if_neg e] at he h1
        rw [if_pos e'] at he
        have := cd_lt (m := m) n k (by omega)
        omega
      · rw [if_neg e] at he h1
        rw [if_neg e'] at he h2
        rcases (show x < n ∨ x = n by omega) with q | q
        · exact cd_inj n k (by omega) (by omega) he x q
        · subst q
          rcases hm : m x with _ | _
          · rcases hm' : m' x with _ | _
            · rfl
            · exact absurd hm' e'
          · exact absurd hm e
theorem pigeon : ∀ (K N : Nat) (g : Nat → Nat), K < N → (∀ t, t < N → g t < K) → ∃ a b, a < b ∧ b < N ∧ g a = g b
  | 0, N, g, h, hg => absurd (hg 0 h) (Nat.not_lt_zero _)
  | K + 1, N, g, h, hg => by
    obtain ⟨M, rfl⟩ : ∃ M, N = M + 1 := ⟨N - 1, by omega⟩
    by_cases hex : ∃ a, a < M ∧ g a = g M
    · obtain ⟨a, h1, h2⟩ := hex
      exact ⟨a, M, h1, by omega, h2⟩
    · have hne : ∀ a, a < M → g a ≠ g M := fun a ha e => hex ⟨a, ha, e⟩
      have hM := hg M (by omega)
      obtain ⟨a, b, h1, h2, h3⟩ := pigeon K M (fun t => if g M < g t then g t - 1 else g t) (by omega) (fun t ht => by
        have := hg t (by omega)
        have := hne t ht
        show (if g M < g t then g t - 1 else g t) < K
        by_cases e : g M < g t
        · rw [if_pos e]; omega
        · rw [if_neg e]; omega)
      have na := hne a (by omega)
      have nb := hne b h2
      refine ⟨a, b, h1, by omega, ?_⟩
      have h4 : (if g M < g a then g a - 1 else g a) = (if g M < g b then g b - 1 else g b) := h3
      by_cases e : g M < g a
      · by_cases e' : g M < g b
        · rw [if_pos e, if_pos e'] at h4; omega
        · rw [if_pos e, if_neg e'] at h4; omega
      · by_cases e' : g M < g b
        · rw [if_neg e, if_pos e'] at h4; omega
        · rw [if_neg e, if_neg e'] at h4; exact h4
theorem chN_small : ∀ k, k ≤ 5 → chN 23 k < 1000000 := by
  intro k hk
  rcases (show k = 0 ∨ k = 1 ∨ k = 2 ∨ k = 3 ∨ k = 4 ∨ k = 5 by omega) with e | e | e | e | e | e <;> subst e <;> decide +kernel
-- ===== what a turn gains =====
theorem tab_dc {nc : Nat} {W : Nat → Nat → Int} {S : TS} {B : Nat → Nat → Int} {s : Int} {line k : Nat} (h : tabI gd nc W S B s) (hln : dcLn S = (line : Int)) (hk : dcK nc S = (k : Int)) :
    line < tNl S ∧ 1 ≤ line ∧ k < nc ∧ tSh S k = 0 ∧ tCe S (line * 6 + k) ≠ 0 ∧ wyZ (tCe S) line k = -sideZ (tCe S) (tFar S) line ∧ sideZ (tCe S) (tFar S) line ≠ 0 ∧ ((if tTi S line = 2 then (1 : Int) else 0) = 0 → 0 < tCe S (line * 6 + k)) := by
  obtain ⟨hA, hnc, hnl, hWz, hL, ⟨ht0, ht⟩, -⟩ := h
  obtain ⟨hl, hbr, -⟩ := firstZ_is (f := brokB (tCe S) (tTi S) (tFar S)) hln
  unfold dcK at hk
  rw [hln, Int.toNat_natCast] at hk
  have hkr := cheapZ_rng (tCe S) (tSh S) nc line (sideZ (tCe S) (tFar S) line) nc
  have hkn : k < nc := by have := hkr.2; rw [show cheapZ (tCe S) (tSh S) nc line (sideZ (tCe S) (tFar S) line) nc = (k : Int) from hk] at this; omega
  obtain ⟨hsk, hneg⟩ := cheapZ_neg hk
  have hp : tCe S (line * 6 + k) ≠ 0 := cheapZ_ne hk
  have hsr := sideZ_rng (tCe S) (tFar S) line
  obtain ⟨sd, hsd⟩ : ∃ sd, sd = sideZ (tCe S) (tFar S) line := ⟨_, rfl⟩
  rw [← hsd] at hneg hsr ⊢
  have hway := sd_way hneg hsr (w := wyZ (tCe S) line k) rfl
  have hbr2 : tTi S line ≠ 0 ∧ (sd < 0 ∨ (0 < sd ∧ tTi S line = 2)) := by
    unfold brokB at hbr; rw [← hsd] at hbr; simpa using hbr
  have hl1 : 1 ≤ line := by
    rcases (show line = 0 ∨ 1 ≤ line by omega) with e | e
    · subst e; exact absurd ht0 hbr2.1
    · exact e
  refine ⟨hl, hl1, hkn, hsk, hp, hway.1, hway.2, fun q => ?_⟩
  have h2 : tTi S line ≠ 2 := by intro w; rw [if_pos w] at q; omega
  have h3 : sd = -1 := by omega
  have hneg2 : tCe S (line * 6 + k) * sd < 0 := hneg
  rw [h3] at hneg2; omega
theorem turn_row {nc : Nat} {W : Nat → Nat → Int} {S : TS} {B : Nat → Nat → Int} {s : Int} {line k i j : Nat} (h : tabI gd nc W S B s) (hln : dcLn S = (line : Int)) (hk : dcK nc S = (k : Int)) (hi : i < tNl S) (hj : j < 6) (hjk : j ≠ k) (hjs : nc ≤ j ∨ tSh S j = 0) :
    tBel S * tCe (turnT nc line k S) (i * 6 + j) = wyZ (tCe S) line k * tCe S (line * 6 + k) * tCe S (i * 6 + j) - wyZ (tCe S) line k * tCe S (i * 6 + k) * tCe S (line * 6 + j) := by
  obtain ⟨hl, hl1, hkn, hsk, hp, hway, hsd, hz⟩ := tab_dc h hln hk
  have hA2 := tabA_turn h.1 h.2.1 hl hkn hsk hp (h.2.2.2.1 line hl) (if tTi S line = 2 then 1 else 0) hz
  show tBel S * tnE (tCe S) (tSh S) nc (tNl S) line k (tBel S) (i * 6 + j) = _
  rw [hA2.2.2.2.2.2.2.2 i j hi hj (by rcases hjs with q | q; exact Or.inl q; exact Or.inr (by rw [up_ne hjk]; exact q))]
  exact tabA_cell h.1 h.2.1 hl hkn hsk hi hj hjk hjs
def potV (nc : Nat) (S : TS) : Nat → Int := fun i => if i < nc + 1 then (if tFar S < 0 then 0 else -tCe S (i * 6 + (tFar S).toNat)) else tCe S ((i - (nc + 1)) * 6 + 5)
def potLt (nc : Nat) (S S' : TS) : Prop := (0 ≤ tFar S ∧ tFar S' < 0) ∨ (tFar S = tFar S' ∧ lexP (fun i => potV nc S' i * tBel S - potV nc S i * tBel S') (2 * (nc + 1)))
theorem pot_trans {nc : Nat} {S S' S'' : TS} (h0 : 0 < tBel S) (h1 : 0 < tBel S') (h2 : 0 < tBel S'') (a : potLt nc S S') (b : potLt nc S' S'') : potLt nc S S'' := by
  rcases a with ⟨a1, a2⟩ | ⟨a1, a2⟩
  · rcases b with ⟨b1, b2⟩ | ⟨b1, b2⟩
    · omega
    · exact Or.inl ⟨a1, by omega⟩
  · rcases b with ⟨b1, b2⟩ | ⟨b1, b2⟩
    · exact Or.inl ⟨by omega, b2⟩
    · refine Or.inr ⟨by omega, ?_⟩
      refine lexP_div h1 (fun i hi => ?_) (lexP_add (lexP_mul h0 b2) (Or.inr (lexP_mul h2 a2)))
      grind
theorem pot_step {nc : Nat} {W : Nat → Nat → Int} {S : TS} {B : Nat → Nat → Int} {s : Int} {line k : Nat} (h : tabI gd nc W S B s) (hln : dcLn S = (line : Int)) (hk : dcK nc S = (k : Int)) : potLt nc S (turnT nc line k S) := by
  obtain ⟨hl, hl1, hkn, hsk, hp, hway, hsd, hz⟩ := tab_dc h hln hk
  have hrow := fun i j hi hj hjk hjs => turn_row (i := i) (j := j) h hln hk hi hj hjk hjs
  have hnl := h.2.2.1
  have hnc := h.2.1
  have hlex := h.2.2.2.2.2.2.1 k hkn hsk
  have hfar := h.2.2.2.2.2.2.2.1
  have ef : tFar (turnT nc line k S) = if tFar S = (k : Int) then (-1 : Int) else tFar S := rfl
  have eb : tBel (turnT nc line k S) = wyZ (tCe S) line k * tCe S (line * 6 + k) := rfl
  by_cases e : tFar S = (k : Int)
  · exact Or.inl ⟨by omega, by rw [ef, if_pos e]; omega⟩
  · rw [if_neg e] at ef
    refine Or.inr ⟨ef.symm, ?_⟩
    have hc : ∀ i, i < nc + 1 → tCe (turnT nc line k S) (i * 6 + 5) * tBel S - tCe S (i * 6 + 5) * tBel (turnT nc line k S) = (sideZ (tCe S) (tFar S) line * tCe S (line * 6 + 5)) * tCe S (i * 6 + k) := by
      intro i hi
      have := hrow i 5 (by omega) (by omega) (by omega) (Or.inl hnc)
      rw [eb]
      rw [hway] at this ⊢
      grind
    obtain ⟨i0, q1, q2, q3⟩ := hlex
    have hM : ∀ f : Nat, tFar S = (f : Int) → ∀ i, i < nc + 1 → potV nc (turnT nc line k S) i * tBel S - potV nc S i * tBel (turnT nc line k S) = (wyZ (tCe S) line k * tCe S (line * 6 + f)) * tCe S (i * 6 + k) := by
      intro f hf i hi
      have hf2 : f < nc ∧ tSh S f = 0 := by
        rcases hfar with w | ⟨f', w1, w2, w3⟩
        · omega
        · have : f' = f := by omega
          subst this; exact ⟨w1, w3⟩
      have := hrow i f (by omega) (by omega) (by omega) (Or.inr hf2.2)
      unfold potV
      rw [if_pos hi, if_pos hi, ef, if_neg (by omega), if_neg (by omega), hf, Int.toNat_natCast, eb]
      grind
    have hC : ∀ i, ¬ i < nc + 1 → i < 2 * (nc + 1) → potV nc (turnT nc line k S) i * tBel S - potV nc S i * tBel (turnT nc line k S) = (sideZ (tCe S) (tFar S) line * tCe S (line * 6 + 5)) * tCe S ((i - (nc + 1)) * 6 + k) := by
      intro i hi hi2
      unfold potV
      rw [if_neg hi, if_neg hi]
      exact hc _ (by omega)
    by_cases hb : backZ (tCe S) (tFar S) line = 0
    · have hs5 : sideZ (tCe S) (tFar S) line = cmpZ (tCe S (line * 6 + 5)) 0 := by unfold sideZ; rw [if_pos hb]
      have hpos : 0 < sideZ (tCe S) (tFar S) line * tCe S (line * 6 + 5) := by
        rcases cmpZ_spec hs5 with ⟨w1, w2⟩ | ⟨w1, w2⟩ | ⟨w1, w2⟩
        · rw [w1]; omega
        · exact absurd w1 hsd
        · rw [w1]; omega
      refine ⟨nc + 1 + i0, by omega, ?_, fun j hj => ?_⟩
      · show 0 < potV nc (turnT nc line k S) (nc + 1 + i0) * tBel S - potV nc S (nc + 1 + i0) * tBel (turnT nc line k S)
        rw [hC _ (by omega) (by omega), show nc + 1 + i0 - (nc + 1) = i0 by omega]
        exact Int.mul_pos hpos q2
      · show potV nc (turnT nc line k S) j * tBel S - potV nc S j * tBel (turnT nc line k S) = 0
        rcases (show j < nc + 1 ∨ ¬ j < nc + 1 by omega) with w | w
        · rcases (show tFar S < 0 ∨ 0 ≤ tFar S by omega) with w2 | w2
          · unfold potV
            rw [if_pos w, if_pos w, ef, if_pos w2, if_pos w2]; simp
          · obtain ⟨f, hf⟩ : ∃ f : Nat, tFar S = (f : Int) := ⟨(tFar S).toNat, by omega⟩
            rw [hM f hf j w]
            unfold backZ at hb
            rw [if_neg (by omega), hf, Int.toNat_natCast] at hb
            rw [hb]; simp
        · have hz9 : tCe S ((j - (nc + 1)) * 6 + k) = 0 := q3 (j - (nc + 1)) (by omega)
          rw [hC j w (by omega), hz9]; simp
    · have hs5 : sideZ (tCe S) (tFar S) line = cmpZ 0 (backZ (tCe S) (tFar S) line) := by unfold sideZ; rw [if_neg hb]
      have hf0 : 0 ≤ tFar S := by
        rcases (show tFar S < 0 ∨ 0 ≤ tFar S by omega) with w2 | w2
        · exfalso; apply hb; unfold backZ; rw [if_pos w2]
        · exact w2
      obtain ⟨f, hf⟩ : ∃ f : Nat, tFar S = (f : Int) := ⟨(tFar S).toNat, by omega⟩
      have hbe : backZ (tCe S) (tFar S) line = tCe S (line * 6 + f) := by unfold backZ; rw [if_neg (by omega), hf, Int.toNat_natCast]
      have hpos : 0 < wyZ (tCe S) line k * tCe S (line * 6 + f) := by
        rw [hbe] at hs5
        rw [hway]
        rcases cmpZ_spec hs5 with ⟨w1, w2⟩ | ⟨w1, w2⟩ | ⟨w1, w2⟩
        · rw [w1]; omega
        · exact absurd w1 hsd
        · rw [w1]; omega
      refine ⟨i0, by omega, ?_, fun j hj => ?_⟩
      · show 0 < potV nc (turnT nc line k S) i0 * tBel S - potV nc S i0 * tBel (turnT nc line k S)
        rw [hM f hf i0 q1]
        exact Int.mul_pos hpos q2
      · show potV nc (turnT nc line k S) j * tBel S - potV nc S j * tBel (turnT nc line k S) = 0
        have hz9 : tCe S (j * 6 + k) = 0 := q3 j hj
        rw [hM f hf j (by omega), hz9]; simp
