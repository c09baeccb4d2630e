variable {gd : Prop}
-- ===== how many halves there can be =====
def prN (f : Nat → Nat) : Nat → Nat
  | 0 => 1
  | n + 1 => prN f n * f n
theorem pr_le {f g : Nat → Nat} : ∀ {n : Nat}, (∀ c, c < n → f c ≤ g c) → prN f n ≤ prN g n
  | 0, _ => Nat.le_refl _
  | n + 1, h => Nat.mul_le_mul (pr_le (fun c hc => h c (by omega))) (h n (by omega))
theorem pr_pos {f : Nat → Nat} : ∀ {n : Nat}, (∀ c, c < n → 1 ≤ f c) → 1 ≤ prN f n
  | 0, _ => Nat.le_refl _
  | n + 1, h => Nat.mul_pos (pr_pos (fun c hc => h c (by omega))) (h n (by omega))
theorem pr_cong {f g : Nat → Nat} : ∀ {n : Nat}, (∀ c, c < n → f c = g c) → prN f n = prN g n
  | 0, _ => rfl
  | n + 1, h => by
    show prN f n * f n = prN g n * g n
    rw [pr_cong (fun c hc => h c (by omega)), h n (by omega)]
theorem pr_split {f : Nat → Nat} {c : Nat} : ∀ {n : Nat}, c < n → prN f n = f c * prN (fun j => if j = c then 1 else f j) n
  | 0, h => absurd h (Nat.not_lt_zero c)
  | n + 1, h => by
    show prN f n * f n = f c * (prN (fun j => if j = c then 1 else f j) n * (if n = c then 1 else f n))
    by_cases e : c = n
    · subst e
      rw [if_pos rfl, Nat.mul_one, Nat.mul_comm]
      congr 1
      exact pr_cong (fun j hj => by rw [if_neg (by omega)])
    · rw [pr_split (show c < n by omega), if_neg (Ne.symm e), Nat.mul_assoc]
theorem pr_bound {f : Nat → Nat} {K : Nat} : ∀ {n : Nat}, (∀ c, c < n → f c ≤ K) → prN f n ≤ K ^ n
  | 0, _ => Nat.le_refl _
  | n + 1, h => by
    rw [Nat.pow_succ]
    exact Nat.mul_le_mul (pr_bound (fun c hc => h c (by omega))) (h n (by omega))
def fgN (kd pa : Nat → Int) (nc : Nat) (ti : Nat → Int) (c : Nat) : Nat := if kd c = 2 ∧ (0 ≤ pa c ∧ pa c < (nc : Int)) ∧ ti (1 + (pa c).toNat) ≠ 2 then 2 else 1
def wtC (kd pa : Nat → Int) (nc : Nat) (lo hi ti : Nat → Int) (c : Nat) : Nat := if 1 ≤ kd c then (hi c - lo c + 1).toNat * fgN kd pa nc ti c else 1
abbrev wtS (kd pa : Nat → Int) (nc : Nat) (S : TS) : Nat := prN (wtC kd pa nc (tLo S) (tHi S) (tTi S)) nc
def dmC (kd pa : Nat → Int) (nc : Nat) (lo hi ti : Nat → Int) (c : Nat) : Int := if 1 ≤ kd c then hi c - lo c + (fgN kd pa nc ti c : Int) - 1 else 0
abbrev dmS (kd pa : Nat → Int) (nc : Nat) (S : TS) : Int := sumZ (dmC kd pa nc (tLo S) (tHi S) (tTi S)) nc
theorem fg_or (kd pa : Nat → Int) (nc : Nat) (ti : Nat → Int) (c : Nat) : fgN kd pa nc ti c = 1 ∨ fgN kd pa nc ti c = 2 := by unfold fgN; split <;> simp
theorem fg_le {kd pa : Nat → Int} {nc : Nat} {ti ti' : Nat → Int} (h : ∀ i, ti i = 2 → ti' i = 2) (c : Nat) : fgN kd pa nc ti' c ≤ fgN kd pa nc ti c := by
  unfold fgN
  by_cases e : kd c = 2 ∧ (0 ≤ pa c ∧ pa c < (nc : Int)) ∧ ti (1 + (pa c).toNat) ≠ 2
  · rw [if_pos e]; split <;> omega
  · rw [if_neg e, if_neg (fun q => e ⟨q.1, q.2.1, fun z => q.2.2 (h _ z)⟩)]; omega
theorem sm_le {f g : Nat → Int} : ∀ {n : Nat}, (∀ c, c < n → f c ≤ g c) → sumZ f n ≤ sumZ g n
  | 0, _ => Int.le_refl _
  | n + 1, h => by
    have h1 := sm_le (n := n) (fun c hc => h c (by omega))
    have h2 := h n (by omega)
    show sumZ f n + f n ≤ sumZ g n + g n
    omega
theorem sm_lt1 {f g : Nat → Int} {k : Nat} : ∀ {n : Nat}, k < n → (∀ c, c < n → f c ≤ g c) → f k + 1 ≤ g k → sumZ f n + 1 ≤ sumZ g n
  | 0, h, _, _ => absurd h (Nat.not_lt_zero k)
  | n + 1, h, hl, hk => by
    have h2 := hl n (by omega)
    show sumZ f n + f n + 1 ≤ sumZ g n + g n
    by_cases e : k = n
    · subst e
      have h1 := sm_le (f := f) (g := g) (n := k) (fun c hc => hl c (by omega))
      omega
    · have h1 := sm_lt1 (n := n) (by omega) (fun c hc => hl c (by omega)) hk
      omega
/-- a node that was reached has room in each whole column -/
theorem NI_room {nc : Nat} {co kd pa lo0 hi0 : Nat → Int} {Φ : (Nat → Int) → Prop} {S : TS} (hP : colsOk nc kd pa lo0 hi0) (h : NI gd nc co kd lo0 hi0 Φ S) (hl : dcLn S < 0) {c : Nat} (hc : c < nc) (hk : 1 ≤ kd c) : tLo S c ≤ tHi S c ∧ tHi S c ≠ NONEz := by
  have hb := NI_bel h
  obtain ⟨⟨W, B, s, h1, h2, h3⟩, h4, h5, h6⟩ := h
  have hu := ((h5 c hc).2.1 (hP.2.2.2.2.1 c hc hk).1).1
  obtain ⟨v1, v2, v3⟩ := val_rng h1 h2 hl hc hu
  refine ⟨?_, hu⟩
  rcases (show tLo S c ≤ tHi S c ∨ tHi S c + 1 ≤ tLo S c by omega) with q | q
  · exact q
  · exfalso
    have : (tHi S c + 1) * tBel S ≤ tLo S c * tBel S := Int.mul_le_mul_of_nonneg_right q (by omega)
    rw [Int.add_mul] at this; omega
theorem wt_pos {nc : Nat} {co kd pa lo0 hi0 : Nat → Int} {Φ : (Nat → Int) → Prop} {S : TS} (hP : colsOk nc kd pa lo0 hi0) (h : NI gd nc co kd lo0 hi0 Φ S) (hl : dcLn S < 0) : ∀ c, c < nc → 1 ≤ wtC kd pa nc (tLo S) (tHi S) (tTi S) c := by
  intro c hc
  unfold wtC
  by_cases hk : 1 ≤ kd c
  · rw [if_pos hk]
    have := (NI_room hP h hl hc hk).1
    have hf := fg_or kd pa nc (tTi S) c
    exact Nat.mul_pos (by omega) (by omega)
  · rw [if_neg hk]; exact Nat.le_refl _
/-- a partner that is held stands at its least value -/
theorem held_val {nc : Nat} {co kd lo0 hi0 : Nat → Int} {Φ : (Nat → Int) → Prop} {S : TS} (h : NI gd nc co kd lo0 hi0 Φ S) (hl : dcLn S < 0) {p : Nat} (hp : p < nc) (ht : tTi S (1 + p) = 2) (hz : tLo S p = 0) : nthP (tLo S) (tCe S) (tBel S) (tFar S) p := by
  obtain ⟨⟨W, B, s, h1, h2, h3⟩, h4, h5, h6⟩ := h
  have hn := h1.2.2.1
  rcases h1.2.2.2.2.2.2.2.1 with hf | ⟨f, f1, f2, f3⟩
  · have d1 := (desc_lines h1 hl (i := 1 + p) (by omega) (by omega)).2 ht
    have s1 := cmpZ_spec (side_near (ce := tCe S) (far := tFar S) (i := 1 + p) (by unfold backZ; rw [if_pos (by omega)]))
    refine ⟨?_, Or.inl (by omega)⟩
    show tLo S p * tBel S + tCe S ((1 + p) * 6 + 5) = 0
    rw [hz]; omega
  · have r1 := (ray_lines h1 hl f2 (i := 1 + p) (by omega) (by omega)).2.2 ht
    refine ⟨?_, Or.inr (by rw [f2, Int.toNat_natCast]; exact r1.1)⟩
    show tLo S p * tBel S + tCe S ((1 + p) * 6 + 5) = 0
    rw [hz, r1.2]; omega
/-- what the halves weigh -/
theorem wt_halves {nc : Nat} {co kd pa lo0 hi0 : Nat → Int} {Φ : (Nat → Int) → Prop} {S : TS} (hP : colsOk nc kd pa lo0 hi0) (h : NI gd nc co kd lo0 hi0 Φ S) (hl : dcLn S < 0) {c : Nat} (hs : spZ kd pa nc S = (c : Int)) :
    wtS kd pa nc (raiseT c (flZ S c + 1) S) + 1 ≤ wtS kd pa nc S ∧
    ((holdsP kd pa nc c → tLo S (pa c).toNat ≤ 0) → wtS kd pa nc (nwT kd pa nc c false S) + 1 ≤ wtS kd pa nc S ∧ wtS kd pa nc (nwT kd pa nc c false S) + wtS kd pa nc (raiseT c (flZ S c + 1) S) ≤ wtS kd pa nc S ∧ dmS kd pa nc (nwT kd pa nc c false S) + 1 ≤ dmS kd pa nc S) ∧
    (flZ S c + 1 ≤ tHi S c → dmS kd pa nc (raiseT c (flZ S c + 1) S) + 1 ≤ dmS kd pa nc S) := by
  have hN := h
  obtain ⟨w1, w2, w3, w4, w5, w6, w7, w8, w9, w10, w11⟩ := split_w hP h hl hs
  have hpos := wt_pos hP h hl
  obtain ⟨⟨W, B, s, h1, h2, h3⟩, h4, h5, h6⟩ := h
  obtain ⟨r, hr⟩ : ∃ r, r = prN (fun j => if j = c then 1 else wtC kd pa nc (tLo S) (tHi S) (tTi S) j) nc := ⟨_, rfl⟩
  have hr1 : 1 ≤ r := by
    rw [hr]
    refine pr_pos (fun j hj => ?_)
    by_cases e : j = c
    · rw [if_pos e]; exact Nat.le_refl _
    · rw [if_neg e]; exact hpos j hj
  obtain ⟨fg, hfg⟩ : ∃ fg, fg = fgN kd pa nc (tTi S) c := ⟨_, rfl⟩
  have hfg1 := fg_or kd pa nc (tTi S) c
  rw [← hfg] at hfg1
  obtain ⟨x, hx⟩ : ∃ x : Nat, (x : Int) = flZ S c - tLo S c + 1 := ⟨(flZ S c - tLo S c + 1).toNat, by omega⟩
  obtain ⟨z, hz⟩ : ∃ z : Nat, (z : Int) = tHi S c - flZ S c := ⟨(tHi S c - flZ S c).toNat, by omega⟩
  have hwS : wtS kd pa nc S = (x + z) * fg * r := by
    show prN (wtC kd pa nc (tLo S) (tHi S) (tTi S)) nc = _
    rw [pr_split w1, ← hr]
    congr 1
    unfold wtC
    rw [if_pos w2, ← hfg]
    congr 1
    omega
  have hwU : wtS kd pa nc (raiseT c (flZ S c + 1) S) = z * fg * r := by
    show prN (wtC kd pa nc (va_up (tLo S) c (flZ S c + 1)) (tHi S) (tTi S)) nc = _
    rw [pr_split w1]
    congr 1
    · unfold wtC
      rw [if_pos w2, up_same, ← hfg]
      congr 1
      omega
    · rw [hr]
      refine pr_cong (fun j hj => ?_)
      by_cases e : j = c
      · rw [if_pos e, if_pos e]
      · rw [if_neg e, if_neg e]; unfold wtC; rw [up_ne e]
  -- what the split tells of the flag
  have hsw : kd c = 2 → z ≤ 1 ∧ x = 1 := by
    intro hk
    obtain ⟨e1, e2⟩ := w10 hk
    have e3 := hP.2.2.2.2.2 c w1 hk
    have e4 := (h5 c w1).2.1 (by unfold NONEz; omega)
    omega
  have hzk : kd c ≠ 2 → 1 ≤ z := fun hk => by have := w11 hk; omega
  have hz0 : z = 0 → holdsP kd pa nc c ∧ (tTi S (1 + (pa c).toNat) = 2 → ¬ tLo S (pa c).toNat ≤ 0) := by
    intro hz1
    obtain ⟨-, hcase⟩ := split_is hs
    have hb := NI_bel hN
    have v2 := (val_rng h1 h2 hl w1 w3).2.1
    rcases hcase with q | q
    · have h9 : flZ S c + 1 ≤ tHi S c := fl_lt hb v2 q.2
      omega
    · refine ⟨⟨q.1, q.2.1⟩, fun ht hle => q.2.2.2 ?_⟩
      have hpn : (pa c).toNat < nc := by have := q.2.1; omega
      have := (h6 (pa c).toNat hpn ht).1
      exact held_val hN hl hpn ht (by omega)
  have hfg2 : fg = 2 → kd c = 2 := by
    intro q
    rw [hfg] at q
    unfold fgN at q
    split at q
    · rename_i w; exact w.1
    · omega
  have m1 : (x + z) * fg * r = x * fg * r + z * fg * r := by rw [Nat.add_mul, Nat.add_mul]
  have hxp : 1 ≤ x := by omega
  have mx : 1 ≤ x * fg * r := Nat.mul_pos (Nat.mul_pos hxp (by omega)) hr1
  refine ⟨by rw [hwS, hwU, m1]; omega, fun hok => ?_, fun hup => ?_⟩
  · obtain ⟨n1, n2, n3, n4⟩ := NI_low hP hN hl hs hok
    obtain ⟨fg', hfg'⟩ : ∃ fg', fg' = fgN kd pa nc (tTi (nwT kd pa nc c false S)) c := ⟨_, rfl⟩
    have hti : ∀ i, tTi S i = 2 → tTi (nwT kd pa nc c false S) i = 2 := by
      intro i hi
      by_cases hh : holdsP kd pa nc c
      · rw [(n3 hh).2]
        by_cases e : i = 1 + (pa c).toNat
        · rw [e, up_same]
        · rw [up_ne e]; exact hi
      · rw [(n4 hh).2]; exact hi
    have hfle : ∀ j, fgN kd pa nc (tTi (nwT kd pa nc c false S)) j ≤ fgN kd pa nc (tTi S) j := fun j => fg_le hti j
    have hlo : ∀ j, tLo S j ≤ tLo (nwT kd pa nc c false S) j := by
      intro j
      by_cases hh : holdsP kd pa nc c
      · rw [(n3 hh).1]
        by_cases e : j = (pa c).toNat
        · rw [e, up_same]; exact hok hh
        · rw [up_ne e]; exact Int.le_refl _
      · rw [(n4 hh).1]; exact Int.le_refl _
    have hloc : tLo (nwT kd pa nc c false S) c = tLo S c := by
      by_cases hh : holdsP kd pa nc c
      · rw [(n3 hh).1, up_ne (by have := (hP.2.2.2.2.2 c w1 hh.1).2.2; have := hh.2; omega)]
      · rw [(n4 hh).1]
    have hfh : holdsP kd pa nc c → fg' = 1 := by
      intro hh
      rw [hfg']
      unfold fgN
      rw [if_neg]
      rintro ⟨-, -, q⟩
      exact q (by rw [(n3 hh).2, up_same])
    have hfn : ¬ holdsP kd pa nc c → fg = 1 ∧ fg' = 1 := by
      intro hh
      constructor
      · rw [hfg]; unfold fgN; rw [if_neg (fun q => hh ⟨q.1, q.2.1⟩)]
      · rw [hfg']; unfold fgN; rw [if_neg (fun q => hh ⟨q.1, q.2.1⟩)]
    have hfg1' : fg' = 1 := by
      by_cases hh : holdsP kd pa nc c
      · exact hfh hh
      · exact (hfn hh).2
    have hwL : wtS kd pa nc (nwT kd pa nc c false S) ≤ x * fg' * r := by
      show prN (wtC kd pa nc (tLo (nwT kd pa nc c false S)) (tHi (nwT kd pa nc c false S)) (tTi (nwT kd pa nc c false S))) nc ≤ _
      rw [pr_split w1]
      refine Nat.mul_le_mul ?_ ?_
      · unfold wtC
        rw [if_pos w2, n2, up_same, hloc, ← hfg']
        refine Nat.mul_le_mul ?_ (Nat.le_refl _)
        omega
      · rw [hr]
        refine pr_le (fun j hj => ?_)
        by_cases e : j = c
        · rw [if_pos e, if_pos e]; exact Nat.le_refl _
        · rw [if_neg e, if_neg e]
          unfold wtC
          by_cases hk : 1 ≤ kd j
          · rw [if_pos hk, if_pos hk, n2, up_ne e]
            refine Nat.mul_le_mul ?_ (hfle j)
            have := hlo j
            omega
          · rw [if_neg hk, if_neg hk]; exact Nat.le_refl _
    rw [hfg1', Nat.mul_one] at hwL
    -- the flag falls, or there is room above
    have hkey : 1 ≤ z ∨ fg = 2 := by
      rcases (show 1 ≤ z ∨ z = 0 by omega) with q | q
      · exact Or.inl q
      · obtain ⟨a1, a2⟩ := hz0 q
        right
        rw [hfg]
        unfold fgN
        rw [if_pos ⟨a1.1, a1.2, fun w => a2 w (hok a1)⟩]
    have hxf : x * r ≤ x * fg * r := by
      rw [Nat.mul_assoc]
      refine Nat.mul_le_mul (Nat.le_refl x) ?_
      rcases hfg1 with e | e <;> rw [e] <;> omega
    refine ⟨?_, ?_, ?_⟩
    · rw [hwS, m1]
      rcases hkey with q | q
      · have : 1 ≤ z * fg * r := Nat.mul_pos (Nat.mul_pos q (by omega)) hr1
        omega
      · have hx2 : x * fg * r = x * r + x * r := by rw [q, Nat.mul_two, Nat.add_mul]
        have : 1 ≤ x * r := Nat.mul_pos hxp hr1
        omega
    · rw [hwS, hwU, m1]; omega
    · refine sm_lt1 (k := c) w1 (fun j hj => ?_) ?_
      · unfold dmC
        by_cases hk : 1 ≤ kd j
        · rw [if_pos hk, if_pos hk, n2]
          have h7 := hlo j
          have h8 := hfle j
          by_cases e : j = c
          · subst e; rw [up_same]; omega
          · rw [up_ne e]; omega
        · rw [if_neg hk, if_neg hk]; exact Int.le_refl _
      · unfold dmC
        rw [if_pos w2, if_pos w2, n2, up_same, hloc, ← hfg', ← hfg, hfg1']
        rcases hkey with q | q
        · omega
        · rw [q]; omega
  · refine sm_lt1 (k := c) w1 (fun j hj => ?_) ?_
    · show dmC kd pa nc (va_up (tLo S) c (flZ S c + 1)) (tHi S) (tTi S) j ≤ dmC kd pa nc (tLo S) (tHi S) (tTi S) j
      unfold dmC
      by_cases hk : 1 ≤ kd j
      · rw [if_pos hk, if_pos hk]
        by_cases e : j = c
        · subst e; rw [up_same]; omega
        · rw [up_ne e]; exact Int.le_refl _
      · rw [if_neg hk, if_neg hk]; exact Int.le_refl _
    · show dmC kd pa nc (va_up (tLo S) c (flZ S c + 1)) (tHi S) (tTi S) c + 1 ≤ dmC kd pa nc (tLo S) (tHi S) (tTi S) c
      unfold dmC
      rw [if_pos w2, if_pos w2, up_same]
      omega
theorem wt_root {nc : Nat} {kd pa lo0 hi0 lo hi ti : Nat → Int} (hP : colsOk nc kd pa lo0 hi0) (hlo : ∀ c, c < nc → lo c = lo0 c) (hhi : ∀ c, c < nc → hi c = hi0 c) : prN (wtC kd pa nc lo hi ti) nc ≤ 100000 ∧ sumZ (dmC kd pa nc lo hi ti) nc ≤ 45 := by
  obtain ⟨p1, p2, p3, p4, p5, p6⟩ := hP
  have hf := fun c => fg_or kd pa nc ti c
  constructor
  · refine Nat.le_trans (pr_bound (K := 10) (fun c hc => ?_)) (Nat.le_trans (Nat.pow_le_pow_right (by decide) p1) (by decide))
    unfold wtC
    by_cases hk : 1 ≤ kd c
    · rw [if_pos hk, hlo c hc, hhi c hc]
      by_cases hk2 : kd c = 2
      · obtain ⟨e1, e2, e3⟩ := p6 c hc hk2
        rw [e1, e2]
        rcases hf c with e | e <;> rw [e] <;> decide
      · have e : fgN kd pa nc ti c = 1 := by unfold fgN; rw [if_neg (fun q => hk2 q.1)]
        have := (p5 c hc hk).2
        rw [e]; omega
    · rw [if_neg hk]; decide
  · have h1 : sumZ (dmC kd pa nc lo hi ti) nc ≤ sumZ (fun _ => 9) nc := by
      refine sm_le (fun c hc => ?_)
      unfold dmC
      by_cases hk : 1 ≤ kd c
      · rw [if_pos hk, hlo c hc, hhi c hc]
        by_cases hk2 : kd c = 2
        · obtain ⟨e1, e2, e3⟩ := p6 c hc hk2
          rw [e1, e2]
          rcases hf c with e | e <;> rw [e] <;> decide
        · have e : fgN kd pa nc ti c = 1 := by unfold fgN; rw [if_neg (fun q => hk2 q.1)]
          have := (p5 c hc hk).2
          rw [e]; omega
      · rw [if_neg hk]; decide
    have h2 : ∀ n, sumZ (fun _ => (9 : Int)) n = 9 * (n : Int) := by
      intro n
      induction n with
      | zero => rfl
      | succ n ih => show sumZ (fun _ => (9 : Int)) n + 9 = _; rw [ih]; omega
    rw [h2] at h1
    omega
