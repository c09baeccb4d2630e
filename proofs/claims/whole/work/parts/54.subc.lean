-- ===== the corners of what is laid reach below every plan =====
def ptV (q : Nat → Int) (u : Int) : Nat → Int := fun x => if x = 0 then u else q (x - 1)
theorem pt_0 (q : Nat → Int) (u : Int) : ptV q u 0 = u := by unfold ptV; rw [if_pos rfl]
theorem pt_c (q : Nat → Int) (u : Int) (c : Nat) : ptV q u (1 + c) = q c := by unfold ptV; rw [if_neg (by omega), show 1 + c - 1 = c by omega]
def gO (nc : Nat) (fx : Nat → Bool) (fv co : Nat → Int) (i : Nat) : Int := if i = 0 then sumZ (fun c => if fx c = true then co c * fv c else 0) nc else if fx (i - 1) = true then fv (i - 1) else 0
def oV (fx : Nat → Bool) (fr : Nat → Nat) (co : Nat → Int) (i : Nat) : Nat → Int := fun x => if i = 0 then (if x = 0 then 0 else co (fr (x - 1))) else if fx (i - 1) = true then 0 else unV (1 + cntZ (unf fx) (i - 1)) x
theorem o_0 {n : Nat} (fx : Nat → Bool) (fr : Nat → Nat) (co z : Nat → Int) : dotZ (n + 1) (oV fx fr co 0) z = sumZ (fun j => co (fr j) * z (1 + j)) n := by
  unfold dotZ
  rw [sm_shift]
  have e0 : oV fx fr co 0 0 * z 0 = 0 := by unfold oV; rw [if_pos rfl, if_pos rfl]; simp
  rw [e0, Int.zero_add]
  refine sm_cong (fun j _ => ?_)
  unfold oV; rw [if_pos rfl, if_neg (by omega), show 1 + j - 1 = j by omega]
theorem o_fx {n : Nat} {fx : Nat → Bool} {fr : Nat → Nat} {co : Nat → Int} {c : Nat} (h : fx c = true) (z : Nat → Int) : dotZ (n + 1) (oV fx fr co (1 + c)) z = 0 := by
  refine sm_z (fun x _ => ?_)
  unfold oV; rw [if_neg (by omega), show 1 + c - 1 = c by omega, if_pos h]; simp
theorem o_un {n : Nat} {fx : Nat → Bool} {fr : Nat → Nat} {co : Nat → Int} {c : Nat} (h : fx c = false) (hn : cntZ (unf fx) c < n) (z : Nat → Int) : dotZ (n + 1) (oV fx fr co (1 + c)) z = z (1 + cntZ (unf fx) c) := by
  have e : ∀ x, oV fx fr co (1 + c) x = unV (1 + cntZ (unf fx) c) x := fun x => by unfold oV; rw [if_neg (by omega), show 1 + c - 1 = c by omega, if_neg (by rw [h]; decide)]
  unfold dotZ
  rw [sm_one (k := 1 + cntZ (unf fx) c) (by omega) (fun j _ hj => by rw [e, un_ne hj]; simp), e, un_eq]; omega
theorem dot_cost {nc : Nat} (hnc : nc ≤ 5) (co y : Nat → Int) : dotZ 6 (costV nc co) y = sumZ (fun c => co c * y (1 + c)) nc := by
  unfold dotZ
  rw [sm_shift, sm_ext (a := nc) hnc (fun j h1 h2 => by unfold costV; rw [if_neg (by omega)]; simp)]
  have e0 : costV nc co 0 * y 0 = 0 := by unfold costV; rw [if_neg (by omega)]; simp
  rw [e0, Int.zero_add]
  refine sm_cong (fun c hc => ?_)
  unfold costV; rw [if_pos (by omega), show 1 + c - 1 = c by omega]
/-- what is sought, told over the free columns -/
theorem obj_fu {nc n : Nat} (hnc : nc ≤ 5) {fx : Nat → Bool} {fr : Nat → Nat} {fv co : Nat → Int} (hfr : frI nc n fx fr) : ∃ G : Nat → Int, ∀ z y, isFu nc n fx fr fv z y → ∀ i, i < nc + 1 → dotZ 6 (objV nc co i) y = dotZ (n + 1) (oV fx fr co i) z + G i * y 0 := by
  refine ⟨gO nc fx fv co, fun z y h i hi => ?_⟩
  rcases (show i = 0 ∨ ∃ c, i = 1 + c by rcases i with _ | i; exact Or.inl rfl; exact Or.inr ⟨i, by omega⟩) with e | ⟨c, e⟩
  · subst e
    have e1 : objV nc co 0 = costV nc co := by unfold objV; rw [if_pos rfl]
    have e2 : gO nc fx fv co 0 = sumZ (fun c => if fx c = true then co c * fv c else 0) nc := by unfold gO; rw [if_pos rfl]
    rw [e1, dot_cost hnc, o_0, fr_split hfr, e2, Int.add_comm]
    congr 1
    · exact sm_cong (fun j hj => by rw [h.2.2 j hj])
    · rw [← sm_mulr]
      refine sm_cong (fun c hc => ?_)
      by_cases e : fx c = true
      · rw [if_pos e, if_pos e, h.2.1 c hc e]; grind
      · rw [if_neg e, if_neg e]; simp
  · subst e
    have e1 : objV nc co (1 + c) = unV (1 + c) := by unfold objV; rw [if_neg (by omega)]
    have e2 : gO nc fx fv co (1 + c) = if fx c = true then fv c else 0 := by unfold gO; rw [if_neg (by omega), show 1 + c - 1 = c by omega]
    rw [e1, dot_un (by omega), e2]
    rcases hf : fx c with _ | _
    · obtain ⟨i1, i2⟩ := fr_ix hfr (show c < nc by omega) hf
      rw [o_un hf i1, if_neg (by decide), ← h.2.2 _ i1, i2]; simp
    · rw [o_fx hf, if_pos rfl, h.2.1 c (by omega) hf]; omega
theorem sub_corner {nc nr n K : Nat} (hnc : nc ≤ 5) {fx : Nat → Bool} {fr : Nat → Nat} {fv lo hi rk num sa cs cn ck co : Nat → Int} {wh : Nat → Prop} (hfr : frI nc n fx fr) (hc : cdI nc nr n K fx fr fv lo hi rk num sa wh cs cn ck) (hs : smallC n K cs cn)
    (hnr : ∀ w : Nat → Int, w 0 = 0 → plP n K (cdV n cs cn) ck w → ¬ sumZ (fun j => co (fr j) * w (1 + j)) n < 0) {y : Nat → Int} (hy : subP nc nr fx fv lo hi rk num sa wh y) :
    ∃ ch q u, chV n K ch ∧ crnO n cs cn ch = some (q, u) ∧ 0 < u ∧ plP n K (cdV n cs cn) ck (ptV q u) ∧ ∀ y', isFu nc n fx fr fv (ptV q u) y' → leqP nc co y' y := by
  have hfu : isFu nc n fx fr fv (ptV (fun j => y (1 + fr j)) (y 0)) y := by
    exact ⟨by rw [pt_0], hy.2.1, fun j hj => by rw [pt_c]⟩
  obtain ⟨z, hz⟩ : ∃ z, z = (ptV (fun j => y (1 + fr j)) (y 0)) := ⟨_, rfl⟩
  rw [← hz] at hfu
  have hz0 : 0 < z 0 := by rw [← hfu.1]; exact hy.1
  have hpl : plP n K (cdV n cs cn) ck z := (sub_iff hfr hc hfu hy.1).mpr hy
  obtain ⟨sel, z', r1, r2, r3, r4, r5, r6⟩ := vertex (N := nc + 1) (A := cdV n cs cn) (O := oV fx fr co) (ck := ck) (K := K) (n := n)
    (fun w hw ho x hx => by
      rcases (show x = 0 ∨ ∃ j, x = 1 + j by rcases x with _ | x; exact Or.inl rfl; exact Or.inr ⟨x, by omega⟩) with e | ⟨j, e⟩
      · rw [e]; exact hw
      · subst e
        obtain ⟨f1, f2, f3⟩ := fr_at hfr (show j < n by omega)
        have := ho (1 + fr j) (by omega)
        rw [o_un f2 (by omega), f3] at this
        exact this)
    (fun w hw hpw hlex => by
      have hwn : ∀ j, j < n → 0 ≤ w (1 + j) := by
        intro j hj
        obtain ⟨k, k1, k2⟩ := (hc.2.2 j hj).1
        have := hpw k k1
        rw [bnd_dot k2 hj, k2.1, hw] at this
        unfold okD at this; omega
      obtain ⟨i, i1, i2, i3⟩ := hlex
      have i2' : 0 < -dotZ (n + 1) (oV fx fr co i) w := i2
      rcases (show i = 0 ∨ ∃ c, i = 1 + c by rcases i with _ | i; exact Or.inl rfl; exact Or.inr ⟨i, by omega⟩) with e | ⟨c, e⟩
      · subst e
        rw [o_0] at i2'
        exact hnr w hw hpw (by omega)
      · subst e
        rcases hf : fx c with _ | _
        · obtain ⟨j1, j2⟩ := fr_ix hfr (show c < nc by omega) hf
          rw [o_un hf j1] at i2'
          have := hwn _ j1
          omega
        · rw [o_fx hf] at i2'; omega)
    n (vt_0 n K (cdV n cs cn)) hz0 hpl (fun k _ h => by cases h)
  obtain ⟨q, u, q1, q2, q3⟩ := crn_hits hs r1 r2 r5
  have hp0 : ptV q u 0 = u := by unfold ptV; rw [if_pos rfl]
  have hpj : ∀ j, ptV q u (1 + j) = q j := fun j => by unfold ptV; rw [if_neg (by omega), show 1 + j - 1 = j by omega]
  -- the point found stands to the corner as u to what is below it
  have hprop : ∀ f : Nat → Int, dotZ (n + 1) f (ptV q u) * z' 0 = dotZ (n + 1) f z' * u := by
    intro f
    unfold dotZ
    rw [← sm_mulr, ← sm_mulr]
    refine sm_cong (fun x hx => ?_)
    rcases (show x = 0 ∨ ∃ j, x = 1 + j by rcases x with _ | x; exact Or.inl rfl; exact Or.inr ⟨x, by omega⟩) with e | ⟨j, e⟩
    · subst e; rw [hp0]; grind
    · subst e
      have := q3 j (by omega)
      rw [hpj]; grind
  refine ⟨nthS sel K, q, u, (nth_ok r1).1, q1, q2, fun k hk => ?_, fun y' hy' => ?_⟩
  · have h1 := r4 k hk
    have h2 := hprop (cdV n cs cn k)
    unfold okD at h1 ⊢
    rcases h1 with h1 | ⟨h1, h1'⟩ | ⟨h1, h1'⟩
    · rw [h1, Int.zero_mul] at h2
      rcases Int.mul_eq_zero.mp h2 with w | w
      · exact Or.inl w
      · omega
    · refine Or.inr (Or.inl ⟨?_, h1'⟩)
      have h3 : dotZ (n + 1) (cdV n cs cn k) (ptV q u) * z' 0 < 0 * z' 0 := by
        rw [h2, Int.zero_mul]
        have := Int.mul_lt_mul_of_pos_right h1 q2
        omega
      exact (lt_of_mul r3).mp h3
    · refine Or.inr (Or.inr ⟨?_, h1'⟩)
      have h3 : 0 * z' 0 < dotZ (n + 1) (cdV n cs cn k) (ptV q u) * z' 0 := by
        rw [h2, Int.zero_mul]
        exact Int.mul_pos h1 q2
      exact (lt_of_mul r3).mp h3
  · obtain ⟨G, hG⟩ := obj_fu hnc (fv := fv) (co := co) hfr
    have g1 := hG z y hfu
    have g2 := hG (ptV q u) y' hy'
    have ey : y' 0 = u := by rw [hy'.1, hp0]
    have ez : y 0 = z 0 := hfu.1
    refine lexN_div r3 (fun i hi => ?_) (lexN_mul (a := u) (Int.le_of_lt q2) r6)
    have h4 := hprop (oV fx fr co i)
    rw [g1 i hi, g2 i hi, ey, ez]
    grind
theorem lexN_0 {f : Nat → Int} {n : Nat} (h : lexN f (n + 1)) : 0 ≤ f 0 := by
  rcases h with h | ⟨i, h1, h2, h3⟩
  · rw [h 0 (by omega)]; exact Int.le_refl _
  · rcases (show i = 0 ∨ 0 < i by omega) with e | e
    · rw [e] at h2; omega
    · rw [h3 0 e]; exact Int.le_refl _
-- ===== ways that go on without end =====
def rkW (rk : Nat → Int) (nr : Nat) : Nat → Int := fun r => if r = nr then 2 else rk r
def nuW (nr : Nat) : Nat → Int := fun r => if r = nr then 1 else 0
def saW (sa : Nat → Int) (nr : Nat) : Nat → Int := fun q => if nr * 5 ≤ q then 1 else sa q
abbrev whW (wh : Nat → Prop) (nr : Nat) : Nat → Prop := fun r => r = nr ∨ wh r
/-- which columns a way may use: free, and with no greatest value -/
def wayX (fx : Nat → Bool) (hi : Nat → Int) : Nat → Bool := fun c => fx c || decide (hi c ≠ NONEz)
abbrev wayP (nc nr : Nat) (fx : Nat → Bool) (hi rk sa : Nat → Int) (wh : Nat → Prop) (d : Nat → Int) : Prop := subP nc (nr + 1) (wayX fx hi) (fun _ => 0) (fun _ => 0) (fun _ => NONEz) (rkW rk nr) (nuW nr) (saW sa nr) (whW wh nr) d
theorem way_rows {nc nr : Nat} (hnc : nc ≤ 5) {fx : Nat → Bool} {hi rk sa : Nat → Int} {wh : Nat → Prop} (d : Nat → Int) : wayP nc nr fx hi rk sa wh d ↔ (0 < d 0 ∧ (∀ c, c < nc → wayX fx hi c = true → d (1 + c) = 0) ∧ (∀ c, c < nc → 0 ≤ d (1 + c)) ∧ (∀ r, r < nr → wh r → keptP (rk r) (sumZ (fun c => sa (r * 5 + c) * d (1 + c)) nc) 0) ∧ sumZ (fun c => d (1 + c)) nc = d 0) := by
  have hrow : ∀ r, r < nr → sumZ (fun c => saW sa nr (r * 5 + c) * d (1 + c)) nc = sumZ (fun c => sa (r * 5 + c) * d (1 + c)) nc := by
    intro r hr
    refine sm_cong (fun c hc => ?_)
    unfold saW; rw [if_neg (by omega)]
  have hlast : sumZ (fun c => saW sa nr (nr * 5 + c) * d (1 + c)) nc = sumZ (fun c => d (1 + c)) nc := by
    refine sm_cong (fun c hc => ?_)
    unfold saW; rw [if_pos (by omega)]; omega
  constructor
  · rintro ⟨h0, h1, h2, h3⟩
    refine ⟨h0, fun c hc hx => by have := h1 c hc hx; rw [this]; simp, fun c hc => ?_, fun r hr hw => ?_, ?_⟩
    · rcases hx : wayX fx hi c with _ | _
      · have := (h2 c hc hx).1; simpa using this
      · have := h1 c hc hx; rw [this]; simp
    · have := h3 r (by omega) (Or.inr hw)
      rw [hrow r hr] at this
      have e1 : rkW rk nr r = rk r := by unfold rkW; rw [if_neg (by omega)]
      have e2 : nuW nr r = 0 := by unfold nuW; rw [if_neg (by omega)]
      rw [e1, e2, Int.zero_mul] at this
      exact this
    · have := h3 nr (by omega) (Or.inl rfl)
      rw [hlast] at this
      have e1 : rkW rk nr nr = 2 := by unfold rkW; rw [if_pos rfl]
      have e2 : nuW nr nr = 1 := by unfold nuW; rw [if_pos rfl]
      rw [e1, e2] at this
      unfold keptP at this; omega
  · rintro ⟨h0, h1, h2, h3, h4⟩
    refine ⟨h0, fun c hc hx => by rw [h1 c hc hx]; simp, fun c hc hx => ⟨by rw [Int.zero_mul]; exact h2 c hc, fun q => absurd rfl q⟩, fun r hr hw => ?_⟩
    rcases (show r = nr ∨ r < nr by omega) with e | e
    · subst e
      rw [hlast]
      have e1 : rkW rk r r = 2 := by unfold rkW; rw [if_pos rfl]
      have e2 : nuW r r = 1 := by unfold nuW; rw [if_pos rfl]
      rw [e1, e2, h4]
      left; omega
    · rw [hrow r e]
      have e1 : rkW rk nr r = rk r := by unfold rkW; rw [if_neg (by omega)]
      have e2 : nuW nr r = 0 := by unfold nuW; rw [if_neg (by omega)]
      rw [e1, e2, Int.zero_mul]
      rcases hw with q | q
      · omega
      · exact h3 r e q
/-- a way found: its cost is below 0 -/
theorem way_found {nc nr n K n2 K2 : Nat} (hnc : nc ≤ 5) {fx : Nat → Bool} {fr fr2 : Nat → Nat} {fv lo hi rk num sa cs cn ck cs2 cn2 ck2 co : Nat → Int} {wh : Nat → Prop} (hfr : frI nc n fx fr) (hc : cdI nc nr n K fx fr fv lo hi rk num sa wh cs cn ck)
    (hfr2 : frI nc n2 (wayX fx hi) fr2) (hc2 : cdI nc (nr + 1) n2 K2 (wayX fx hi) fr2 (fun _ => 0) (fun _ => 0) (fun _ => NONEz) (rkW rk nr) (nuW nr) (saW sa nr) (whW wh nr) cs2 cn2 ck2) (hs2 : smallC n2 K2 cs2 cn2)
    {w : Nat → Int} (hw0 : w 0 = 0) (hw : plP n K (cdV n cs cn) ck w) (hneg : sumZ (fun j => co (fr j) * w (1 + j)) n < 0) :
    ∃ ch q u, chV n2 K2 ch ∧ crnO n2 cs2 cn2 ch = some (q, u) ∧ 0 < u ∧ plP n2 K2 (cdV n2 cs2 cn2) ck2 (ptV q u) ∧ sumZ (fun j => co (fr2 j) * q j) n2 < 0 := by
  have hwn : ∀ j, j < n → 0 ≤ w (1 + j) ∧ (hi (fr j) ≠ NONEz → w (1 + j) = 0) := by
    intro j hj
    obtain ⟨k, k1, k2⟩ := (hc.2.2 j hj).1
    have h1 := hw k k1
    rw [bnd_dot k2 hj, k2.1, hw0] at h1
    have h2 : 0 ≤ w (1 + j) := by unfold okD at h1; omega
    refine ⟨h2, fun hu => ?_⟩
    obtain ⟨k', k1', k2'⟩ := (hc.2.2 j hj).2 hu
    have h3 := hw k' k1'
    rw [bnd_dot k2' hj, k2'.1, hw0] at h3
    unfold okD at h3; omega
  -- the way over all columns
  obtain ⟨v, hv⟩ : ∃ v : Nat → Int, ∀ c, v c = if fx c = true then 0 else w (1 + cntZ (unf fx) c) := ⟨fun c => if fx c = true then 0 else w (1 + cntZ (unf fx) c), fun c => rfl⟩
  have hvj : ∀ j, j < n → v (fr j) = w (1 + j) := by
    intro j hj
    obtain ⟨f1, f2, f3⟩ := fr_at hfr hj
    rw [hv, if_neg (by rw [f2]; decide), f3]
  have hvn : ∀ c, c < nc → 0 ≤ v c := by
    intro c hc'
    rcases hf : fx c with _ | _
    · obtain ⟨i1, i2⟩ := fr_ix hfr hc' hf
      have := (hwn _ i1).1
      rw [← hvj _ i1, i2] at this; exact this
    · rw [hv, if_pos hf]; exact Int.le_refl _
  have hvx : ∀ c, c < nc → wayX fx hi c = true → v c = 0 := by
    intro c hc' hx
    rcases hf : fx c with _ | _
    · obtain ⟨i1, i2⟩ := fr_ix hfr hc' hf
      have hu : hi c ≠ NONEz := by simpa [wayX, hf] using hx
      have := (hwn _ i1).2 (by rw [i2]; exact hu)
      rw [← hvj _ i1, i2] at this; exact this
    · rw [hv, if_pos hf]
  have hsum : ∀ g : Nat → Int, sumZ (fun c => g c * v c) nc = sumZ (fun j => g (fr j) * w (1 + j)) n := by
    intro g
    rw [fr_split hfr, sm_z (f := fun c => if fx c = true then g c * v c else 0) (fun c _ => by
      by_cases e : fx c = true
      · rw [if_pos e, hv, if_pos e]; simp
      · rw [if_neg e]), Int.zero_add]
    exact sm_cong (fun j hj => by rw [hvj j hj])
  have hcost : sumZ (fun c => co c * v c) nc < 0 := by rw [hsum]; exact hneg
  have htot : 0 < sumZ v nc := by
    have h1 : 0 ≤ sumZ v nc := sm_pos hvn
    rcases (show sumZ v nc = 0 ∨ 0 < sumZ v nc by omega) with q | q
    · exfalso
      have hall : ∀ {m : Nat}, m ≤ nc → sumZ v m = 0 → ∀ c, c < m → v c = 0 := by
        intro m
        induction m with
        | zero => intro _ _ c hc'; omega
        | succ m ih =>
          intro hm hz c hc'
          have h2 : sumZ v m + v m = 0 := hz
          have h3 : 0 ≤ sumZ v m := sm_pos (fun j hj => hvn j (by omega))
          have h4 := hvn m (by omega)
          rcases (show c < m ∨ c = m by omega) with z | z
          · exact ih (by omega) (by omega) c z
          · rw [z]; omega
      have : sumZ (fun c => co c * v c) nc = 0 := sm_z (fun c hc' => by rw [hall (Nat.le_refl nc) q c hc']; simp)
      omega
    · exact q
  have hy : wayP nc nr fx hi rk sa wh (ptV v (sumZ v nc)) := by
    rw [way_rows hnc]
    have e1 : ∀ c, ptV v (sumZ v nc) (1 + c) = v c := fun c => pt_c _ _ c
    have e0 : ptV v (sumZ v nc) 0 = sumZ v nc := pt_0 _ _
    refine ⟨by rw [e0]; exact htot, fun c hc' hx => by rw [e1]; exact hvx c hc' hx, fun c hc' => by rw [e1]; exact hvn c hc', fun r hr hwr => ?_, ?_⟩
    · have e2 : sumZ (fun c => sa (r * 5 + c) * (ptV v (sumZ v nc)) (1 + c)) nc = sumZ (fun c => sa (r * 5 + c) * v c) nc := sm_cong (fun c _ => by rw [e1])
      rw [e2, hsum (fun c => sa (r * 5 + c))]
      obtain ⟨k, k1, k2⟩ := hc.2.1 r hr hwr
      have h5 := hw k k1
      rw [cd_dot, k2.1, hw0, Int.mul_zero, Int.sub_zero] at h5
      have e3 : sumZ (fun j => cs (k * 5 + j) * w (1 + j)) n = sumZ (fun j => sa (r * 5 + fr j) * w (1 + j)) n := sm_cong (fun j hj => by rw [k2.2.2 j hj])
      rw [e3] at h5
      exact h5
    · rw [e0]
      exact sm_cong (fun c _ => e1 c)
  obtain ⟨ch, q, u, c1, c2, c3, c4, c5⟩ := sub_corner (co := co) hnc hfr2 hc2 hs2 (fun d hd0 hd hlt => by
    have hdn : ∀ j, j < n2 → 0 ≤ d (1 + j) := by
      intro j hj
      obtain ⟨k, k1, k2⟩ := (hc2.2.2 j hj).1
      have := hd k k1
      rw [bnd_dot k2 hj, k2.1, hd0] at this
      unfold okD at this; omega
    obtain ⟨k, k1, k2⟩ := hc2.2.1 nr (by omega) (Or.inl rfl)
    have h5 := hd k k1
    rw [cd_dot, k2.1, hd0, Int.mul_zero, Int.sub_zero] at h5
    have e3 : sumZ (fun j => cs2 (k * 5 + j) * d (1 + j)) n2 = sumZ (fun j => d (1 + j)) n2 := sm_cong (fun j hj => by
      obtain ⟨f1, f2, f3⟩ := fr_at hfr2 hj
      rw [k2.2.2 j hj]
      unfold saW; rw [if_pos (by omega)]; omega)
    have e4 : rkW rk nr nr = 2 := by unfold rkW; rw [if_pos rfl]
    rw [e3, e4] at h5
    have h6 : sumZ (fun j => d (1 + j)) n2 = 0 := by unfold okD at h5; omega
    have hall : ∀ {m : Nat}, m ≤ n2 → sumZ (fun j => d (1 + j)) m = 0 → ∀ j, j < m → d (1 + j) = 0 := by
      intro m
      induction m with
      | zero => intro _ _ c hc'; omega
      | succ m ih =>
        intro hm hz c hc'
        have h2 : sumZ (fun j => d (1 + j)) m + d (1 + m) = 0 := hz
        have h3 : 0 ≤ sumZ (fun j => d (1 + j)) m := sm_pos (fun j hj => hdn j (by omega))
        have h4 := hdn m (by omega)
        rcases (show c < m ∨ c = m by omega) with z | z
        · exact ih (by omega) (by omega) c z
        · rw [z]; omega
    have : sumZ (fun j => co (fr2 j) * d (1 + j)) n2 = 0 := sm_z (fun j hj => by rw [hall (Nat.le_refl n2) h6 j hj]; simp)
    omega) hy
  refine ⟨ch, q, u, c1, c2, c3, c4, ?_⟩
  have hfuy : isFu nc n2 (wayX fx hi) fr2 (fun _ => 0) (ptV q u) (ptV (fun c => if wayX fx hi c = true then 0 else q (cntZ (unf (wayX fx hi)) c)) u) := by
    refine ⟨by rw [pt_0, pt_0], fun c hc' hx => ?_, fun j hj => ?_⟩
    · rw [pt_c, if_pos hx, Int.zero_mul]
    · obtain ⟨f1, f2, f3⟩ := fr_at hfr2 hj
      rw [pt_c, pt_c, if_neg (by rw [f2]; decide), f3]
  have hle := lexN_0 (c5 _ hfuy)
  have e1 : objV nc co 0 = costV nc co := by unfold objV; rw [if_pos rfl]
  rw [e1, dot_cost hnc, dot_cost hnc] at hle
  have a1 : sumZ (fun c => co c * (ptV v (sumZ v nc)) (1 + c)) nc = sumZ (fun c => co c * v c) nc := sm_cong (fun c _ => by rw [pt_c])
  have a2 : sumZ (fun c => co c * (ptV (fun c => if wayX fx hi c = true then 0 else q (cntZ (unf (wayX fx hi)) c)) u) (1 + c)) nc = sumZ (fun j => co (fr2 j) * q j) n2 := by
    rw [fr_split hfr2, sm_z (f := fun c => if wayX fx hi c = true then co c * (ptV (fun c => if wayX fx hi c = true then 0 else q (cntZ (unf (wayX fx hi)) c)) u) (1 + c) else 0) (fun c _ => by
      by_cases e : wayX fx hi c = true
      · rw [if_pos e, pt_c, if_pos e]; simp
      · rw [if_neg e]), Int.zero_add]
    refine sm_cong (fun j hj => ?_)
    rw [hfuy.2.2 j hj, pt_c]
  rw [a1, a2] at hle
  rw [pt_0, pt_0] at hle
  rcases (show sumZ (fun j => co (fr2 j) * q j) n2 < 0 ∨ 0 ≤ sumZ (fun j => co (fr2 j) * q j) n2 by omega) with z | z
  · exact z
  · exfalso
    have h7 := Int.mul_nonneg z (Int.le_of_lt htot)
    have h8 := Int.mul_lt_mul_of_pos_right hcost c3
    rw [Int.zero_mul] at h8
    omega
