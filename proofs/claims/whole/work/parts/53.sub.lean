-- ===== columns fixed, columns free =====
abbrev unf (fx : Nat → Bool) : Nat → Bool := fun c => !fx c
def frI (nc n : Nat) (fx : Nat → Bool) (fr : Nat → Nat) : Prop := n = cntZ (unf fx) nc ∧ ∀ c, c < nc → fx c = false → fr (cntZ (unf fx) c) = c
theorem cnt_mono (f : Nat → Bool) : ∀ {a b : Nat}, a ≤ b → cntZ f a ≤ cntZ f b
  | a, 0, h => by rw [show a = 0 by omega]; exact Nat.le_refl _
  | a, b + 1, h => by
    rcases (show a = b + 1 ∨ a ≤ b by omega) with e | e
    · rw [e]; exact Nat.le_refl _
    · have := cnt_mono f e
      show cntZ f a ≤ cntZ f b + (if f b then 1 else 0)
      omega
theorem cnt_lt {f : Nat → Bool} {c n : Nat} (hf : f c = true) (hc : c < n) : cntZ f c < cntZ f n := by
  have h1 := cnt_mono f (show c + 1 ≤ n by omega)
  have h2 : cntZ f (c + 1) = cntZ f c + 1 := by show cntZ f c + (if f c then 1 else 0) = _; rw [hf]; rfl
  omega
theorem cnt_onto {f : Nat → Bool} : ∀ {n j : Nat}, j < cntZ f n → ∃ c, c < n ∧ f c = true ∧ cntZ f c = j
  | 0, j, h => absurd h (Nat.not_lt_zero j)
  | n + 1, j, h => by
    have h1 : j < cntZ f n + (if f n then 1 else 0) := h
    rcases (show j < cntZ f n ∨ cntZ f n ≤ j by omega) with q | q
    · obtain ⟨c, c1, c2, c3⟩ := cnt_onto q
      exact ⟨c, by omega, c2, c3⟩
    · rcases hf : f n with _ | _
      · rw [hf] at h1; simp at h1; omega
      · rw [hf] at h1; simp at h1
        exact ⟨n, by omega, hf, by omega⟩
theorem fr_at {nc n : Nat} {fx : Nat → Bool} {fr : Nat → Nat} (h : frI nc n fx fr) {j : Nat} (hj : j < n) : fr j < nc ∧ fx (fr j) = false ∧ cntZ (unf fx) (fr j) = j := by
  obtain ⟨c, c1, c2, c3⟩ := cnt_onto (f := unf fx) (n := nc) (j := j) (by rw [← h.1]; exact hj)
  have c4 : fx c = false := by simpa [unf] using c2
  have := h.2 c c1 c4
  rw [c3] at this
  rw [this]; exact ⟨c1, c4, c3⟩
theorem fr_ix {nc n : Nat} {fx : Nat → Bool} {fr : Nat → Nat} (h : frI nc n fx fr) {c : Nat} (hc : c < nc) (hf : fx c = false) : cntZ (unf fx) c < n ∧ fr (cntZ (unf fx) c) = c := by
  refine ⟨?_, h.2 c hc hf⟩
  rw [h.1]
  exact cnt_lt (by simp [unf, hf]) hc
theorem fr_sum {fx : Nat → Bool} {fr : Nat → Nat} (g : Nat → Int) : ∀ {nc : Nat}, (∀ c, c < nc → fx c = false → fr (cntZ (unf fx) c) = c) → sumZ (fun j => g (fr j)) (cntZ (unf fx) nc) = sumZ (fun c => if fx c = true then 0 else g c) nc
  | 0, _ => rfl
  | nc + 1, h => by
    have ih := fr_sum (fx := fx) (fr := fr) g (nc := nc) (fun c hc hf => h c (by omega) hf)
    rcases hf : fx nc with _ | _
    · have e : cntZ (unf fx) (nc + 1) = cntZ (unf fx) nc + 1 := by show cntZ (unf fx) nc + (if unf fx nc then 1 else 0) = _; simp [unf, hf]
      rw [e]
      show sumZ (fun j => g (fr j)) (cntZ (unf fx) nc) + g (fr (cntZ (unf fx) nc)) = sumZ (fun c => if fx c = true then 0 else g c) nc + (if fx nc = true then 0 else g nc)
      rw [ih, h nc (by omega) hf, hf]; simp
    · have e : cntZ (unf fx) (nc + 1) = cntZ (unf fx) nc := by show cntZ (unf fx) nc + (if unf fx nc then 1 else 0) = _; simp [unf, hf]
      rw [e]
      show sumZ (fun j => g (fr j)) (cntZ (unf fx) nc) = sumZ (fun c => if fx c = true then 0 else g c) nc + (if fx nc = true then 0 else g nc)
      rw [ih, hf]; simp
theorem fr_split {nc n : Nat} {fx : Nat → Bool} {fr : Nat → Nat} (h : frI nc n fx fr) (g : Nat → Int) : sumZ g nc = sumZ (fun c => if fx c = true then g c else 0) nc + sumZ (fun j => g (fr j)) n := by
  rw [h.1, fr_sum g h.2, ← sm_add]
  refine sm_cong (fun c _ => ?_)
  by_cases e : fx c = true
  · rw [if_pos e, if_pos e]; omega
  · rw [if_neg e, if_neg e]; omega
-- ===== conditions laid =====
abbrev fxS (nc : Nat) (fx : Nat → Bool) (fv sa : Nat → Int) (r : Nat) : Int := sumZ (fun c => if fx c = true then sa (r * 5 + c) * fv c else 0) nc
def cdRow (n : Nat) (fr : Nat → Nat) (cs cn ck rk num sa : Nat → Int) (fs : Int) (k r : Nat) : Prop := ck k = rk r ∧ cn k = num r - fs ∧ ∀ j, j < n → cs (k * 5 + j) = sa (r * 5 + fr j)
def cdBnd (n : Nat) (cs cn ck : Nat → Int) (k j0 : Nat) (kind v : Int) : Prop := ck k = kind ∧ cn k = v ∧ ∀ j, j < n → cs (k * 5 + j) = if j = j0 then 1 else 0
def cdI (nc nr n K : Nat) (fx : Nat → Bool) (fr : Nat → Nat) (fv lo hi rk num sa : Nat → Int) (wh : Nat → Prop) (cs cn ck : Nat → Int) : Prop :=
  (∀ k, k < K → (∃ r, r < nr ∧ wh r ∧ cdRow n fr cs cn ck rk num sa (fxS nc fx fv sa r) k r) ∨ (∃ j0, j0 < n ∧ (cdBnd n cs cn ck k j0 1 (lo (fr j0)) ∨ (hi (fr j0) ≠ NONEz ∧ cdBnd n cs cn ck k j0 0 (hi (fr j0)))))) ∧
  (∀ r, r < nr → wh r → ∃ k, k < K ∧ cdRow n fr cs cn ck rk num sa (fxS nc fx fv sa r) k r) ∧
  (∀ j0, j0 < n → (∃ k, k < K ∧ cdBnd n cs cn ck k j0 1 (lo (fr j0))) ∧ (hi (fr j0) ≠ NONEz → ∃ k, k < K ∧ cdBnd n cs cn ck k j0 0 (hi (fr j0))))
/-- a condition as a vector: its number, then its shares -/
def cdV (n : Nat) (cs cn : Nat → Int) (k : Nat) : Nat → Int := fun x => if x = 0 then -cn k else cs (k * 5 + (x - 1))
theorem cd_dot {n : Nat} (cs cn : Nat → Int) (k : Nat) (z : Nat → Int) : dotZ (n + 1) (cdV n cs cn k) z = sumZ (fun j => cs (k * 5 + j) * z (1 + j)) n - cn k * z 0 := by
  unfold dotZ
  rw [sm_shift]
  have e : sumZ (fun c => cdV n cs cn k (1 + c) * z (1 + c)) n = sumZ (fun j => cs (k * 5 + j) * z (1 + j)) n := sm_cong (fun c _ => by unfold cdV; rw [if_neg (by omega), show 1 + c - 1 = c by omega])
  have e0 : cdV n cs cn k 0 = -cn k := by unfold cdV; rw [if_pos rfl]
  rw [e, e0]; grind
/-- a plan over the free columns, told in all -/
def isFu (nc n : Nat) (fx : Nat → Bool) (fr : Nat → Nat) (fv : Nat → Int) (z y : Nat → Int) : Prop := y 0 = z 0 ∧ (∀ c, c < nc → fx c = true → y (1 + c) = fv c * y 0) ∧ ∀ j, j < n → y (1 + fr j) = z (1 + j)
theorem fu_sum {nc n : Nat} {fx : Nat → Bool} {fr : Nat → Nat} {fv : Nat → Int} {z y : Nat → Int} (hfr : frI nc n fx fr) (h : isFu nc n fx fr fv z y) (sa : Nat → Int) (r : Nat) : sumZ (fun c => sa (r * 5 + c) * y (1 + c)) nc = fxS nc fx fv sa r * y 0 + sumZ (fun j => sa (r * 5 + fr j) * z (1 + j)) n := by
  rw [fr_split hfr]
  congr 1
  · rw [← sm_mulr]
    refine sm_cong (fun c hc => ?_)
    by_cases e : fx c = true
    · rw [if_pos e, if_pos e, h.2.1 c hc e]; grind
    · rw [if_neg e, if_neg e]; simp
  · exact sm_cong (fun j hj => by rw [h.2.2 j hj])
theorem kept_ok {k a b : Int} : okD k (a - b) ↔ keptP k a b := by unfold okD keptP; omega
/-- plans with the fixed values, in bounds, that keep the rows -/
def subP (nc nr : Nat) (fx : Nat → Bool) (fv lo hi rk num sa : Nat → Int) (wh : Nat → Prop) (y : Nat → Int) : Prop :=
  0 < y 0 ∧ (∀ c, c < nc → fx c = true → y (1 + c) = fv c * y 0) ∧ (∀ c, c < nc → fx c = false → lo c * y 0 ≤ y (1 + c) ∧ (hi c ≠ NONEz → y (1 + c) ≤ hi c * y 0)) ∧ ∀ r, r < nr → wh r → keptP (rk r) (sumZ (fun c => sa (r * 5 + c) * y (1 + c)) nc) (num r * y 0)
theorem row_ok {nc n : Nat} {fx : Nat → Bool} {fr : Nat → Nat} {fv cs cn ck rk num sa : Nat → Int} {z y : Nat → Int} (hfr : frI nc n fx fr) (h : isFu nc n fx fr fv z y) {k r : Nat} (hr : cdRow n fr cs cn ck rk num sa (fxS nc fx fv sa r) k r) : okD (ck k) (dotZ (n + 1) (cdV n cs cn k) z) ↔ keptP (rk r) (sumZ (fun c => sa (r * 5 + c) * y (1 + c)) nc) (num r * y 0) := by
  obtain ⟨h1, h2, h3⟩ := hr
  rw [cd_dot, fu_sum hfr h sa r, h1, h2, ← kept_ok, h.1]
  have e : sumZ (fun j => cs (k * 5 + j) * z (1 + j)) n = sumZ (fun j => sa (r * 5 + fr j) * z (1 + j)) n := sm_cong (fun j hj => by rw [h3 j hj])
  rw [e]
  have e2 : sumZ (fun j => sa (r * 5 + fr j) * z (1 + j)) n - (num r - fxS nc fx fv sa r) * z 0 = fxS nc fx fv sa r * z 0 + sumZ (fun j => sa (r * 5 + fr j) * z (1 + j)) n - num r * z 0 := by grind
  rw [e2]
theorem bnd_dot {n : Nat} {cs cn ck : Nat → Int} {k j0 : Nat} {kind v : Int} (h : cdBnd n cs cn ck k j0 kind v) (hj : j0 < n) (z : Nat → Int) : dotZ (n + 1) (cdV n cs cn k) z = z (1 + j0) - v * z 0 := by
  obtain ⟨h1, h2, h3⟩ := h
  rw [cd_dot, h2, sm_one (k := j0) hj (fun j hj hne => by rw [h3 j hj, if_neg hne]; simp), h3 j0 hj, if_pos rfl]; omega
theorem sub_iff {nc nr n K : Nat} {fx : Nat → Bool} {fr : Nat → Nat} {fv lo hi rk num sa cs cn ck : Nat → Int} {wh : Nat → Prop} (hfr : frI nc n fx fr) (hc : cdI nc nr n K fx fr fv lo hi rk num sa wh cs cn ck) {z y : Nat → Int} (h : isFu nc n fx fr fv z y) (h0 : 0 < y 0) : plP n K (cdV n cs cn) ck z ↔ subP nc nr fx fv lo hi rk num sa wh y := by
  obtain ⟨c1, c2, c3⟩ := hc
  constructor
  · intro hp
    refine ⟨h0, h.2.1, fun c hcc hf => ?_, fun r hr hw => ?_⟩
    · obtain ⟨i1, i2⟩ := fr_ix hfr hcc hf
      obtain ⟨b1, b2⟩ := c3 _ i1
      have e : y (1 + c) = z (1 + cntZ (unf fx) c) := by rw [← h.2.2 _ i1, i2]
      rw [i2] at b1 b2
      refine ⟨?_, fun hu => ?_⟩
      · obtain ⟨k, k1, k2⟩ := b1
        have := hp k k1
        rw [bnd_dot k2 i1, k2.1, ← e, ← h.1] at this
        unfold okD at this; omega
      · obtain ⟨k, k1, k2⟩ := b2 hu
        have := hp k k1
        rw [bnd_dot k2 i1, k2.1, ← e, ← h.1] at this
        unfold okD at this; omega
    · obtain ⟨k, k1, k2⟩ := c2 r hr hw
      exact (row_ok hfr h k2).mp (hp k k1)
  · rintro ⟨-, s1, s2, s3⟩ k hk
    rcases c1 k hk with ⟨r, r1, r2, r3⟩ | ⟨j0, j1, j2⟩
    · exact (row_ok hfr h r3).mpr (s3 r r1 r2)
    · obtain ⟨f1, f2, f3⟩ := fr_at hfr j1
      have hb := s2 (fr j0) f1 f2
      have e := h.2.2 j0 j1
      rcases j2 with j2 | ⟨j2, j3⟩
      · rw [bnd_dot j2 j1, j2.1, ← e, ← h.1]
        have := hb.1
        unfold okD; omega
      · rw [bnd_dot j3 j1, j3.1, ← e, ← h.1]
        have := hb.2 j2
        unfold okD; omega
-- ===== corners of what is laid =====
def mtM (n : Nat) (cs cn : Nat → Int) (ch : Nat → Int) : Nat → Nat → Int := fun i j => if j < n then cs ((ch i).toNat * 5 + j) else cn (ch i).toNat
/-- where chosen conditions meet, below the line a number above 0 -/
def crnO (n : Nat) (cs cn : Nat → Int) (ch : Nat → Int) : Option ((Nat → Int) × Int) := match elM n (mtM n cs cn ch) n with
  | none => none
  | some (T, bef) => some (if bef < 0 then (fun i => -T i n, -bef) else (fun i => T i n, bef))
def smallC (n K : Nat) (cs cn : Nat → Int) : Prop := (∀ k j, k < K → j < n → (cs (k * 5 + j)).natAbs ≤ 9) ∧ ∀ k, k < K → (cn k).natAbs ≤ 2000
theorem crn_bnd {n K : Nat} (hn : n ≤ 5) {cs cn ch : Nat → Int} (hs : smallC n K cs cn) (hc : chV n K ch) {q : Nat → Int} {u : Int} (h : crnO n cs cn ch = some (q, u)) : 0 < u ∧ u ≤ 7085880 ∧ ∀ j, j < n → (q j).natAbs ≤ 70858800000 := by
  unfold crnO at h
  have hM : ∀ i j, i < n → j < n → (mtM n cs cn ch i j).natAbs ≤ 9 := fun i j hi hj => by
    unfold mtM; rw [if_pos hj]; exact hs.1 _ j (by have := hc.1 i hi; omega) hj
  have hN : ∀ i, i < n → (mtM n cs cn ch i n).natAbs ≤ 2000 := fun i hi => by
    unfold mtM; rw [if_neg (by omega)]; exact hs.2 _ (by have := hc.1 i hi; omega)
  rcases he : elM n (mtM n cs cn ch) n with _ | ⟨T, bef⟩
  · rw [he] at h; cases h
  · rw [he] at h
    obtain ⟨b1, b2, b3, b4⟩ := el_bnd hn hM hN (el_keeps hM n (Nat.le_refl n) he)
    have h2 := Option.some.inj h
    by_cases e : bef < 0
    · rw [if_pos e] at h2
      have e1 : (fun i => -T i n) = q := congrArg Prod.fst h2
      have e2 : -bef = u := congrArg Prod.snd h2
      refine ⟨by omega, by omega, fun j hj => ?_⟩
      rw [← e1]
      have := b2 j hj
      show (-T j n).natAbs ≤ _
      omega
    · rw [if_neg e] at h2
      have e1 : (fun i => T i n) = q := congrArg Prod.fst h2
      have e2 : bef = u := congrArg Prod.snd h2
      refine ⟨by omega, by omega, fun j hj => ?_⟩
      rw [← e1]; exact b2 j hj
/-- a corner that is told by the conditions tight there is found -/
theorem crn_hits {n K : Nat} {cs cn : Nat → Int} (hs : smallC n K cs cn) {sel : Nat → Bool} (hcnt : cntZ sel K = n) (hker : ∀ w : Nat → Int, w 0 = 0 → (∀ k, k < K → sel k = true → dotZ (n + 1) (cdV n cs cn k) w = 0) → ∀ x, x < n + 1 → w x = 0) {z : Nat → Int} (hz : ∀ k, k < K → sel k = true → dotZ (n + 1) (cdV n cs cn k) z = 0) :
    ∃ q u, crnO n cs cn (nthS sel K) = some (q, u) ∧ 0 < u ∧ ∀ j, j < n → q j * z 0 = z (1 + j) * u := by
  obtain ⟨v1, v2, v3⟩ := nth_ok hcnt
  have hM : ∀ i j, i < n → j < n → (mtM n cs cn (nthS sel K) i j).natAbs ≤ 9 := fun i j hi hj => by
    unfold mtM; rw [if_pos hj]; exact hs.1 _ j (by have := v1.1 i hi; omega) hj
  have hrow : ∀ (v : Nat → Int) (c0 : Int), (∀ i, i < n → sumZ (fun j => mtM n cs cn (nthS sel K) i j * v j) n = 0) → ∀ k, k < K → sel k = true → dotZ (n + 1) (cdV n cs cn k) (fun x => if x = 0 then 0 else v (x - 1)) = 0 := by
    intro v c0 hv k hk hsk
    obtain ⟨i, i1, i2⟩ := v3 k hk hsk
    have h1 := hv i i1
    rw [cd_dot]
    have e : sumZ (fun j => cs (k * 5 + j) * (if 1 + j = 0 then 0 else v (1 + j - 1))) n = sumZ (fun j => mtM n cs cn (nthS sel K) i j * v j) n := by
      refine sm_cong (fun j hj => ?_)
      unfold mtM
      rw [if_neg (by omega), if_pos hj, i2, Int.toNat_natCast, show 1 + j - 1 = j by omega]
    show sumZ (fun j => cs (k * 5 + j) * (if 1 + j = 0 then 0 else v (1 + j - 1))) n - cn k * (if 0 = 0 then 0 else v (0 - 1)) = 0
    rw [e, h1, if_pos rfl]; simp
  have hk2 : ∀ v : Nat → Int, (∀ i, i < n → sumZ (fun j => mtM n cs cn (nthS sel K) i j * v j) n = 0) → ∀ j, j < n → v j = 0 := by
    intro v hv j hj
    have := hker (fun x => if x = 0 then 0 else v (x - 1)) (if_pos rfl) (hrow v 0 hv) (1 + j) (by omega)
    have h2 : (if 1 + j = 0 then 0 else v (1 + j - 1)) = 0 := this
    rwa [if_neg (by omega), show 1 + j - 1 = j by omega] at h2
  obtain ⟨T, bef, h1, h2⟩ := el_goes hM hk2 n (Nat.le_refl n)
  have hb0 : bef ≠ 0 := by obtain ⟨B, b1, b2, b3, -⟩ := h2; exact b3
  have hend := fun r hr => el_end h2 (r := r) hr
  have heq : ∀ j, j < n → T j n * z 0 = z (1 + j) * bef := by
    have := hk2 (fun j => T j n * z 0 - z (1 + j) * bef) (fun i hi => by
      have e1 := hend i hi
      have hchi := v1.1 i hi
      have e2 := hz (nthS sel K i).toNat (by omega) (v2 i hi)
      rw [cd_dot] at e2
      have e3 : sumZ (fun j => mtM n cs cn (nthS sel K) i j * (T j n * z 0 - z (1 + j) * bef)) n = sumZ (fun j => z 0 * (mtM n cs cn (nthS sel K) i j * T j n) + (-bef) * (cs ((nthS sel K i).toNat * 5 + j) * z (1 + j))) n := by
        refine sm_cong (fun j hj => ?_)
        have e4 : mtM n cs cn (nthS sel K) i j = cs ((nthS sel K i).toNat * 5 + j) := by unfold mtM; rw [if_pos hj]
        rw [e4]; grind
      have e5 : mtM n cs cn (nthS sel K) i n = cn (nthS sel K i).toNat := by unfold mtM; rw [if_neg (by omega)]
      rw [e3, sm_lin, e1, e5, show sumZ (fun j => cs ((nthS sel K i).toNat * 5 + j) * z (1 + j)) n = cn (nthS sel K i).toNat * z 0 by omega]
      grind)
    intro j hj
    have h3 : T j n * z 0 - z (1 + j) * bef = 0 := this j hj
    omega
  unfold crnO
  rw [h1]
  by_cases e : bef < 0
  · refine ⟨fun i => -T i n, -bef, ?_, by omega, fun j hj => ?_⟩
    · show some (if bef < 0 then (fun i => -T i n, -bef) else (fun i => T i n, bef)) = _
      rw [if_pos e]
    · have := heq j hj
      show -T j n * z 0 = z (1 + j) * -bef
      grind
  · refine ⟨fun i => T i n, bef, ?_, by omega, fun j hj => heq j hj⟩
    show some (if bef < 0 then (fun i => -T i n, -bef) else (fun i => T i n, bef)) = _
    rw [if_neg e]
