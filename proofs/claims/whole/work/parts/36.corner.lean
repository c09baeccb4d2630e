variable {gd : Prop}
-- ===== what the end of a descent says =====
theorem sm_pos {f : Nat → Int} : ∀ {n : Nat}, (∀ j, j < n → 0 ≤ f j) → 0 ≤ sumZ f n
  | 0, _ => Int.le_refl 0
  | n + 1, h => by
    have h1 := sm_pos (n := n) (fun j hj => h j (by omega))
    have h2 := h n (by omega)
    show 0 ≤ sumZ f n + f n
    omega
theorem sm_ext {f : Nat → Int} {a : Nat} : ∀ {n : Nat}, a ≤ n → (∀ j, a ≤ j → j < n → f j = 0) → sumZ f n = sumZ f a
  | 0, h, _ => by rw [show a = 0 by omega]
  | n + 1, h, hz => by
    rcases (show a = n + 1 ∨ a ≤ n by omega) with e | e
    · rw [e]
    · show sumZ f n + f n = sumZ f a
      rw [sm_ext e (fun j h1 h2 => hz j h1 (by omega)), hz n e (by omega)]; omega
theorem dot_un0 (y : Nat → Int) : dotZ 6 (unV 0) y = y 0 := by
  unfold dotZ
  rw [sm_one (k := 0) (by omega) (fun j _ hj => by unfold unV; rw [if_neg hj]; simp)]
  simp [unV]
theorem dot_ln {c : Nat} (hc : c < 5) (l : Int) (y : Nat → Int) : dotZ 6 (lnV c l) y = y (1 + c) - l * y 0 := by
  unfold dotZ
  rw [sm_two (a := 0) (b := 1 + c) (by omega) (by omega) (by omega) (fun x hx h1 h2 => by unfold lnV; rw [if_neg h2, if_neg h1]; simp)]
  unfold lnV
  rw [if_neg (by omega), if_pos rfl, if_pos rfl]
  grind
theorem dot_lin (n : Nat) (f y z : Nat → Int) (a b : Int) : dotZ n f (fun x => a * y x + b * z x) = a * dotZ n f y + b * dotZ n f z := by
  unfold dotZ
  rw [← sm_lin]
  exact sm_cong (fun j _ => by grind)
theorem dot_mul (n : Nat) (f y : Nat → Int) (a : Int) : dotZ n f (fun x => a * y x) = a * dotZ n f y := by
  unfold dotZ
  rw [← sm_mul]
  exact sm_cong (fun j _ => by grind)
theorem dot_cong {n : Nat} {f y z : Nat → Int} (h : ∀ x, x < n → y x = z x) : dotZ n f y = dotZ n f z := sm_cong (fun j hj => by rw [h j hj])
theorem dot_tab {nc : Nat} {W : Nat → Nat → Int} {S : TS} {B : Nat → Nat → Int} {s : Int} (h : tabI gd nc W S B s) {i : Nat} (hi : i < tNl S) (y : Nat → Int) (hy : ∀ j, j < nc → tSh S j ≠ 0 → dotZ 6 (B j) y = 0) :
    tBel S * dotZ 6 (W i) y = sumZ (fun m => if tSh S m = 0 then dotZ 6 (B m) y * tCe S (i * 6 + m) else 0) nc + y 0 * tCe S (i * 6 + 5) := by
  obtain ⟨⟨hs1, hb, hb0, hC, h5, hU, hS, hcell⟩, hnc, hnl, hWz, -⟩ := h
  have h1 := dot_cr hC (W i) y
  have h2 : sumZ (fun m => dotZ 6 (B m) y * (s * dotZ 6 (W i) (dlV 6 B m))) 6 = sumZ (fun m => if tSh S m = 0 then dotZ 6 (B m) y * tCe S (i * 6 + m) else 0) nc + y 0 * tCe S (i * 6 + 5) := by
    show sumZ (fun m => dotZ 6 (B m) y * (s * dotZ 6 (W i) (dlV 6 B m))) 5 + dotZ 6 (B 5) y * (s * dotZ 6 (W i) (dlV 6 B 5)) = _
    rw [h5, dot_un0, ← hcell i 5 hi (by omega) (Or.inl hnc), sm_ext (a := nc) hnc (fun m q1 q2 => ?_)]
    · congr 1
      refine sm_cong (fun m hm => ?_)
      by_cases e : tSh S m = 0
      · rw [if_pos e, hcell i m hi (by omega) (Or.inr e)]
      · rw [if_neg e, hy m hm e]; simp
    · rw [dot_dl_m hC h5 hU hS q1 q2 (hWz i hi m q1 q2)]; simp
  rw [← h2, hb, Int.mul_assoc, h1, ← sm_mul]
  exact sm_cong (fun m _ => by grind)
theorem cheapZ_none {ce sh : Nat → Int} {nc line : Nat} {sd : Int} : ∀ {n : Nat}, cheapZ ce sh nc line sd n < 0 → ∀ j, j < n → sh j = 0 → ¬ ce (line * 6 + j) * sd < 0
  | 0, _, j, hj => absurd hj (Nat.not_lt_zero j)
  | n + 1, h, j, hj => by
    by_cases hc : sh n = 0 ∧ ce (line * 6 + n) * sd < 0 ∧ (cheapZ ce sh nc line sd n < 0 ∨ ordZ ce line n (cheapZ ce sh nc line sd n).toNat (nc + 1) < 0)
    · rw [cheapZ_yes hc] at h; omega
    · rw [cheapZ_no hc] at h
      rcases (show j < n ∨ j = n by omega) with q | q
      · exact cheapZ_none h j q
      · subst q
        exact fun a b => hc ⟨a, b, Or.inl h⟩
theorem desc_none {nc : Nat} {W : Nat → Nat → Int} {S : TS} {B : Nat → Nat → Int} {s : Int} (h : tabI gd nc W S B s) (hg : gd) (hl : 0 ≤ dcLn S) (hk : dcK nc S < 0) (y : Nat → Int) (hy : feas (tNl S) W (tTi S) y) : False := by
  obtain ⟨line, hln⟩ : ∃ line : Nat, dcLn S = (line : Int) := ⟨(dcLn S).toNat, by omega⟩
  obtain ⟨hl1, hbr, -⟩ := firstZ_is (f := brokB (tCe S) (tTi S) (tFar S)) hln
  have hl2 : line < tNl S := hl1
  unfold dcK at hk
  rw [hln, Int.toNat_natCast] at hk
  have hno := cheapZ_none hk
  have hsr := sideZ_rng (tCe S) (tFar S) line
  obtain ⟨sd, hsd⟩ : ∃ sd, sd = sideZ (tCe S) (tFar S) line := ⟨_, rfl⟩
  have hbr2 : tTi S line ≠ 0 ∧ (sd < 0 ∨ (0 < sd ∧ tTi S line = 2)) := by
    unfold brokB at hbr; rw [← hsd] at hbr; simpa using hbr
  have hno2 : ∀ j, j < nc → tSh S j = 0 → 0 ≤ tCe S (line * 6 + j) * sd := by
    intro j h1 h2
    have := hno j h1 h2
    rw [hsd]
    have h3 : ¬ tCe S (line * 6 + j) * sideZ (tCe S) (tFar S) line < 0 := this
    omega
  rw [← hsd] at hsr
  have hsem := h.2.2.2.2.2.2.2.2.2.2.1 hg y hy
  have hd := dot_tab h hl2 y (fun j hj hs => (hsem j hj).2 hs)
  have ht0 := h.2.2.2.2.2.1.1
  have hline : 1 ≤ line := by
    rcases (show line = 0 ∨ 1 ≤ line by omega) with e | e
    · subst e; exact absurd ht0 hbr2.1
    · exact e
  have hfar := h.2.2.2.2.2.2.2.1
  have hback : ∀ f : Nat, tFar S = (f : Int) → f < nc → tSh S f = 0 → tCe S (line * 6 + f) = 0 := by
    intro f hf h1 h2
    have h3 := hno2 f h1 h2
    by_cases e : tCe S (line * 6 + f) = 0
    · exact e
    · exfalso
      have hb : backZ (tCe S) (tFar S) line = tCe S (line * 6 + f) := by unfold backZ; rw [if_neg (by omega), hf, Int.toNat_natCast]
      have hs5 : sd = cmpZ 0 (tCe S (line * 6 + f)) := by rw [hsd]; unfold sideZ; rw [hb, if_neg e]
      rcases cmpZ_spec hs5 with ⟨w1, w2⟩ | ⟨w1, w2⟩ | ⟨w1, w2⟩
      · rw [w1] at h3; omega
      · exact e w2.symm
      · rw [w1] at h3; omega
  have hc5 : 0 < sd * tCe S (line * 6 + 5) := by
    have hb0 : backZ (tCe S) (tFar S) line = 0 := by
      rcases hfar with w | ⟨f, w1, w2, w3⟩
      · unfold backZ; rw [if_pos (by omega)]
      · unfold backZ; rw [if_neg (by omega), w2, Int.toNat_natCast]; exact hback f w2 w1 w3
    have hs5 : sd = cmpZ (tCe S (line * 6 + 5)) 0 := by rw [hsd]; unfold sideZ; rw [if_pos hb0]
    rcases cmpZ_spec hs5 with ⟨w1, w2⟩ | ⟨w1, w2⟩ | ⟨w1, w2⟩
    · rw [w1]; omega
    · omega
    · rw [w1]; omega
  clear hfar
  have hsum : 0 ≤ sd * sumZ (fun m => if tSh S m = 0 then dotZ 6 (B m) y * tCe S (line * 6 + m) else 0) nc := by
    rw [← sm_mul]
    refine sm_pos (fun m hm => ?_)
    by_cases e : tSh S m = 0
    · rw [if_pos e]
      by_cases ef : (m : Int) = tFar S
      · rw [hback m ef.symm hm e]; simp
      · have h1 := (hsem m hm).1 e ef
        have h2 := hno2 m hm e
        have h3 := Int.mul_nonneg h1 h2
        have h4 : sd * (dotZ 6 (B m) y * tCe S (line * 6 + m)) = dotZ 6 (B m) y * (tCe S (line * 6 + m) * sd) := by grind
        rw [h4]; exact h3
    · rw [if_neg e]; simp
  have hy0 := hy.1
  have htot : 0 < sd * (tBel S * dotZ 6 (W line) y) := by
    rw [hd, Int.mul_add]
    have h4 : sd * (y 0 * tCe S (line * 6 + 5)) = y 0 * (sd * tCe S (line * 6 + 5)) := by grind
    have h5 := Int.mul_pos hy0 hc5
    rw [h4]; omega
  have hbel := h.1.2.2.1
  have hy2 := hy.2 line hline hl2
  rcases h.2.2.2.2.2.1.2 line hline hl2 with w | w
  · have h6 : sd = -1 := by omega
    have h7 := Int.mul_nonneg (Int.le_of_lt hbel) (hy2.1 w)
    rw [h6] at htot; omega
  · rw [hy2.2 w] at htot; simp at htot
theorem desc_lines {nc : Nat} {W : Nat → Nat → Int} {S : TS} {B : Nat → Nat → Int} {s : Int} (h : tabI gd nc W S B s) (hl : dcLn S < 0) {i : Nat} (h1 : 1 ≤ i) (hi : i < tNl S) : 0 ≤ sideZ (tCe S) (tFar S) i ∧ (tTi S i = 2 → sideZ (tCe S) (tFar S) i = 0) := by
  have hb := firstZ_isNone (f := brokB (tCe S) (tTi S) (tFar S)) hl i hi
  unfold brokB at hb
  simp only [decide_eq_false_iff_not] at hb
  have ht := h.2.2.2.2.2.1.2 i h1 hi
  have a1 : ¬ sideZ (tCe S) (tFar S) i < 0 := fun q => hb ⟨by omega, Or.inl q⟩
  refine ⟨by omega, fun q => ?_⟩
  have a2 : ¬ 0 < sideZ (tCe S) (tFar S) i := fun z => hb ⟨by omega, Or.inr ⟨z, q⟩⟩
  omega
/-- the corner, over 'below' -/
def cpV (nc : Nat) (S : TS) : Nat → Int := fun x => if x = 0 then tBel S else if x ≤ nc then valZ (tLo S) (tCe S) (tBel S) (x - 1) else 0
theorem cp_eq {nc : Nat} {W : Nat → Nat → Int} {S : TS} {B : Nat → Nat → Int} {s : Int} (h : tabI gd nc W S B s) {x : Nat} (hx : x < 6) : cpV nc S x = s * dlV 6 B 5 x := by
  obtain ⟨⟨hs1, hb, hb0, hC, h5, hU, hS, hcell⟩, hnc, hnl, hWz, hL, -⟩ := h
  have h0 : s * dlV 6 B 5 0 = tBel S := by rw [hb]; unfold dlV; rw [← h5, putV_self]
  rcases (show x = 0 ∨ ∃ c, x = 1 + c by rcases x with _ | x; exact Or.inl rfl; exact Or.inr ⟨x, by omega⟩) with e | ⟨c, e⟩
  · subst e; rw [h0]; unfold cpV; rw [if_pos rfl]
  · subst e
    unfold cpV
    rw [if_neg (by omega)]
    rcases (show c < nc ∨ nc ≤ c by omega) with q | q
    · rw [if_pos (by omega), show 1 + c - 1 = c by omega]
      have h1 := hcell (1 + c) 5 (by omega) (by omega) (Or.inl hnc)
      rw [hL c q, dot_ln (by omega)] at h1
      show tLo S c * tBel S + tCe S ((1 + c) * 6 + 5) = s * dlV 6 B 5 (1 + c)
      rw [h1, ← h0]
      grind
    · rw [if_neg (by omega), dl_far (hU c q (by omega)) (by omega) (by omega) (by omega)]; simp
theorem cp_dot {nc : Nat} {W : Nat → Nat → Int} {S : TS} {B : Nat → Nat → Int} {s : Int} (h : tabI gd nc W S B s) (f : Nat → Int) : dotZ 6 f (cpV nc S) = s * dotZ 6 f (dlV 6 B 5) := by
  rw [← dot_mul]
  exact dot_cong (fun x hx => cp_eq h hx)
theorem cp_W {nc : Nat} {W : Nat → Nat → Int} {S : TS} {B : Nat → Nat → Int} {s : Int} (h : tabI gd nc W S B s) {i : Nat} (hi : i < tNl S) : dotZ 6 (W i) (cpV nc S) = tCe S (i * 6 + 5) := by
  rw [cp_dot h, ← h.1.2.2.2.2.2.2.2 i 5 hi (by omega) (Or.inl h.2.1)]
/-- the way on from a corner at the far bound -/
def rdV (nc : Nat) (S : TS) (f : Nat) : Nat → Int := fun x => if x = 0 then 0 else if x ≤ nc then -tCe S (x * 6 + f) else 0
theorem rd_eq {nc : Nat} {W : Nat → Nat → Int} {S : TS} {B : Nat → Nat → Int} {s : Int} (h : tabI gd nc W S B s) {f : Nat} (hf : f < nc) (hs : tSh S f = 0) {x : Nat} (hx : x < 6) : rdV nc S f x = (-s) * dlV 6 B f x := by
  obtain ⟨⟨hs1, hb, hb0, hC, h5, hU, hS, hcell⟩, hnc, hnl, hWz, hL, -⟩ := h
  have h0 : dlV 6 B f 0 = 0 := dl_5 h5 (by omega)
  rcases (show x = 0 ∨ ∃ c, x = 1 + c by rcases x with _ | x; exact Or.inl rfl; exact Or.inr ⟨x, by omega⟩) with e | ⟨c, e⟩
  · subst e; rw [h0]; unfold rdV; rw [if_pos rfl]; simp
  · subst e
    unfold rdV
    rw [if_neg (by omega)]
    rcases (show c < nc ∨ nc ≤ c by omega) with q | q
    · rw [if_pos (by omega)]
      have h1 := hcell (1 + c) f (by omega) (by omega) (Or.inr hs)
      rw [hL c q, dot_ln (by omega), h0] at h1
      rw [h1]; grind
    · rw [if_neg (by omega), dl_far (hU c q (by omega)) (by omega) (by omega) (by omega)]; simp
theorem rd_W {nc : Nat} {W : Nat → Nat → Int} {S : TS} {B : Nat → Nat → Int} {s : Int} (h : tabI gd nc W S B s) {f : Nat} (hf : f < nc) (hs : tSh S f = 0) {i : Nat} (hi : i < tNl S) : dotZ 6 (W i) (rdV nc S f) = -tCe S (i * 6 + f) := by
  have h1 : dotZ 6 (W i) (rdV nc S f) = (-s) * dotZ 6 (W i) (dlV 6 B f) := by
    rw [← dot_mul]
    exact dot_cong (fun x hx => rd_eq h hf hs hx)
  have hn := h.2.1
  rw [h1, h.1.2.2.2.2.2.2.2 i f hi (by omega) (Or.inr hs)]
  grind
theorem side_near {ce : Nat → Int} {far : Int} {i : Nat} (h : backZ ce far i = 0) : sideZ ce far i = cmpZ (ce (i * 6 + 5)) 0 := by unfold sideZ; rw [if_pos h]
theorem side_far {ce : Nat → Int} {far : Int} {i : Nat} (h : backZ ce far i ≠ 0) : sideZ ce far i = cmpZ 0 (backZ ce far i) := by unfold sideZ; rw [if_neg h]
theorem corner_feas {nc : Nat} {W : Nat → Nat → Int} {S : TS} {B : Nat → Nat → Int} {s : Int} (h : tabI gd nc W S B s) (hl : dcLn S < 0) (hf : tFar S = -1) : feas (tNl S) W (tTi S) (cpV nc S) := by
  refine ⟨?_, fun i h1 hi => ?_⟩
  · show 0 < cpV nc S 0
    unfold cpV; rw [if_pos rfl]; exact h.1.2.2.1
  · have hd := desc_lines h hl h1 hi
    have hs := cmpZ_spec (side_near (ce := tCe S) (far := tFar S) (i := i) (by unfold backZ; rw [if_pos (by omega)]))
    rw [cp_W h hi]
    exact ⟨fun _ => by omega, fun q => by have := hd.2 q; omega⟩
theorem lexN_sum {g : Nat → Nat → Int} {N : Nat} : ∀ {n : Nat}, (∀ m, m < n → lexN (g m) N) → lexN (fun i => sumZ (fun m => g m i) n) N
  | 0, _ => Or.inl (fun _ _ => rfl)
  | n + 1, h => lexN_add (lexN_sum (fun m hm => h m (by omega))) (h n (by omega))
theorem corner_min {nc : Nat} {W : Nat → Nat → Int} {S : TS} {B : Nat → Nat → Int} {s : Int} (h : tabI gd nc W S B s) (hg : gd) (hf : tFar S = -1) (y : Nat → Int) (hy : feas (tNl S) W (tTi S) y) :
    lexN (fun i => dotZ 6 (W i) y * tBel S - tCe S (i * 6 + 5) * y 0) (nc + 1) := by
  have hsem := h.2.2.2.2.2.2.2.2.2.2.1 hg y hy
  have hlex := h.2.2.2.2.2.2.1
  have hnl := h.2.2.1
  have h1 : lexN (fun i => sumZ (fun m => if tSh S m = 0 then dotZ 6 (B m) y * tCe S (i * 6 + m) else 0) nc) (nc + 1) := by
    refine lexN_sum (g := fun m i => if tSh S m = 0 then dotZ 6 (B m) y * tCe S (i * 6 + m) else 0) (fun m hm => ?_)
    by_cases e : tSh S m = 0
    · exact lexN_cong (fun i _ => by rw [if_pos e]) (lexN_mul ((hsem m hm).1 e (by omega)) (Or.inr (hlex m hm e)))
    · exact Or.inl (fun i _ => if_neg e)
  refine lexN_cong (fun i hi => ?_) h1
  have hd := dot_tab h (i := i) (by omega) y (fun j hj hs => (hsem j hj).2 hs)
  grind
theorem corner_only {nc : Nat} {W : Nat → Nat → Int} {S : TS} {B : Nat → Nat → Int} {s : Int} (h : tabI gd nc W S B s) (y : Nat → Int) (hz : ∀ i, i < nc + 1 → dotZ 6 (W i) y * tBel S - tCe S (i * 6 + 5) * y 0 = 0) {x : Nat} (hx : x ≤ nc) : y x * tBel S = cpV nc S x * y 0 := by
  have hn := h.2.1
  rcases (show x = 0 ∨ ∃ c, x = 1 + c by rcases x with _ | x; exact Or.inl rfl; exact Or.inr ⟨x, by omega⟩) with e | ⟨c, e⟩
  · subst e; unfold cpV; rw [if_pos rfl, Int.mul_comm]
  · subst e
    have h1 := hz (1 + c) (by omega)
    rw [h.2.2.2.2.1 c (by omega), dot_ln (by omega)] at h1
    unfold cpV
    rw [if_neg (by omega), if_pos hx, show 1 + c - 1 = c by omega]
    show y (1 + c) * tBel S = (tLo S c * tBel S + tCe S ((1 + c) * 6 + 5)) * y 0
    grind
theorem ray_lines {nc : Nat} {W : Nat → Nat → Int} {S : TS} {B : Nat → Nat → Int} {s : Int} (h : tabI gd nc W S B s) (hl : dcLn S < 0) {f : Nat} (hf : tFar S = (f : Int)) {i : Nat} (h1 : 1 ≤ i) (hi : i < tNl S) :
    tCe S (i * 6 + f) ≤ 0 ∧ (tCe S (i * 6 + f) = 0 → 0 ≤ tCe S (i * 6 + 5)) ∧ (tTi S i = 2 → tCe S (i * 6 + f) = 0 ∧ tCe S (i * 6 + 5) = 0) := by
  have hd := desc_lines h hl h1 hi
  have hb : backZ (tCe S) (tFar S) i = tCe S (i * 6 + f) := by unfold backZ; rw [if_neg (by omega), hf, Int.toNat_natCast]
  by_cases e : tCe S (i * 6 + f) = 0
  · have hs := cmpZ_spec (side_near (ce := tCe S) (far := tFar S) (i := i) (by rw [hb]; exact e))
    exact ⟨by omega, fun _ => by omega, fun q => ⟨e, by have := hd.2 q; omega⟩⟩
  · have hs := cmpZ_spec (side_far (ce := tCe S) (far := tFar S) (i := i) (by rw [hb]; exact e))
    rw [hb] at hs
    exact ⟨by omega, fun q => absurd q e, fun q => by have := hd.2 q; omega⟩
theorem ray_cost {nc : Nat} {W : Nat → Nat → Int} {S : TS} {B : Nat → Nat → Int} {s : Int} (h : tabI gd nc W S B s) (hl : dcLn S < 0) {f : Nat} (hf : tFar S = (f : Int)) : f < nc ∧ tSh S f = 0 ∧ 0 < tCe S f := by
  obtain ⟨f1, f2⟩ : f < nc ∧ tSh S f = 0 := by
    rcases h.2.2.2.2.2.2.2.1 with w | ⟨f', w1, w2, w3⟩
    · omega
    · have : f' = f := by omega
      subst this; exact ⟨w1, w3⟩
  obtain ⟨i, q1, q2, q3⟩ := h.2.2.2.2.2.2.1 f f1 f2
  have hnl := h.2.2.1
  have q4 : 0 < tCe S (i * 6 + f) := q2
  refine ⟨f1, f2, ?_⟩
  rcases (show i = 0 ∨ 1 ≤ i by omega) with e | e
  · subst e; rw [Nat.zero_mul, Nat.zero_add] at q4; exact q4
  · have := (ray_lines h hl hf e (by omega)).1
    omega
theorem ray_feas {nc : Nat} {W : Nat → Nat → Int} {S : TS} {B : Nat → Nat → Int} {s : Int} (h : tabI gd nc W S B s) (hl : dcLn S < 0) {f : Nat} (hf : tFar S = (f : Int)) (M : Int) (hM : 100000000000 ≤ M) : feas (tNl S) W (tTi S) (fun x => 1 * cpV nc S x + M * rdV nc S f x) := by
  obtain ⟨f1, f2, f3⟩ := ray_cost h hl hf
  refine ⟨?_, fun i h1 hi => ?_⟩
  · show 0 < 1 * cpV nc S 0 + M * rdV nc S f 0
    have e1 : cpV nc S 0 = tBel S := by unfold cpV; rw [if_pos rfl]
    have e2 : rdV nc S f 0 = 0 := by unfold rdV; rw [if_pos rfl]
    have := h.1.2.2.1
    rw [e1, e2]; omega
  · rw [dot_lin, cp_W h hi, rd_W h f1 f2 hi]
    obtain ⟨r1, r2, r3⟩ := ray_lines h hl hf h1 hi
    refine ⟨fun _ => ?_, fun q => ?_⟩
    · by_cases e : tCe S (i * 6 + f) = 0
      · have := r2 e
        rw [e]; omega
      · have hb := h.2.2.2.2.2.2.2.2.2.2.2.2.2.2.1 i
        have hb2 : -100000000000 ≤ tCe S (i * 6 + 5) := hb.1
        have h3 : M * 1 ≤ M * -tCe S (i * 6 + f) := Int.mul_le_mul_of_nonneg_left (by omega) (by omega)
        omega
    · obtain ⟨e1, e2⟩ := r3 q
      rw [e1, e2]; simp
