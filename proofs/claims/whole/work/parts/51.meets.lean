-- ===== where n conditions meet =====
theorem cr_put {n : Nat} {B : Nat → Nat → Int} (hC : CrV n B) (w : Nat → Int) {x : Nat} (hx : x < n) : sumZ (fun m => detD n (putV B m w) * B m x) n = detD n B * w x := by
  have h3 : sumZ (fun m => detD n (putV B m w) * B m x) n = sumZ (fun m => sumZ (fun c' => w c' * (dlV n B m c' * B m x)) n) n := by
    refine sm_cong (fun m hm => ?_)
    rw [dl_ev B hm]
    unfold dotZ
    rw [← sm_mulr]
    exact sm_cong (fun j _ => by grind)
  rw [h3, sm_swap]
  have h4 : sumZ (fun j => sumZ (fun i => w j * (dlV n B i j * B i x)) n) n = sumZ (fun j => w j * (detD n B * unV j x)) n := by
    refine sm_cong (fun j hj => ?_)
    rw [sm_mul, ← hC j hj x hx]
  rw [h4, sm_one hx (fun j _ hj => by rw [un_ne (Ne.symm hj)]; simp), un_eq]
  grind
theorem id_det : ∀ n, detD n (fun i => unV i) = 1
  | 0 => rfl
  | n + 1 => by
    show sumZ (fun i => sgZ i * unV i 0 * detD n (minV i (fun i => unV i))) (n + 1) = 1
    rw [sm_one (k := 0) (by omega) (fun j _ hj => by rw [un_ne (Ne.symm hj)]; simp), un_eq]
    have e : detD n (minV 0 (fun i => unV i)) = detD n (fun i => unV i) := by
      refine det_cong (fun a b _ _ => ?_)
      show unV (if a < 0 then a else a + 1) (b + 1) = unV a b
      rw [if_neg (by omega)]
      unfold unV
      by_cases q : b = a
      · rw [if_pos q, if_pos (by omega)]
      · rw [if_neg q, if_neg (by omega)]
    rw [e, id_det n]; decide
theorem id_dl {n i c : Nat} (hi : i < n) (hc : c < n) : dlV n (fun i => unV i) i c = unV i c := by
  unfold dlV
  by_cases e : c = i
  · subst e
    rw [un_eq, ← id_det n]
    congr 1
    exact putV_self (w := fun i => unV i)
  · rw [un_ne e]
    exact det_same (a := i) (b := c) (Ne.symm e) hi hc (by rw [putV_eq, putV_ne e])
theorem id_Cr (n : Nat) : CrV n (fun i => unV i) := by
  intro c hc x hx
  rw [id_det, sm_one (k := x) hx (fun m hm hne => by show dlV n (fun i => unV i) m c * unV m x = 0; rw [un_ne (Ne.symm hne)]; simp), id_dl hx hc]
  show 1 * unV c x = unV x c * unV x x
  rw [un_eq]
  unfold unV
  by_cases q : x = c
  · rw [if_pos q, if_pos q.symm] <;> rfl
  · rw [if_neg q, if_neg (Ne.symm q)] <;> rfl
-- two slots exchanged, one of them negated
def exV (B : Nat → Nat → Int) (p a : Nat) : Nat → Nat → Int := putV (putV B p (B a)) a (fun x => -1 * B p x)
theorem ex_det {n : Nat} {B : Nat → Nat → Int} {p a : Nat} (hp : p < n) (ha : a < n) (h : p ≠ a) : detD n (exV B p a) = detD n B := by
  unfold exV
  rw [det_mul _ _ _ ha, det_anti h hp ha (B a) (B p), putV_self, putV_self]; omega
theorem ex_other {n : Nat} {B : Nat → Nat → Int} {p a i : Nat} {w : Nat → Int} (hp : p < n) (ha : a < n) (h : p ≠ a) (h1 : i ≠ p) (h2 : i ≠ a) : detD n (putV (exV B p a) i w) = detD n (putV B i w) := by
  have e : putV (exV B p a) i w = exV (putV B i w) p a := by
    unfold exV
    rw [putV_comm (Ne.symm h2), putV_comm (w := B) (Ne.symm h1), putV_ne (Ne.symm h1), putV_ne (Ne.symm h2)]
  rw [e, ex_det hp ha h]
theorem ex_p {n : Nat} {B : Nat → Nat → Int} {p a : Nat} {w : Nat → Int} (hp : p < n) (ha : a < n) (h : p ≠ a) : detD n (putV (exV B p a) p w) = detD n (putV B a w) := by
  unfold exV
  rw [putV_comm (Ne.symm h), putV_put, det_mul _ _ _ ha, det_anti h hp ha w (B p), putV_self]; omega
theorem ex_a {n : Nat} {B : Nat → Nat → Int} {p a : Nat} {w : Nat → Int} (hp : p < n) (ha : a < n) (h : p ≠ a) : detD n (putV (exV B p a) a w) = -detD n (putV B p w) := by
  unfold exV
  rw [putV_put, det_anti h hp ha (B a) w]
  have e : putV (putV B p w) a (B a) = putV B p w := by
    have : (putV B p w) a = B a := putV_ne (Ne.symm h)
    rw [← this]; exact putV_self
  rw [e]
theorem ex_Cr {n : Nat} {B : Nat → Nat → Int} {p a : Nat} (hC : CrV n B) (hp : p < n) (ha : a < n) (h : p ≠ a) : CrV n (exV B p a) := by
  intro c hc x hx
  have ep : exV B p a p = B a := by unfold exV; rw [putV_ne h, putV_eq]
  have ea : exV B p a a = fun x => -1 * B p x := by unfold exV; rw [putV_eq]
  have dp : dlV n (exV B p a) p c = dlV n B a c := ex_p hp ha h
  have da : dlV n (exV B p a) a c = -dlV n B p c := ex_a hp ha h
  rw [ex_det hp ha h, hC c hc x hx, sm_split hp, sm_split (f := fun j => if j = p then 0 else dlV n B j c * B j x) ha, sm_split (f := fun m => dlV n (exV B p a) m c * exV B p a m x) hp, sm_split (f := fun j => if j = p then 0 else dlV n (exV B p a) j c * exV B p a j x) ha]
  rw [if_neg (Ne.symm h), if_neg (Ne.symm h), ep, ea, dp, da]
  have e : sumZ (fun j => if j = a then 0 else if j = p then 0 else dlV n (exV B p a) j c * exV B p a j x) n = sumZ (fun j => if j = a then 0 else if j = p then 0 else dlV n B j c * B j x) n := by
    refine sm_cong (fun j hj => ?_)
    by_cases q1 : j = a
    · rw [if_pos q1, if_pos q1]
    · rw [if_neg q1, if_neg q1]
      by_cases q2 : j = p
      · rw [if_pos q2, if_pos q2]
      · rw [if_neg q2, if_neg q2]
        have d1 : dlV n (exV B p a) j c = dlV n B j c := ex_other hp ha h q2 q1
        have d2 : exV B p a j = B j := by unfold exV; rw [putV_ne q1, putV_ne q2]
        rw [d1, d2]
  rw [e]; grind
-- ===== the elimination, as plain functions =====
def colV (M : Nat → Nat → Int) (j : Nat) : Nat → Int := fun r => M r j
/-- the first row from p on that is not 0 in column p; n: none -/
def atN (T : Nat → Nat → Int) (p n : Nat) : Nat → Nat
  | 0 => n
  | d + 1 => if T (n - (d + 1)) p = 0 then atN T p n d else n - (d + 1)
def swM (T : Nat → Nat → Int) (a p : Nat) : Nat → Nat → Int := fun i j => if a = p then T i j else if i = a then -T p j else if i = p then T a j else T i j
def clM (T : Nat → Nat → Int) (p : Nat) (piv bef : Int) : Nat → Nat → Int := fun i j => if i = p then T p j else Int.tdiv (T i j * piv - T i p * T p j) bef
/-- p columns cleared: the rows, and what stands below; none: they don't meet -/
def elM (n : Nat) (M : Nat → Nat → Int) : Nat → Option ((Nat → Nat → Int) × Int)
  | 0 => some (M, 1)
  | p + 1 => match elM n M p with
    | none => none
    | some (T, bef) => if atN T p n (n - p) = n then none else some (clM (swM T (atN T p n (n - p)) p) p (swM T (atN T p n (n - p)) p p p) bef, swM T (atN T p n (n - p)) p p p)
theorem atN_spec {T : Nat → Nat → Int} {p n : Nat} : ∀ {d : Nat}, d ≤ n → (atN T p n d = n ∧ ∀ i, n - d ≤ i → i < n → T i p = 0) ∨ (n - d ≤ atN T p n d ∧ atN T p n d < n ∧ T (atN T p n d) p ≠ 0 ∧ ∀ i, n - d ≤ i → i < atN T p n d → T i p = 0)
  | 0, _ => Or.inl ⟨rfl, fun i h1 h2 => by omega⟩
  | d + 1, h => by
    unfold atN
    by_cases e : T (n - (d + 1)) p = 0
    · rw [if_pos e]
      rcases atN_spec (T := T) (p := p) (d := d) (show d ≤ n by omega) with ⟨h1, h2⟩ | ⟨h1, h2, h3, h4⟩
      · refine Or.inl ⟨h1, fun i h3 h4 => ?_⟩
        rcases (show i = n - (d + 1) ∨ n - d ≤ i by omega) with q | q
        · rw [q]; exact e
        · exact h2 i q h4
      · refine Or.inr ⟨by omega, h2, h3, fun i h5 h6 => ?_⟩
        rcases (show i = n - (d + 1) ∨ n - d ≤ i by omega) with q | q
        · rw [q]; exact e
        · exact h4 i q h6
    · rw [if_neg e]
      exact Or.inr ⟨Nat.le_refl _, by omega, e, fun i h1 h2 => by omega⟩
def elI (n : Nat) (M : Nat → Nat → Int) (p : Nat) (T : Nat → Nat → Int) (bef : Int) : Prop :=
  ∃ B : Nat → Nat → Int, CrV n B ∧ detD n B = bef ∧ bef ≠ 0 ∧ (∀ j, j < p → B j = colV M j) ∧ (∀ i c, i < n → c < n → (B i c).natAbs ≤ 9) ∧ (∀ i j, i < n → j < n + 1 → T i j = detD n (putV B i (colV M j)))
theorem el_0 (n : Nat) (M : Nat → Nat → Int) : elI n M 0 M 1 := by
  refine ⟨fun i => unV i, id_Cr n, id_det n, by decide, fun j hj => absurd hj (Nat.not_lt_zero j), fun i c _ _ => (by show (unV i c).natAbs ≤ 9; unfold unV; split <;> decide), fun i j hi hj => ?_⟩
  rw [dl_ev _ hi]
  unfold dotZ
  rw [sm_one (k := i) hi (fun c hc hne => by rw [id_dl hi hc, un_ne hne]; simp), id_dl hi hi, un_eq]
  show M i j = M i j * 1
  omega
/-- a row brought up -/
theorem el_swap {n : Nat} {M : Nat → Nat → Int} {p a : Nat} {T : Nat → Nat → Int} {bef : Int} (h : elI n M p T bef) (hp : p < n) (hpa : p ≤ a) (ha : a < n) : elI n M p (swM T a p) bef := by
  by_cases e : a = p
  · have : swM T a p = T := by funext i j; unfold swM; rw [if_pos e]
    rw [this]; exact h
  · obtain ⟨B, b1, b2, b3, b4, b5, b6⟩ := h
    have hne : p ≠ a := Ne.symm e
    refine ⟨exV B p a, ex_Cr b1 hp ha hne, by rw [ex_det hp ha hne]; exact b2, b3, fun j hj => ?_, fun i c hi hc => ?_, fun i j hi hj => ?_⟩
    · unfold exV; rw [putV_ne (by omega), putV_ne (by omega)]; exact b4 j hj
    · unfold exV
      by_cases q1 : i = a
      · rw [q1, putV_eq]
        show (-1 * B p c).natAbs ≤ 9
        have := b5 p c hp hc
        omega
      · rw [putV_ne q1]
        by_cases q2 : i = p
        · rw [q2, putV_eq]; exact b5 a c ha hc
        · rw [putV_ne q2]; exact b5 i c hi hc
    · unfold swM
      rw [if_neg e]
      by_cases q1 : i = a
      · rw [if_pos q1, q1, ex_a hp ha hne, b6 p j hp hj]
      · rw [if_neg q1]
        by_cases q2 : i = p
        · rw [if_pos q2, q2, ex_p hp ha hne, b6 a j ha hj]
        · rw [if_neg q2, ex_other hp ha hne q2 q1, b6 i j hi hj]
/-- a column cleared -/
theorem el_clear {n : Nat} {M : Nat → Nat → Int} {p : Nat} {T : Nat → Nat → Int} {bef : Int} (h : elI n M p T bef) (hp : p < n) (hM : ∀ i j, i < n → j < n → (M i j).natAbs ≤ 9) (hne : T p p ≠ 0) : elI n M (p + 1) (clM T p (T p p) bef) (T p p) := by
  obtain ⟨B, b1, b2, b3, b4, b5, b6⟩ := h
  have hpp := b6 p p hp (by omega)
  refine ⟨putV B p (colV M p), piv_Cr b1 hp (by rw [b2]; exact b3), hpp.symm, hne, fun j hj => ?_, fun i c hi hc => ?_, fun i j hi hj => ?_⟩
  · rcases (show j = p ∨ j < p by omega) with q | q
    · rw [q, putV_eq]
    · rw [putV_ne (by omega)]; exact b4 j q
  · by_cases q : i = p
    · rw [q, putV_eq]; exact hM c p hc hp
    · rw [putV_ne q]; exact b5 i c hi hc
  · unfold clM
    by_cases q : i = p
    · rw [if_pos q, q, putV_put]; exact b6 p j hp hj
    · rw [if_neg q]
      have h1 := piv_dot (w := colV M p) b1 hp hi q (colV M j)
      rw [← dl_ev _ hi, ← dl_ev _ hi, ← dl_ev _ hp, b2, ← hpp, ← b6 i j hi hj, ← b6 i p hi (by omega), ← b6 p j hp hj] at h1
      have h2 : T i j * T p p - T i p * T p j = bef * detD n (putV (putV B p (colV M p)) i (colV M j)) := by rw [h1]; grind
      rw [h2, Int.mul_tdiv_cancel_left _ b3]
/-- n conditions that leave nothing open do meet -/
theorem el_goes {n : Nat} {M : Nat → Nat → Int} (hM : ∀ i j, i < n → j < n → (M i j).natAbs ≤ 9) (hker : ∀ v : Nat → Int, (∀ i, i < n → sumZ (fun j => M i j * v j) n = 0) → ∀ j, j < n → v j = 0) : ∀ p, p ≤ n → ∃ T bef, elM n M p = some (T, bef) ∧ elI n M p T bef
  | 0, _ => ⟨M, 1, rfl, el_0 n M⟩
  | p + 1, hp => by
    obtain ⟨T, bef, h1, h2⟩ := el_goes hM hker p (by omega)
    rcases atN_spec (T := T) (p := p) (n := n) (d := n - p) (by omega) with ⟨q1, q2⟩ | ⟨q1, q2, q3, q4⟩
    · exfalso
      obtain ⟨B, b1, b2, b3, b4, b5, b6⟩ := h2
      have hz : ∀ m, p ≤ m → m < n → detD n (putV B m (colV M p)) = 0 := fun m m1 m2 => by rw [← b6 m p m2 (by omega)]; exact q2 m (by omega) m2
      have hv := hker (fun j => if j = p then bef else if j < p then -detD n (putV B j (colV M p)) else 0) (fun i hi => by
        have h3 := cr_put b1 (colV M p) hi
        rw [sm_ext (a := p) (by omega) (fun j j1 j2 => by rw [hz j j1 j2]; simp)] at h3
        have e1 : sumZ (fun j => M i j * (if j = p then bef else if j < p then -detD n (putV B j (colV M p)) else 0)) n = sumZ (fun j => M i j * (if j = p then bef else if j < p then -detD n (putV B j (colV M p)) else 0)) (p + 1) := sm_ext (by omega) (fun j j1 j2 => by rw [if_neg (by omega), if_neg (by omega)]; simp)
        rw [e1]
        show sumZ (fun j => M i j * (if j = p then bef else if j < p then -detD n (putV B j (colV M p)) else 0)) p + M i p * (if p = p then bef else if p < p then -detD n (putV B p (colV M p)) else 0) = 0
        rw [if_pos rfl]
        have e2 : sumZ (fun j => M i j * (if j = p then bef else if j < p then -detD n (putV B j (colV M p)) else 0)) p = -sumZ (fun m => detD n (putV B m (colV M p)) * B m i) p := by
          rw [← sm_neg]
          refine sm_cong (fun j hj => ?_)
          rw [if_neg (by omega), if_pos hj, b4 j hj]
          show M i j * -detD n (putV B j (colV M p)) = -(detD n (putV B j (colV M p)) * M i j)
          grind
        rw [e2, h3, b2]
        show -(bef * M i p) + M i p * bef = 0
        grind) p (by omega)
      have hv2 : (if p = p then bef else if p < p then -detD n (putV B p (colV M p)) else 0) = 0 := hv
      rw [if_pos rfl] at hv2
      exact b3 hv2
    · have hsw := el_swap h2 (show p < n by omega) (show p ≤ atN T p n (n - p) by omega) q2
      have hne : swM T (atN T p n (n - p)) p p p ≠ 0 := by
        unfold swM
        by_cases e : atN T p n (n - p) = p
        · rw [if_pos e]; rw [e] at q3; exact q3
        · rw [if_neg e, if_neg (Ne.symm e), if_pos rfl]; exact q3
      refine ⟨_, _, ?_, el_clear hsw (by omega) hM hne⟩
      show (match elM n M p with | none => none | some (T, bef) => if atN T p n (n - p) = n then none else some (clM (swM T (atN T p n (n - p)) p) p (swM T (atN T p n (n - p)) p p p) bef, swM T (atN T p n (n - p)) p p p)) = _
      rw [h1]
      show (if atN T p n (n - p) = n then none else _) = _
      rw [if_neg (by omega)]
theorem bdN_mono {M : Nat} (hM : 1 ≤ M) : ∀ {a b : Nat}, a ≤ b → bdN M a ≤ bdN M b
  | a, 0, h => by rw [show a = 0 by omega]; exact Nat.le_refl _
  | a, b + 1, h => by
    rcases (show a = b + 1 ∨ a ≤ b by omega) with e | e
    · rw [e]; exact Nat.le_refl _
    · have ih := bdN_mono hM e
      show bdN M a ≤ (b + 1) * (M * bdN M b)
      have h1 : 1 * bdN M b ≤ M * bdN M b := Nat.mul_le_mul hM (Nat.le_refl _)
      have h2 : 1 * (M * bdN M b) ≤ (b + 1) * (M * bdN M b) := Nat.mul_le_mul (by omega) (Nat.le_refl _)
      omega
/-- how large the rows get -/
theorem el_bnd {n : Nat} (hn : n ≤ 5) {M : Nat → Nat → Int} (hM : ∀ i j, i < n → j < n → (M i j).natAbs ≤ 9) (hN : ∀ i, i < n → (M i n).natAbs ≤ 2000) {p : Nat} {T : Nat → Nat → Int} {bef : Int} (h : elI n M p T bef) : (∀ i j, i < n → j < n → (T i j).natAbs ≤ 7085880) ∧ (∀ i, i < n → (T i n).natAbs ≤ 70858800000) ∧ bef.natAbs ≤ 7085880 ∧ bef ≠ 0 := by
  obtain ⟨B, b1, b2, b3, b4, b5, b6⟩ := h
  have hb5 : bdN 9 n ≤ 7085880 := Nat.le_trans (bdN_mono (by decide) hn) (by decide)
  have hput : ∀ i (w : Nat → Int), i < n → (∀ c, c < n → (w c).natAbs ≤ 9) → (detD n (putV B i w)).natAbs ≤ 7085880 := by
    intro i w hi hw
    refine Nat.le_trans (det_bnd (M := 9) (fun a b ha hb => ?_)) hb5
    by_cases e : a = i
    · rw [e, putV_eq]; exact hw b hb
    · rw [putV_ne e]; exact b5 a b ha hb
  refine ⟨fun i j hi hj => ?_, fun i hi => ?_, ?_, b3⟩
  · rw [b6 i j hi (by omega)]
    exact hput i _ hi (fun c hc => hM c j hc hj)
  · rw [b6 i n hi (by omega), dl_ev _ hi]
    unfold dotZ
    refine Nat.le_trans (sm_abs (K := 14171760000) (fun c hc => ?_)) (by omega)
    rw [Int.natAbs_mul]
    have h1 := hN c hc
    have h2 : (dlV n B i c).natAbs ≤ 7085880 := hput i (unV c) hi (fun x _ => by unfold unV; split <;> decide)
    exact Nat.le_trans (Nat.mul_le_mul h1 h2) (by decide)
  · rw [← b2]
    exact Nat.le_trans (det_bnd (M := 9) (fun a b ha hb => b5 a b ha hb)) hb5
theorem el_end {n : Nat} {M : Nat → Nat → Int} {T : Nat → Nat → Int} {bef : Int} (h : elI n M n T bef) {r : Nat} (hr : r < n) : sumZ (fun m => M r m * T m n) n = M r n * bef := by
  obtain ⟨B, b1, b2, b3, b4, b5, b6⟩ := h
  have h1 := cr_put b1 (colV M n) hr
  have e : sumZ (fun m => detD n (putV B m (colV M n)) * B m r) n = sumZ (fun m => M r m * T m n) n := by
    refine sm_cong (fun m hm => ?_)
    rw [b6 m n hm (by omega), b4 m hm, Int.mul_comm]; rfl
  rw [← e, h1, b2, Int.mul_comm]; rfl
/-- whatever they come to, the rows stay as they should until they fail -/
theorem el_keeps {n : Nat} {M : Nat → Nat → Int} (hM : ∀ i j, i < n → j < n → (M i j).natAbs ≤ 9) : ∀ p, p ≤ n → ∀ {T bef}, elM n M p = some (T, bef) → elI n M p T bef
  | 0, _, T, bef, h => by
    have h2 : (M, (1 : Int)) = (T, bef) := Option.some.inj h
    cases h2
    exact el_0 n M
  | p + 1, hp, T', bef', h => by
    have h0 : (match elM n M p with | none => none | some (T, bef) => if atN T p n (n - p) = n then none else some (clM (swM T (atN T p n (n - p)) p) p (swM T (atN T p n (n - p)) p p p) bef, swM T (atN T p n (n - p)) p p p)) = some (T', bef') := h
    rcases he : elM n M p with _ | ⟨T, bef⟩
    · rw [he] at h0; cases h0
    · rw [he] at h0
      have h1 : (if atN T p n (n - p) = n then none else some (clM (swM T (atN T p n (n - p)) p) p (swM T (atN T p n (n - p)) p p p) bef, swM T (atN T p n (n - p)) p p p)) = some (T', bef') := h0
      have h2 := el_keeps hM p (by omega) he
      rcases atN_spec (T := T) (p := p) (n := n) (d := n - p) (by omega) with ⟨q1, q2⟩ | ⟨q1, q2, q3, q4⟩
      · rw [if_pos q1] at h1; cases h1
      · rw [if_neg (by omega)] at h1
        have h3 := Option.some.inj h1
        cases h3
        have hsw := el_swap h2 (show p < n by omega) (show p ≤ atN T p n (n - p) by omega) q2
        have hne : swM T (atN T p n (n - p)) p p p ≠ 0 := by
          unfold swM
          by_cases e : atN T p n (n - p) = p
          · rw [if_pos e]; rw [e] at q3; exact q3
          · rw [if_neg e, if_neg (Ne.symm e), if_pos rfl]; exact q3
        exact el_clear hsw (by omega) hM hne
