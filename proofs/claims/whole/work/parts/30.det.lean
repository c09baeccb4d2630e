-- ===== sums =====
theorem sm_cong {f g : Nat → Int} : ∀ {n : Nat}, (∀ j, j < n → f j = g j) → sumZ f n = sumZ g n
  | 0, _ => rfl
  | n + 1, h => by
    show sumZ f n + f n = sumZ g n + g n
    rw [sm_cong (fun j hj => h j (by omega)), h n (by omega)]
theorem sm_add (f g : Nat → Int) : ∀ n, sumZ (fun j => f j + g j) n = sumZ f n + sumZ g n
  | 0 => rfl
  | n + 1 => by
    show sumZ (fun j => f j + g j) n + (f n + g n) = (sumZ f n + f n) + (sumZ g n + g n)
    rw [sm_add f g n]; omega
theorem sm_mul (a : Int) (f : Nat → Int) : ∀ n, sumZ (fun j => a * f j) n = a * sumZ f n
  | 0 => (Int.mul_zero a).symm
  | n + 1 => by
    show sumZ (fun j => a * f j) n + a * f n = a * (sumZ f n + f n)
    rw [sm_mul a f n, Int.mul_add]
theorem sm_mulr (a : Int) (f : Nat → Int) (n : Nat) : sumZ (fun j => f j * a) n = sumZ f n * a := by
  rw [Int.mul_comm, ← sm_mul]
  exact sm_cong (fun j _ => Int.mul_comm _ _)
theorem sm_lin (a b : Int) (f g : Nat → Int) (n : Nat) : sumZ (fun j => a * f j + b * g j) n = a * sumZ f n + b * sumZ g n := by
  rw [sm_add, sm_mul, sm_mul]
theorem sm_z {f : Nat → Int} : ∀ {n : Nat}, (∀ j, j < n → f j = 0) → sumZ f n = 0
  | 0, _ => rfl
  | n + 1, h => by
    show sumZ f n + f n = 0
    rw [sm_z (fun j hj => h j (by omega)), h n (by omega)]; rfl
theorem sm_one {f : Nat → Int} {k : Nat} : ∀ {n : Nat}, k < n → (∀ j, j < n → j ≠ k → f j = 0) → sumZ f n = f k
  | 0, h, _ => absurd h (Nat.not_lt_zero k)
  | n + 1, h, hz => by
    show sumZ f n + f n = f k
    by_cases e : k = n
    · subst e
      rw [sm_z (fun j hj => hz j (by omega) (by omega))]; omega
    · rw [sm_one (show k < n by omega) (fun j hj h2 => hz j (by omega) h2), hz n (by omega) (by omega)]; omega
theorem sm_split {f : Nat → Int} {k n : Nat} (hk : k < n) : sumZ f n = f k + sumZ (fun j => if j = k then 0 else f j) n := by
  have h1 : sumZ f n = sumZ (fun j => (if j = k then f k else 0) + (if j = k then 0 else f j)) n := sm_cong (fun j _ => by
    by_cases e : j = k
    · subst e; simp
    · simp [e])
  rw [h1, sm_add, sm_one hk (fun j _ h => by simp [h])]
  simp
theorem sm_two {f : Nat → Int} {a b n : Nat} (hab : a ≠ b) (ha : a < n) (hb : b < n) (hz : ∀ j, j < n → j ≠ a → j ≠ b → f j = 0) : sumZ f n = f a + f b := by
  rw [sm_split ha, sm_one (f := fun j => if j = a then 0 else f j) hb (fun j hj h => by
    by_cases e : j = a
    · simp [e]
    · simp [e]; exact hz j hj e h)]
  simp [Ne.symm hab]
theorem sm_swap (f : Nat → Nat → Int) : ∀ n m, sumZ (fun i => sumZ (fun j => f i j) m) n = sumZ (fun j => sumZ (fun i => f i j) n) m
  | 0, m => (sm_z (fun _ _ => rfl)).symm
  | n + 1, m => by
    show sumZ (fun i => sumZ (fun j => f i j) m) n + sumZ (fun j => f n j) m = sumZ (fun j => sumZ (fun i => f i j) n + f n j) m
    rw [sm_swap f n m, sm_add]
theorem sm_abs {f : Nat → Int} {K : Nat} : ∀ {n : Nat}, (∀ j, j < n → (f j).natAbs ≤ K) → (sumZ f n).natAbs ≤ n * K
  | 0, _ => by simp [sumZ]
  | n + 1, h => by
    have h1 := sm_abs (n := n) (fun j hj => h j (by omega))
    have h2 := h n (by omega)
    show (sumZ f n + f n).natAbs ≤ (n + 1) * K
    rw [Nat.succ_mul]
    omega
-- ===== an alternating function of n vectors, linear in each: Laplace along coordinate 0 =====
def sgZ (i : Nat) : Int := if i % 2 = 0 then 1 else -1
def minV (i : Nat) (w : Nat → Nat → Int) : Nat → Nat → Int := fun a b => w (if a < i then a else a + 1) (b + 1)
def detD : Nat → (Nat → Nat → Int) → Int
  | 0, _ => 1
  | n + 1, w => sumZ (fun i => sgZ i * w i 0 * detD n (minV i w)) (n + 1)
/-- slot k replaced -/
def putV (w : Nat → Nat → Int) (k : Nat) (u : Nat → Int) : Nat → Nat → Int := fun a => if a = k then u else w a
def unV (c : Nat) : Nat → Int := fun x => if x = c then 1 else 0
theorem putV_eq {w : Nat → Nat → Int} {k : Nat} {u : Nat → Int} : putV w k u k = u := by simp [putV]
theorem putV_ne {w : Nat → Nat → Int} {k a : Nat} {u : Nat → Int} (h : a ≠ k) : putV w k u a = w a := by simp [putV, h]
theorem putV_put {w : Nat → Nat → Int} {k : Nat} {u v : Nat → Int} : putV (putV w k u) k v = putV w k v := by
  funext a; by_cases h : a = k
  · subst h; rw [putV_eq, putV_eq]
  · rw [putV_ne h, putV_ne h, putV_ne h]
theorem putV_comm {w : Nat → Nat → Int} {k j : Nat} {u v : Nat → Int} (h : k ≠ j) : putV (putV w k u) j v = putV (putV w j v) k u := by
  funext a
  by_cases h1 : a = k
  · subst h1; rw [putV_ne h, putV_eq, putV_eq]
  · by_cases h2 : a = j
    · subst h2; rw [putV_eq, putV_ne h1, putV_eq]
    · rw [putV_ne h2, putV_ne h1, putV_ne h1, putV_ne h2]
theorem putV_self {w : Nat → Nat → Int} {k : Nat} : putV w k (w k) = w := by
  funext a; by_cases h : a = k
  · subst h; rw [putV_eq]
  · rw [putV_ne h]
theorem sgZ_succ (i : Nat) : sgZ (i + 1) = -sgZ i := by
  unfold sgZ; split <;> split <;> first | rfl | omega
theorem sgZ_or (i : Nat) : sgZ i = 1 ∨ sgZ i = -1 := by unfold sgZ; split <;> simp
/-- only the slots below n, and the coordinates below n, matter -/
theorem det_cong : ∀ {n : Nat} {w v : Nat → Nat → Int}, (∀ a b, a < n → b < n → w a b = v a b) → detD n w = detD n v
  | 0, _, _, _ => rfl
  | n + 1, w, v, h => by
    unfold detD
    refine sm_cong (fun i hi => ?_)
    rw [h i 0 hi (by omega), det_cong (w := minV i w) (v := minV i v) (fun a b ha hb => ?_)]
    unfold minV
    split
    · exact h _ _ (by omega) (by omega)
    · exact h _ _ (by omega) (by omega)
theorem min_put_eq (w : Nat → Nat → Int) (k : Nat) (u : Nat → Int) : minV k (putV w k u) = minV k w := by
  funext a b
  unfold minV putV
  by_cases h : a < k
  · rw [if_pos h, if_neg (by omega)]
  · rw [if_neg h, if_neg (by omega)]
theorem min_put_lt {w : Nat → Nat → Int} {i k : Nat} {u : Nat → Int} (h : k < i) : minV i (putV w k u) = putV (minV i w) k (fun b => u (b + 1)) := by
  funext a b
  unfold minV putV
  by_cases e : a = k
  · subst e; rw [if_pos h]; simp
  · rw [if_neg e]
    by_cases e2 : a < i
    · rw [if_pos e2, if_neg e]; show _ = w (if a < i then a else a + 1) (b + 1); rw [if_pos e2]
    · rw [if_neg e2, if_neg (by omega)]; show _ = w (if a < i then a else a + 1) (b + 1); rw [if_neg e2]
theorem min_put_gt {w : Nat → Nat → Int} {i k : Nat} {u : Nat → Int} (h : i < k) : minV i (putV w k u) = putV (minV i w) (k - 1) (fun b => u (b + 1)) := by
  funext a b
  unfold minV putV
  by_cases e : a = k - 1
  · subst e; rw [if_neg (show ¬ k - 1 < i by omega), if_pos (show k - 1 + 1 = k by omega), if_pos rfl]
  · rw [if_neg e]
    by_cases e2 : a < i
    · rw [if_pos e2, if_neg (by omega)]; show _ = w (if a < i then a else a + 1) (b + 1); rw [if_pos e2]
    · rw [if_neg e2, if_neg (by omega)]; show _ = w (if a < i then a else a + 1) (b + 1); rw [if_neg e2]
theorem lin3 (s x a b p q : Int) : s * x * (a * p + b * q) = a * (s * x * p) + b * (s * x * q) := by grind
theorem lin3' (s p a b x y : Int) : s * (a * x + b * y) * p = a * (s * x * p) + b * (s * y * p) := by grind
/-- linear in each slot -/
theorem det_lin (a b : Int) : ∀ {n : Nat} (w : Nat → Nat → Int) {k : Nat} (u v : Nat → Int), k < n → detD n (putV w k (fun c => a * u c + b * v c)) = a * detD n (putV w k u) + b * detD n (putV w k v)
  | 0, _, k, _, _, h => absurd h (Nat.not_lt_zero k)
  | n + 1, w, k, u, v, h => by
    unfold detD
    rw [← sm_lin]
    refine sm_cong (fun i hi => ?_)
    rcases Nat.lt_trichotomy i k with e | e | e
    · rw [min_put_gt e, min_put_gt e, min_put_gt e]
      have ih := det_lin a b (minV i w) (k := k - 1) (fun c => u (c + 1)) (fun c => v (c + 1)) (show k - 1 < n by omega)
      rw [putV_ne (by omega), putV_ne (by omega), putV_ne (by omega), ih]
      exact lin3 _ _ _ _ _ _
    · subst e
      rw [min_put_eq, min_put_eq, min_put_eq, putV_eq, putV_eq, putV_eq]
      exact lin3' _ _ _ _ _ _
    · rw [min_put_lt e, min_put_lt e, min_put_lt e]
      have ih := det_lin a b (minV i w) (k := k) (fun c => u (c + 1)) (fun c => v (c + 1)) (show k < n by omega)
      rw [putV_ne (by omega), putV_ne (by omega), putV_ne (by omega), ih]
      exact lin3 _ _ _ _ _ _
theorem det_zero {n : Nat} (w : Nat → Nat → Int) {k : Nat} (h : k < n) : detD n (putV w k (fun _ => 0)) = 0 := by
  have := det_lin 0 0 w (fun _ => 0) (fun _ => 0) h
  simpa using this
theorem det_mul {n : Nat} (a : Int) (w : Nat → Nat → Int) {k : Nat} (u : Nat → Int) (h : k < n) : detD n (putV w k (fun c => a * u c)) = a * detD n (putV w k u) := by
  have := det_lin a 0 w u u h
  simpa using this
theorem det_sum {n : Nat} (w : Nat → Nat → Int) {k : Nat} (h : k < n) (a : Nat → Int) (v : Nat → Nat → Int) : ∀ M, detD n (putV w k (fun c => sumZ (fun m => a m * v m c) M)) = sumZ (fun m => a m * detD n (putV w k (v m))) M
  | 0 => det_zero w h
  | M + 1 => by
    show detD n (putV w k (fun c => sumZ (fun m => a m * v m c) M + a M * v M c)) = sumZ (fun m => a m * detD n (putV w k (v m))) M + a M * detD n (putV w k (v M))
    have := det_lin 1 (a M) w (fun c => sumZ (fun m => a m * v m c) M) (v M) h
    simp only [Int.one_mul] at this
    rw [this, det_sum w h a v M]
/-- two neighbours alike -/
theorem det_adj : ∀ {n : Nat} {w : Nat → Nat → Int} {a : Nat}, a + 1 < n → w a = w (a + 1) → detD n w = 0
  | 0, _, _, h, _ => absurd h (Nat.not_lt_zero _)
  | n + 1, w, a, h, e => by
    unfold detD
    rw [sm_two (a := a) (b := a + 1) (by omega) (by omega) (by omega) (fun i hi h1 h2 => ?_)]
    · have hm : minV a w = minV (a + 1) w := by
        funext r b
        unfold minV
        rcases Nat.lt_trichotomy r a with q | q | q
        · rw [if_pos q, if_pos (by omega)]
        · subst q; rw [if_neg (by omega), if_pos (by omega), e]
        · rw [if_neg (by omega), if_neg (by omega)]
      rw [hm, e, sgZ_succ]
      grind
    · rcases (show i < a ∨ a + 1 < i by omega) with q | q
      · rw [det_adj (w := minV i w) (a := a - 1) (by omega) ?_]
        · simp
        · funext b
          unfold minV
          rw [if_neg (by omega), if_neg (by omega), show a - 1 + 1 = a by omega, e]
      · rw [det_adj (w := minV i w) (a := a) (by omega) ?_]
        · simp
        · funext b
          unfold minV
          rw [if_pos (by omega), if_pos (by omega), e]
theorem det_anti0 {n : Nat} {w : Nat → Nat → Int} {a b : Nat} (hab : a ≠ b) (ha : a < n) (hb : b < n) (hz : ∀ x, detD n (putV (putV w a x) b x) = 0) (x y : Nat → Int) : detD n (putV (putV w a x) b y) = -detD n (putV (putV w a y) b x) := by
  have h0 := hz (fun c => 1 * x c + 1 * y c)
  rw [det_lin 1 1 _ x y hb, putV_comm hab, det_lin 1 1 _ x y ha, putV_comm hab, det_lin 1 1 _ x y ha] at h0
  rw [putV_comm (Ne.symm hab), putV_comm (Ne.symm hab), putV_comm (Ne.symm hab), putV_comm (Ne.symm hab)] at h0
  have hx := hz x
  have hy := hz y
  omega
theorem det_eq0 : ∀ (d : Nat) {n : Nat} {w : Nat → Nat → Int} {a : Nat}, a + 1 + d < n → w a = w (a + 1 + d) → detD n w = 0
  | 0, n, w, a, h, e => det_adj h e
  | d + 1, n, w, a, h, e => by
    have h1 : detD n (putV (putV w (a + 1 + d) (w (a + 1 + d))) (a + 1 + d + 1) (w (a + 1 + d + 1))) = -detD n (putV (putV w (a + 1 + d) (w (a + 1 + d + 1))) (a + 1 + d + 1) (w (a + 1 + d))) :=
      det_anti0 (by omega) (by omega) (by omega) (fun x => det_adj (a := a + 1 + d) (by omega) (by rw [putV_ne (by omega), putV_eq, putV_eq])) _ _
    rw [putV_self, putV_self] at h1
    rw [h1, det_eq0 d (w := putV (putV w (a + 1 + d) (w (a + 1 + d + 1))) (a + 1 + d + 1) (w (a + 1 + d))) (a := a) (by omega) ?_]
    · rfl
    · rw [putV_ne (by omega), putV_ne (by omega), putV_ne (by omega), putV_eq, e]; rfl
theorem det_same {n : Nat} {w : Nat → Nat → Int} {a b : Nat} (hab : a ≠ b) (ha : a < n) (hb : b < n) (e : w a = w b) : detD n w = 0 := by
  rcases Nat.lt_or_gt_of_ne hab with q | q
  · exact det_eq0 (b - a - 1) (a := a) (by omega) (by rw [show a + 1 + (b - a - 1) = b by omega]; exact e)
  · exact det_eq0 (a - b - 1) (a := b) (by omega) (by rw [show b + 1 + (a - b - 1) = a by omega]; exact e.symm)
theorem det_anti {n : Nat} {w : Nat → Nat → Int} {a b : Nat} (hab : a ≠ b) (ha : a < n) (hb : b < n) (x y : Nat → Int) : detD n (putV (putV w a x) b y) = -detD n (putV (putV w a y) b x) :=
  det_anti0 hab ha hb (fun x => det_same hab ha hb (by rw [putV_ne hab, putV_eq, putV_eq])) x y
-- ===== slots against coordinates =====
/-- the vector d_m: what the m-th slot's coefficient is, by coordinate -/
def dlV (n : Nat) (B : Nat → Nat → Int) (m : Nat) : Nat → Int := fun c => detD n (putV B m (unV c))
def dotZ (n : Nat) (f y : Nat → Int) : Int := sumZ (fun c => f c * y c) n
theorem dl_ev {n : Nat} (B : Nat → Nat → Int) {m : Nat} (hm : m < n) (f : Nat → Int) : detD n (putV B m f) = dotZ n f (dlV n B m) := by
  unfold dotZ dlV
  rw [← det_sum B hm f unV n]
  refine det_cong (fun a b _ hb => ?_)
  by_cases e : a = m
  · subst e
    rw [putV_eq, putV_eq, sm_one hb (fun j _ hj => by unfold unV; rw [if_neg (Ne.symm hj)]; simp)]
    simp [unV]
  · rw [putV_ne e, putV_ne e]
theorem dl_self {n : Nat} (B : Nat → Nat → Int) {m : Nat} (hm : m < n) : dotZ n (B m) (dlV n B m) = detD n B := by
  rw [← dl_ev B hm, putV_self]
theorem dl_other {n : Nat} (B : Nat → Nat → Int) {m j : Nat} (hm : m < n) (hj : j < n) (h : m ≠ j) : dotZ n (B j) (dlV n B m) = 0 := by
  rw [← dl_ev B hm]
  exact det_same (a := m) (b := j) h hm hj (by rw [putV_eq, putV_ne (Ne.symm h)])
/-- what stands in the slots tells every vector -/
def CrV (n : Nat) (B : Nat → Nat → Int) : Prop := ∀ c, c < n → ∀ x, x < n → detD n B * unV c x = sumZ (fun m => dlV n B m c * B m x) n
theorem piv_k {n : Nat} {B : Nat → Nat → Int} {k : Nat} {w : Nat → Int} : dlV n (putV B k w) k = dlV n B k := by
  funext c; unfold dlV; rw [putV_put]
theorem piv_j {n : Nat} {B : Nat → Nat → Int} {k j c : Nat} {w : Nat → Int} (hC : CrV n B) (hk : k < n) (hj : j < n) (hjk : j ≠ k) (hc : c < n) :
    detD n B * dlV n (putV B k w) j c = detD n (putV B k w) * dlV n B j c - detD n (putV B j w) * dlV n B k c := by
  have h1 : detD n (putV (putV B k w) j (fun x => detD n B * unV c x)) = detD n B * dlV n (putV B k w) j c := det_mul _ _ _ hj
  have h2 : detD n (putV (putV B k w) j (fun x => detD n B * unV c x)) = detD n (putV (putV B k w) j (fun x => sumZ (fun m => dlV n B m c * B m x) n)) := by
    refine det_cong (fun a b _ hb => ?_)
    by_cases e : a = j
    · subst e; rw [putV_eq, putV_eq]; exact hC c hc b hb
    · rw [putV_ne e, putV_ne e]
  rw [← h1, h2, det_sum _ hj, sm_two (a := j) (b := k) hjk hj hk (fun m hm h3 h4 => ?_)]
  · rw [show putV (putV B k w) j (B j) = putV B k w by rw [← putV_ne (w := B) (k := k) (u := w) hjk]; exact putV_self]
    rw [det_anti (Ne.symm hjk) hk hj w (B k), putV_self]
    grind
  · rw [det_same (a := m) (b := j) h3 hm hj (by rw [putV_eq, putV_ne h3, putV_ne h4])]
    simp
theorem piv_Cr {n : Nat} {B : Nat → Nat → Int} {k : Nat} {w : Nat → Int} (hC : CrV n B) (hk : k < n) (h0 : detD n B ≠ 0) : CrV n (putV B k w) := by
  intro c hc x hx
  refine Int.eq_of_mul_eq_mul_left h0 ?_
  rw [← sm_mul]
  have h1 : sumZ (fun m => detD n B * (dlV n (putV B k w) m c * putV B k w m x)) n = sumZ (fun m => (detD n (putV B k w) * (dlV n B m c * B m x) + (-dlV n B k c) * (detD n (putV B m w) * B m x)) + (if m = k then detD n B * (dlV n B k c * w x) else 0)) n := by
    refine sm_cong (fun m hm => ?_)
    by_cases e : m = k
    · subst e
      rw [piv_k, putV_eq, if_pos rfl]
      grind
    · rw [putV_ne e, if_neg e]
      have := piv_j (w := w) hC hk hm e hc
      grind
  rw [h1, sm_add, sm_lin, ← hC c hc x hx, sm_one hk (fun j _ hj => if_neg hj), if_pos rfl]
  have h2 : sumZ (fun m => detD n (putV B m w) * B m x) n = detD n B * w x := by
    have h3 : sumZ (fun m => detD n (putV B m w) * B m x) n = sumZ (fun m => sumZ (fun c' => w c' * (dlV n B m c' * B m x)) n) n := by
      refine sm_cong (fun m hm => ?_)
      rw [dl_ev B hm]
      unfold dotZ
      rw [← sm_mulr]
      exact sm_cong (fun j _ => by grind)
    rw [h3, sm_swap]
    have h4 : sumZ (fun j => sumZ (fun i => w j * (dlV n B i j * B i x)) n) n = sumZ (fun j => w j * (detD n B * unV j x)) n := by
      refine sm_cong (fun j hj => ?_)
      rw [sm_mul, ← hC j hj x hx]
    rw [h4, sm_one hx (fun j _ hj => by unfold unV; rw [if_neg (Ne.symm hj)]; simp)]
    unfold unV
    rw [if_pos rfl]
    grind
  rw [h2]
  grind
/-- what the slots tell a vector, by its dots -/
theorem cr_vec {n : Nat} {B : Nat → Nat → Int} (hC : CrV n B) (y : Nat → Int) {c : Nat} (hc : c < n) : detD n B * y c = sumZ (fun m => dotZ n (B m) y * dlV n B m c) n := by
  have h1 : sumZ (fun m => dotZ n (B m) y * dlV n B m c) n = sumZ (fun m => sumZ (fun x => y x * (dlV n B m c * B m x)) n) n := by
    refine sm_cong (fun m _ => ?_)
    unfold dotZ
    rw [← sm_mulr]
    exact sm_cong (fun j _ => by grind)
  rw [h1, sm_swap]
  have h2 : sumZ (fun j => sumZ (fun i => y j * (dlV n B i c * B i j)) n) n = sumZ (fun j => y j * (detD n B * unV c j)) n := by
    refine sm_cong (fun j hj => ?_)
    rw [sm_mul, ← hC c hc j hj]
  rw [h2, sm_one hc (fun j _ hj => by unfold unV; rw [if_neg hj]; simp)]
  unfold unV
  rw [if_pos rfl]
  grind
theorem dot_cr {n : Nat} {B : Nat → Nat → Int} (hC : CrV n B) (f y : Nat → Int) : detD n B * dotZ n f y = sumZ (fun m => dotZ n (B m) y * dotZ n f (dlV n B m)) n := by
  have h1 : sumZ (fun m => dotZ n (B m) y * dotZ n f (dlV n B m)) n = sumZ (fun m => sumZ (fun c => f c * (dotZ n (B m) y * dlV n B m c)) n) n := by
    refine sm_cong (fun m _ => ?_)
    rw [show dotZ n f (dlV n B m) = sumZ (fun c => f c * dlV n B m c) n from rfl, ← sm_mul]
    exact sm_cong (fun j _ => by grind)
  rw [h1, sm_swap]
  unfold dotZ
  rw [← sm_mul]
  refine sm_cong (fun c hc => ?_)
  rw [sm_mul]
  have := cr_vec hC y hc
  unfold dotZ at this
  rw [← this]
  grind
