-- ===== the first slots =====
theorem sm_shift (g : Nat → Int) : ∀ n, sumZ g (n + 1) = g 0 + sumZ (fun c => g (1 + c)) n
  | 0 => by show (0 : Int) + g 0 = g 0 + 0; omega
  | n + 1 => by
    show sumZ g (n + 1) + g (n + 1) = g 0 + (sumZ (fun c => g (1 + c)) n + g (1 + n))
    rw [sm_shift g n, show 1 + n = n + 1 by omega]; omega
theorem cr_of_inv {n : Nat} {B Dm : Nat → Nat → Int} (h : ∀ c, c < n → ∀ x, x < n → unV c x = sumZ (fun m => Dm m c * B m x) n) :
    (∀ m c, m < n → c < n → dlV n B m c = Dm m c * detD n B) ∧ CrV n B := by
  have h1 : ∀ m c, m < n → c < n → dlV n B m c = Dm m c * detD n B := by
    intro m c hm hc
    unfold dlV
    have e : detD n (putV B m (unV c)) = detD n (putV B m (fun x => sumZ (fun m' => Dm m' c * B m' x) n)) := by
      refine det_cong (fun a b _ hb => ?_)
      by_cases e : a = m
      · subst e; rw [putV_eq, putV_eq]; exact h c hc b hb
      · rw [putV_ne e, putV_ne e]
    rw [e, det_sum B hm (fun m' => Dm m' c) B n, sm_one hm (fun j hj hne => ?_), putV_self]
    rw [det_same (a := m) (b := j) (Ne.symm hne) hm hj (by rw [putV_eq, putV_ne hne])]; simp
  refine ⟨h1, fun c hc x hx => ?_⟩
  rw [h c hc x hx, ← sm_mul]
  exact sm_cong (fun m hm => by rw [h1 m c hm hc]; grind)
abbrev wyC (co hi : Nat → Int) (c : Nat) : Int := wayZ (co c) (hi c)
abbrev stC (co lo hi : Nat → Int) (c : Nat) : Int := startZ (co c) (lo c) (hi c)
theorem wyC_or (co hi : Nat → Int) (c : Nat) : wyC co hi c = 1 ∨ wyC co hi c = -1 := by unfold wyC wayZ; split <;> simp
def dmV (nc : Nat) (co lo hi : Nat → Int) (j : Nat) : Nat → Int := fun x => if j = 5 then (if x = 0 then 1 else if x ≤ nc then stC co lo hi (x - 1) else 0) else if x = 1 + j then (if j < nc then wyC co hi j else 1) else 0
def b0V (nc : Nat) (co lo hi : Nat → Int) (j : Nat) : Nat → Int := if j < nc then (fun x => if x = 1 + j then wyC co hi j else if x = 0 then -(wyC co hi j * stC co lo hi j) else 0) else if j < 5 then unV (1 + j) else unV 0
def eV (j : Nat) : Nat → Int := if j < 5 then unV (1 + j) else unV 0
theorem b0_in {nc : Nat} {co lo hi : Nat → Int} {j : Nat} (h : j < nc) (x : Nat) : b0V nc co lo hi j x = if x = 1 + j then wyC co hi j else if x = 0 then -(wyC co hi j * stC co lo hi j) else 0 := by
  unfold b0V; rw [if_pos h]
theorem b0_5 {nc : Nat} (hnc : nc ≤ 5) {co lo hi : Nat → Int} : b0V nc co lo hi 5 = unV 0 := by
  unfold b0V; rw [if_neg (by omega), if_neg (by omega)]
theorem eV_in {j : Nat} (h : j < 5) : eV j = unV (1 + j) := by unfold eV; rw [if_pos h]
theorem eV_5 : eV 5 = unV 0 := by unfold eV; rw [if_neg (by omega)]
theorem eV_det : detD 6 eV = -1 := by decide +kernel
theorem b0_inv {nc : Nat} (hnc : nc ≤ 5) (co lo hi : Nat → Int) : ∀ c, c < 6 → ∀ x, x < 6 → unV c x = sumZ (fun m => dmV nc co lo hi m c * b0V nc co lo hi m x) 6 := by
  intro c hc x hx
  rcases (show c = 0 ∨ ∃ a, c = 1 + a by rcases c with _ | c; exact Or.inl rfl; exact Or.inr ⟨c, by omega⟩) with e | ⟨a, e⟩
  · subst e
    rw [sm_one (k := 5) (by omega) (fun m hm hne => by unfold dmV; rw [if_neg hne, if_neg (by omega)]; simp)]
    unfold dmV b0V
    rw [if_pos rfl, if_pos rfl, if_neg (by omega), if_neg (by omega)]; simp
  · subst e
    rcases (show a < nc ∨ nc ≤ a by omega) with q | q
    · rw [sm_two (a := a) (b := 5) (by omega) (by omega) (by omega) (fun m hm h1 h2 => by unfold dmV; rw [if_neg h2, if_neg (by omega)]; simp)]
      have e1 : dmV nc co lo hi a (1 + a) = wyC co hi a := by unfold dmV; rw [if_neg (by omega), if_pos rfl, if_pos q]
      have e2 : dmV nc co lo hi 5 (1 + a) = stC co lo hi a := by unfold dmV; rw [if_pos rfl, if_neg (by omega), if_pos (by omega), show 1 + a - 1 = a by omega]
      rw [e1, e2, b0_5 hnc, b0_in q]
      unfold unV
      by_cases h1 : x = 1 + a
      · rw [if_pos h1, if_pos h1, if_neg (by omega)]
        rcases wyC_or co hi a with e | e <;> rw [e] <;> simp
      · rw [if_neg h1, if_neg h1]
        by_cases h2 : x = 0
        · rw [if_pos h2, if_pos h2]
          rcases wyC_or co hi a with e | e <;> rw [e] <;> simp <;> omega
        · rw [if_neg h2, if_neg h2]; simp
    · rw [sm_one (k := a) (by omega) (fun m hm hne => by
        unfold dmV
        by_cases h5 : m = 5
        · rw [if_pos h5, if_neg (by omega), if_neg (by omega)]; simp
        · rw [if_neg h5, if_neg (by omega)]; simp)]
      unfold dmV b0V
      rw [if_neg (by omega), if_pos rfl, if_neg (by omega), if_neg (by omega), if_pos (by omega)]; simp
theorem b0_det {nc : Nat} (hnc : nc ≤ 5) (co lo hi : Nat → Int) : detD 6 (b0V nc co lo hi) = 1 ∨ detD 6 (b0V nc co lo hi) = -1 := by
  have key : ∀ t, t ≤ nc → detD 6 (fun j => if j < t then b0V nc co lo hi j else eV j) = 1 ∨ detD 6 (fun j => if j < t then b0V nc co lo hi j else eV j) = -1 := by
    intro t
    induction t with
    | zero =>
      intro _
      right
      rw [← eV_det]
      exact det_cong (fun a b _ _ => by rw [if_neg (by omega)])
    | succ t ih =>
      intro ht
      have h1 : (fun j => if j < t + 1 then b0V nc co lo hi j else eV j) = putV (fun j => if j < t then b0V nc co lo hi j else eV j) t (fun x => wyC co hi t * eV t x + (-(wyC co hi t * stC co lo hi t)) * eV 5 x) := by
        funext j x
        by_cases e : j = t
        · subst e
          rw [putV_eq, if_pos (by omega)]
          rw [b0_in (by omega), eV_in (by omega), eV_5]
          unfold unV
          by_cases h1 : x = 1 + j
          · rw [if_pos h1, if_pos h1, if_neg (by omega)]; simp
          · rw [if_neg h1, if_neg h1]
            by_cases h2 : x = 0
            · rw [if_pos h2, if_pos h2]; simp
            · rw [if_neg h2, if_neg h2]; simp
        · rw [putV_ne e]
          by_cases h2 : j < t
          · rw [if_pos (by omega), if_pos h2]
          · rw [if_neg (by omega), if_neg h2]
      have e1 : putV (fun j => if j < t then b0V nc co lo hi j else eV j) t (eV t) = (fun j => if j < t then b0V nc co lo hi j else eV j) := by
        have : (fun j => if j < t then b0V nc co lo hi j else eV j) t = eV t := if_neg (by omega)
        rw [← this]; exact putV_self
      rw [h1, det_lin _ _ _ _ _ (show t < 6 by omega), e1, det_same (w := putV (fun j => if j < t then b0V nc co lo hi j else eV j) t (eV 5)) (a := t) (b := 5) (by omega) (by omega) (by omega) (by rw [putV_eq, putV_ne (by omega), if_neg (by omega)])]
      rcases ih (by omega) with e | e <;> rcases wyC_or co hi t with e2 | e2 <;> rw [e, e2] <;> simp
  have h := key nc (Nat.le_refl nc)
  have e : detD 6 (b0V nc co lo hi) = detD 6 (fun j => if j < nc then b0V nc co lo hi j else eV j) := by
    refine det_cong (fun a b ha _ => ?_)
    by_cases q : a < nc
    · rw [if_pos q]
    · rw [if_neg q]; unfold b0V eV; rw [if_neg q]
  rw [e]; exact h
theorem dm_j {nc : Nat} {co lo hi : Nat → Int} (f : Nat → Int) {j : Nat} (hj : j < 5) : dotZ 6 f (dmV nc co lo hi j) = f (1 + j) * (if j < nc then wyC co hi j else 1) := by
  unfold dotZ
  rw [sm_one (k := 1 + j) (by omega) (fun x hx hne => by unfold dmV; rw [if_neg (by omega), if_neg hne]; simp)]
  unfold dmV
  rw [if_neg (by omega), if_pos rfl]
theorem dm_5 {nc : Nat} {co lo hi : Nat → Int} (hnc : nc ≤ 5) (f : Nat → Int) : dotZ 6 f (dmV nc co lo hi 5) = f 0 + sumZ (fun c => f (1 + c) * stC co lo hi c) nc := by
  unfold dotZ
  rw [sm_shift, sm_ext (a := nc) hnc (fun j h1 h2 => by unfold dmV; rw [if_pos rfl, if_neg (by omega), if_neg (by omega)]; simp)]
  have e : f 0 * dmV nc co lo hi 5 0 = f 0 := by unfold dmV; rw [if_pos rfl, if_pos rfl]; simp
  rw [e]
  congr 1
  refine sm_cong (fun c hc => ?_)
  unfold dmV
  rw [if_pos rfl, if_neg (by omega), if_pos (by omega), show 1 + c - 1 = c by omega]
theorem tabA_b0 {nc : Nat} (hnc : nc ≤ 5) {co lo hi ce sh : Nat → Int} {nl : Nat} {W : Nat → Nat → Int} (hc : ∀ i j, i < nl → j < 6 → (nc ≤ j ∨ sh j = 0) → ce (i * 6 + j) = dotZ 6 (W i) (dmV nc co lo hi j)) : tabA nc ce sh nl 1 W (b0V nc co lo hi) (detD 6 (b0V nc co lo hi)) := by
  obtain ⟨h1, h2⟩ := cr_of_inv (b0_inv hnc co lo hi)
  have hd := b0_det hnc co lo hi
  refine ⟨hd, ?_, by omega, h2, ?_, ?_, ?_, ?_⟩
  · rcases hd with e | e <;> rw [e] <;> rfl
  · unfold b0V; rw [if_neg (by omega), if_neg (by omega)]
  · intro j q1 q2; unfold b0V; rw [if_neg (by omega), if_pos q2]
  · intro j q1 c q2 q3
    rw [b0_in q1, if_neg (by omega), if_neg (by omega)]
  · intro i j hil hj hcc
    rw [hc i j hil hj hcc]
    have e : dotZ 6 (W i) (dlV 6 (b0V nc co lo hi) j) = detD 6 (b0V nc co lo hi) * dotZ 6 (W i) (dmV nc co lo hi j) := by
      rw [← dot_mul]
      exact dot_cong (fun x hx => by rw [h1 j x hj hx, Int.mul_comm])
    rw [e]
    rcases hd with e | e <;> rw [e] <;> simp
theorem b0_small {nc : Nat} (hnc : nc ≤ 5) {co lo hi : Nat → Int} (hlo : ∀ j, -20 ≤ lo j ∧ lo j ≤ 20) (hhi : ∀ j, hi j = NONEz ∨ (-20 ≤ hi j ∧ hi j ≤ 20)) : ∀ j, j < 6 → smallV (b0V nc co lo hi j) := by
  intro j hj
  have hu : ∀ c, smallV (unV c) := by
    intro c
    refine ⟨?_, fun x _ _ => ?_⟩ <;> unfold unV <;> split <;> simp
  unfold b0V
  by_cases q : j < nc
  · rw [if_pos q]
    have hs : (stC co lo hi j).natAbs ≤ 20 := by
      have h1 := hlo j
      have h2 := hhi j
      unfold stC startZ
      split
      · rename_i e
        rcases h2 with e2 | e2
        · exact absurd e2 e.2
        · omega
      · omega
    refine ⟨?_, fun x h1 h2 => ?_⟩
    · show (if 0 = 1 + j then wyC co hi j else if 0 = 0 then -(wyC co hi j * stC co lo hi j) else 0 : Int).natAbs ≤ 1000
      rw [if_neg (by omega), if_pos rfl]
      rcases wyC_or co hi j with e | e <;> rw [e] <;> simp <;> omega
    · show (if x = 1 + j then wyC co hi j else if x = 0 then -(wyC co hi j * stC co lo hi j) else 0 : Int).natAbs ≤ 9
      split
      · rcases wyC_or co hi j with e | e <;> rw [e] <;> decide
      · rw [if_neg (by omega)]; decide
  · rw [if_neg q]
    split
    · exact hu _
    · exact hu _
-- ===== a table begun =====
def costV (t : Nat) (co : Nat → Int) : Nat → Int := fun x => if 1 ≤ x ∧ x ≤ t then co (x - 1) else 0
def staleT (S : TS) : Prop := (∀ i k, k < 5 → -8000000 ≤ tCe S (i * 6 + k) ∧ tCe S (i * 6 + k) ≤ 8000000) ∧ (∀ i, -100000000000 ≤ tCe S (i * 6 + 5) ∧ tCe S (i * 6 + 5) ≤ 100000000000) ∧ (∀ j, 0 ≤ tSh S j ∧ tSh S j ≤ 1) ∧ (∀ j, 0 ≤ tTi S j ∧ tTi S j ≤ 2) ∧ (∀ j, -20 ≤ tLo S j ∧ tLo S j ≤ 20)
def stB (S : TS) : Prop := (∀ i k, tNl S ≤ i → k < 5 → -8000000 ≤ tCe S (i * 6 + k) ∧ tCe S (i * 6 + k) ≤ 8000000) ∧ (∀ i, tNl S ≤ i → -100000000000 ≤ tCe S (i * 6 + 5) ∧ tCe S (i * 6 + 5) ≤ 100000000000) ∧ (∀ j, 0 ≤ tSh S j ∧ tSh S j ≤ 1) ∧ (∀ j, 0 ≤ tTi S j ∧ tTi S j ≤ 2) ∧ (∀ j, -20 ≤ tLo S j ∧ tLo S j ≤ 20)
def bldI (nc t : Nat) (co lo hi : Nat → Int) (W : Nat → Nat → Int) (S : TS) : Prop :=
  t ≤ nc ∧ nc + 1 ≤ tNl S ∧ tNl S ≤ nc + 1 + t ∧ tBel S = 1 ∧ tFar S = -1 ∧
  (∀ i j, i < tNl S → j < 6 → tCe S (i * 6 + j) = dotZ 6 (W i) (dmV nc co lo hi j)) ∧
  W 0 = costV t co ∧ (∀ c, c < t → W (1 + c) = lnV c (lo c)) ∧ (∀ c, t ≤ c → c < nc → W (1 + c) = fun _ => 0) ∧
  (∀ i, nc + 1 ≤ i → i < tNl S → ∃ c, c < t ∧ hi c ≠ NONEz ∧ tGl S c = (i : Int) ∧ W i = hgV c (hi c)) ∧
  (∀ c, c < t → tLo S c = lo c ∧ tHi S c = hi c ∧ tSh S c = 0 ∧ (hi c ≠ NONEz → ∃ g : Nat, nc + 1 ≤ g ∧ g < tNl S ∧ tGl S c = (g : Int) ∧ W g = hgV c (hi c))) ∧
  (tTi S 0 = 0 ∧ ∀ i, 1 ≤ i → i < tNl S → tTi S i = 1) ∧ stB S
theorem stale_line {S : TS} (h : staleT S) {z : Int} (hz : 0 ≤ z ∧ z ≤ 2) : staleT (addLineT z S) := by
  obtain ⟨a1, a2, a3, a4, a5⟩ := h
  refine ⟨fun i k hk => ?_, fun i => ?_, a3, fun j => ?_, a5⟩
  · show -8000000 ≤ fillZ S.1 (S.2.2.2.2.2.2.1 * 6) 6 0 (i * 6 + k) ∧ fillZ S.1 (S.2.2.2.2.2.2.1 * 6) 6 0 (i * 6 + k) ≤ 8000000
    unfold fillZ
    split
    · omega
    · exact a1 i k hk
  · show -100000000000 ≤ fillZ S.1 (S.2.2.2.2.2.2.1 * 6) 6 0 (i * 6 + 5) ∧ fillZ S.1 (S.2.2.2.2.2.2.1 * 6) 6 0 (i * 6 + 5) ≤ 100000000000
    unfold fillZ
    split
    · omega
    · exact a2 i
  · show 0 ≤ va_up S.2.1 S.2.2.2.2.2.2.1 z j ∧ va_up S.2.1 S.2.2.2.2.2.2.1 z j ≤ 2
    by_cases e : j = S.2.2.2.2.2.2.1
    · rw [e, up_same]; exact hz
    · rw [up_ne e]; exact a4 j
theorem lines_ok {S : TS} (h : staleT S) : ∀ n, staleT (linesT (startT S) n) ∧ tNl (linesT (startT S) n) = n ∧ tBel (linesT (startT S) n) = 1 ∧ tFar (linesT (startT S) n) = -1 ∧ (∀ i j, i < n → j < 6 → tCe (linesT (startT S) n) (i * 6 + j) = 0) ∧ (∀ i, i < n → tTi (linesT (startT S) n) i = if i = 0 then 0 else 1)
  | 0 => ⟨h, rfl, rfl, rfl, fun i j hi => absurd hi (Nat.not_lt_zero i), fun i hi => absurd hi (Nat.not_lt_zero i)⟩
  | n + 1 => by
    obtain ⟨a1, a2, a3, a4, a5, a6⟩ := lines_ok h n
    refine ⟨stale_line a1 (by split <;> omega), ?_, a3, a4, ?_, ?_⟩
    · show tNl (linesT (startT S) n) + 1 = n + 1
      rw [a2]
    · intro i j hi hj
      show fillZ (tCe (linesT (startT S) n)) (tNl (linesT (startT S) n) * 6) 6 0 (i * 6 + j) = 0
      rw [a2]
      unfold fillZ
      rcases (show i < n ∨ i = n by omega) with q | q
      · rw [if_neg (by omega)]; exact a5 i j q hj
      · rw [if_pos (by omega)]
    · intro i hi
      show va_up (tTi (linesT (startT S) n)) (tNl (linesT (startT S) n)) (if n = 0 then 0 else 1) i = _
      rw [a2]
      rcases (show i < n ∨ i = n by omega) with q | q
      · rw [up_ne (by omega)]; exact a6 i q
      · rw [q, up_same]
theorem bld_0 {nc : Nat} (co lo hi : Nat → Int) {S : TS} (h : staleT S) : bldI nc 0 co lo hi (fun _ _ => 0) (linesT (startT S) (nc + 1)) := by
  obtain ⟨a1, a2, a3, a4, a5, a6⟩ := lines_ok h (nc + 1)
  refine ⟨Nat.zero_le _, by rw [a2]; exact Nat.le_refl _, by rw [a2]; exact Nat.le_refl _, a3, a4, ?_, ?_, fun c hc => absurd hc (Nat.not_lt_zero c), fun _ _ _ => rfl, ?_, fun c hc => absurd hc (Nat.not_lt_zero c), ?_, fun i k _ hk => a1.1 i k hk, fun i _ => a1.2.1 i, a1.2.2⟩
  · intro i j hi hj
    rw [a2] at hi
    rw [a5 i j hi hj]
    exact (sm_z (fun x _ => by simp)).symm
  · funext x; unfold costV; rw [if_neg (by omega)]
  · intro i h1 h2; rw [a2] at h2; omega
  · refine ⟨by rw [a6 0 (by omega), if_pos rfl], fun i h1 h2 => ?_⟩
    rw [a2] at h2
    rw [a6 i h2, if_neg (by omega)]
