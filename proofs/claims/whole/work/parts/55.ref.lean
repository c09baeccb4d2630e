-- ===== the reference's search: what it tries, and what that comes to =====
def asgP (nc : Nat) (kd lo hi f : Nat → Int) : Prop := ∀ c, c < nc → 1 ≤ kd c → lo c ≤ f c ∧ f c ≤ hi c
def pOkP (nc : Nat) (kd pa lo hi f : Nat → Int) : Prop := ∀ c, c < nc → kd c = 2 → ∀ p : Nat, pa c = (p : Int) → p < nc → f c = 0 → (1 ≤ kd p → f p = 0) ∧ (kd p < 1 → lo p ≤ 0 ∧ (hi p ≠ NONEz → 0 ≤ hi p))
def fxB (nc : Nat) (kd pa f : Nat → Int) (c : Nat) : Bool := decide (1 ≤ kd c) || anyZ (fun c' => decide (kd c' = 2 ∧ pa c' = (c : Int) ∧ f c' = 0)) nc
def fvF (kd f : Nat → Int) (c : Nat) : Int := if 1 ≤ kd c then f c else 0
theorem any_ex {g : Nat → Bool} : ∀ {n : Nat}, anyZ g n = true → ∃ j, j < n ∧ g j = true
  | 0, h => by cases h
  | n + 1, h => by
    rw [anyZ_succ, Bool.or_eq_true] at h
    rcases h with h | h
    · obtain ⟨j, h1, h2⟩ := any_ex h
      exact ⟨j, by omega, h2⟩
    · exact ⟨n, by omega, h⟩
theorem fx_whole {nc : Nat} {kd pa f : Nat → Int} {c : Nat} (h : 1 ≤ kd c) : fxB nc kd pa f c = true := by unfold fxB; simp [h]
theorem fx_part {nc : Nat} {kd pa f : Nat → Int} {c p : Nat} (hc : c < nc) (hk : kd c = 2) (hp : pa c = (p : Int)) (hf : f c = 0) : fxB nc kd pa f p = true := by
  unfold fxB
  rw [Bool.or_eq_true]
  exact Or.inr (anyZ_of (c := c) (by simp [hk, hp, hf]) hc)
theorem fx_why {nc : Nat} {kd pa f : Nat → Int} {c : Nat} (h : fxB nc kd pa f c = true) : 1 ≤ kd c ∨ ∃ c', c' < nc ∧ kd c' = 2 ∧ pa c' = (c : Int) ∧ f c' = 0 := by
  unfold fxB at h
  rw [Bool.or_eq_true] at h
  rcases h with h | h
  · exact Or.inl (of_decide_eq_true h)
  · obtain ⟨c', h1, h2⟩ := any_ex h
    have := of_decide_eq_true h2
    exact Or.inr ⟨c', h1, this.1, this.2.1, this.2.2⟩
theorem sub_FP {nc nr : Nat} {kd pa lo hi f rk num ct sa : Nat → Int} (ha : asgP nc kd lo hi f) (hp : pOkP nc kd pa lo hi f) {y : Nat → Int} (hy : subP nc nr (fxB nc kd pa f) (fvF kd f) lo hi rk num sa (fun r => ct r = 1) y) : FP nc kd pa lo hi (phiP rk ct sa nc num nr) y := by
  obtain ⟨y0, y1, y2, y3⟩ := hy
  refine ⟨⟨y0, fun c hc => ?_⟩, fun r hr hct => y3 r hr hct, fun c hc hk => ?_, fun c hc hk p hpa hpn hz => ?_⟩
  · rcases hf : fxB nc kd pa f c with _ | _
    · exact y2 c hc hf
    · have e := y1 c hc hf
      rw [e]
      unfold fvF
      by_cases hk : 1 ≤ kd c
      · rw [if_pos hk]
        obtain ⟨a1, a2⟩ := ha c hc hk
        exact ⟨Int.mul_le_mul_of_nonneg_right a1 (by omega), fun _ => Int.mul_le_mul_of_nonneg_right a2 (by omega)⟩
      · rw [if_neg hk, Int.zero_mul]
        rcases fx_why hf with q | ⟨c', q1, q2, q3, q4⟩
        · exact absurd q hk
        · obtain ⟨b1, b2⟩ := (hp c' q1 q2 c q3 hc q4).2 (by omega)
          have m1 : lo c * y 0 ≤ 0 * y 0 := Int.mul_le_mul_of_nonneg_right b1 (by omega)
          refine ⟨by omega, fun hu => ?_⟩
          have m2 : 0 * y 0 ≤ hi c * y 0 := Int.mul_le_mul_of_nonneg_right (b2 hu) (by omega)
          omega
  · refine ⟨f c, ?_⟩
    have e := y1 c hc (fx_whole hk)
    unfold fvF at e; rw [if_pos hk] at e; exact e
  · have e := y1 c hc (fx_whole (by omega))
    unfold fvF at e
    rw [if_pos (by omega), hz] at e
    have hf0 : f c = 0 := by
      rcases Int.mul_eq_zero.mp e.symm with q | q
      · exact q
      · omega
    have e2 := y1 p hpn (fx_part hc hk hpa hf0)
    unfold fvF at e2
    by_cases hkp : 1 ≤ kd p
    · rw [if_pos hkp, (hp c hc hk p hpa hpn hf0).1 hkp] at e2; omega
    · rw [if_neg hkp] at e2; omega
theorem FP_sub {nc nr : Nat} {kd pa lo hi rk num ct sa : Nat → Int} (hP : colsOk nc kd pa lo hi) {y : Nat → Int} (hy : FP nc kd pa lo hi (phiP rk ct sa nc num nr) y) : ∃ f, asgP nc kd lo hi f ∧ pOkP nc kd pa lo hi f ∧ subP nc nr (fxB nc kd pa f) (fvF kd f) lo hi rk num sa (fun r => ct r = 1) y := by
  obtain ⟨⟨y0, yb⟩, yf, r1, r2⟩ := hy
  obtain ⟨f, hf⟩ : ∃ f : Nat → Int, ∀ c, c < nc → 1 ≤ kd c → y (1 + c) = f c * y 0 := by
    refine ⟨fun c => Int.tdiv (y (1 + c)) (y 0), fun c hc hk => ?_⟩
    obtain ⟨z, hz⟩ := r1 c hc hk
    show y (1 + c) = Int.tdiv (y (1 + c)) (y 0) * y 0
    rw [hz, Int.mul_tdiv_cancel _ (by omega)]
  have hz0 : ∀ c, c < nc → 1 ≤ kd c → (f c = 0 ↔ y (1 + c) = 0) := by
    intro c hc hk
    rw [hf c hc hk]
    constructor
    · intro q; rw [q]; simp
    · intro q
      rcases Int.mul_eq_zero.mp q with w | w
      · exact w
      · omega
  have hle : ∀ a b : Int, a * y 0 ≤ b * y 0 → a ≤ b := by
    intro a b h
    rcases (show a ≤ b ∨ b < a by omega) with q | q
    · exact q
    · have := (lt_of_mul y0).mpr q; omega
  refine ⟨f, fun c hc hk => ?_, fun c hc hk p hpa hpn h0 => ⟨fun hkp => ?_, fun hkp => ?_⟩, y0, fun c hc hx => ?_, fun c hc hx => yb c hc, fun r hr hct => yf r hr hct⟩
  · obtain ⟨b1, b2⟩ := yb c hc
    rw [hf c hc hk] at b1 b2
    exact ⟨hle _ _ b1, hle _ _ (b2 (hP.2.2.2.2.1 c hc hk).1)⟩
  · have := r2 c hc hk p hpa hpn ((hz0 c hc (by omega)).mp h0)
    exact (hz0 p hpn hkp).mpr this
  · have := r2 c hc hk p hpa hpn ((hz0 c hc (by omega)).mp h0)
    obtain ⟨b1, b2⟩ := yb p hpn
    rw [this] at b1 b2
    exact ⟨hle _ _ (by omega), fun hu => hle _ _ (by have := b2 hu; omega)⟩
  · unfold fvF
    by_cases hk : 1 ≤ kd c
    · rw [if_pos hk]; exact hf c hc hk
    · rw [if_neg hk, Int.zero_mul]
      rcases fx_why hx with q | ⟨c', q1, q2, q3, q4⟩
      · exact absurd q hk
      · exact r2 c' q1 q2 c q3 hc ((hz0 c' q1 (by omega)).mp q4)
/-- a plan, and a way from it -/
theorem way_ray {nc nr : Nat} (hnc : nc ≤ 5) {kd pa lo hi f rk num ct sa co : Nat → Int} (ha : asgP nc kd lo hi f) (hp : pOkP nc kd pa lo hi f) {y d : Nat → Int} (hy : subP nc nr (fxB nc kd pa f) (fvF kd f) lo hi rk num sa (fun r => ct r = 1) y) (hd : wayP nc nr (fxB nc kd pa f) hi rk sa (fun r => ct r = 1) d) (hneg : sumZ (fun c => co c * d (1 + c)) nc < 0) : rayP nc co (FP nc kd pa lo hi (phiP rk ct sa nc num nr)) := by
  rw [way_rows hnc] at hd
  obtain ⟨d0, d1, d2, d3, d4⟩ := hd
  obtain ⟨e, he0, hec⟩ : ∃ e : Nat → Int, e 0 = 0 ∧ ∀ c, e (1 + c) = d (1 + c) := ⟨ptV (fun c => d (1 + c)) 0, pt_0 _ _, fun c => pt_c _ _ c⟩
  refine ⟨y, e, 0, he0, ?_, fun M hM => sub_FP ha hp ?_⟩
  · rw [dot_cost hnc]
    have : sumZ (fun c => co c * e (1 + c)) nc = sumZ (fun c => co c * d (1 + c)) nc := sm_cong (fun c _ => by rw [hec])
    rw [this]; exact hneg
  · have h0 : 1 * y 0 + M * e 0 = y 0 := by rw [he0]; omega
    obtain ⟨y0, y1, y2, y3⟩ := hy
    refine ⟨by show 0 < 1 * y 0 + M * e 0; rw [h0]; exact y0, fun c hc hx => ?_, fun c hc hx => ?_, fun r hr hct => ?_⟩
    · show 1 * y (1 + c) + M * e (1 + c) = fvF kd f c * (1 * y 0 + M * e 0)
      rw [h0, hec, d1 c hc (by unfold wayX; rw [hx]; rfl), y1 c hc hx]; omega
    · show lo c * (1 * y 0 + M * e 0) ≤ 1 * y (1 + c) + M * e (1 + c) ∧ (hi c ≠ NONEz → 1 * y (1 + c) + M * e (1 + c) ≤ hi c * (1 * y 0 + M * e 0))
      rw [h0, hec]
      have hm := Int.mul_nonneg hM (d2 c hc)
      obtain ⟨b1, b2⟩ := y2 c hc hx
      refine ⟨by omega, fun hu => ?_⟩
      rw [d1 c hc (by unfold wayX; simp [hu])]
      have := b2 hu
      omega
    · have e1 : sumZ (fun c => sa (r * 5 + c) * (1 * y (1 + c) + M * e (1 + c))) nc = 1 * sumZ (fun c => sa (r * 5 + c) * y (1 + c)) nc + M * sumZ (fun c => sa (r * 5 + c) * d (1 + c)) nc := by
        rw [← sm_lin]
        exact sm_cong (fun c _ => by rw [hec]; grind)
      show keptP (rk r) (sumZ (fun c => sa (r * 5 + c) * (1 * y (1 + c) + M * e (1 + c))) nc) (num r * (1 * y 0 + M * e 0))
      rw [e1, h0]
      have k1 := y3 r hr hct
      have k2 := d3 r hr hct
      rcases k2 with k2 | ⟨k2, k2'⟩ | ⟨k2, k2'⟩
      · rw [k2]
        simpa using k1
      · have hm := Int.mul_nonneg hM (show 0 ≤ -sumZ (fun c => sa (r * 5 + c) * d (1 + c)) nc by omega)
        have hm2 : M * sumZ (fun c => sa (r * 5 + c) * d (1 + c)) nc ≤ 0 := by
          have : M * -sumZ (fun c => sa (r * 5 + c) * d (1 + c)) nc = -(M * sumZ (fun c => sa (r * 5 + c) * d (1 + c)) nc) := by grind
          omega
        unfold keptP at k1 ⊢; omega
      · have hm := Int.mul_nonneg hM (show 0 ≤ sumZ (fun c => sa (r * 5 + c) * d (1 + c)) nc by omega)
        unfold keptP at k1 ⊢; omega
/-- what was laid for an assignment, and what became of its corners -/
def visP (nc nr : Nat) (kd pa lo hi rk num ct sa co : Nat → Int) (bp : Nat → Int) (plan fin : Prop) (f : Nat → Int) : Prop :=
  (∃ n K fr cs cn ck, frI nc n (fxB nc kd pa f) fr ∧ cdI nc nr n K (fxB nc kd pa f) fr (fvF kd f) lo hi rk num sa (fun r => ct r = 1) cs cn ck ∧ smallC n K cs cn ∧
    ∀ ch q u, chV n K ch → crnO n cs cn ch = some (q, u) → plP n K (cdV n cs cn) ck (ptV q u) → plan ∧ ∃ y', isFu nc n (fxB nc kd pa f) fr (fvF kd f) (ptV q u) y' ∧ leqP nc co bp y') ∧
  ((∃ y, subP nc nr (fxB nc kd pa f) (fvF kd f) lo hi rk num sa (fun r => ct r = 1) y) → ∃ n K fr cs cn ck, frI nc n (wayX (fxB nc kd pa f) hi) fr ∧ cdI nc (nr + 1) n K (wayX (fxB nc kd pa f) hi) fr (fun _ => 0) (fun _ => 0) (fun _ => NONEz) (rkW rk nr) (nuW nr) (saW sa nr) (whW (fun r => ct r = 1) nr) cs cn ck ∧ smallC n K cs cn ∧
    ∀ ch q u, chV n K ch → crnO n cs cn ch = some (q, u) → plP n K (cdV n cs cn) ck (ptV q u) → sumZ (fun j => co (fr j) * q j) n < 0 → fin)
theorem ref_sem {nc nr : Nat} {kd pa lo hi rk num ct sa co : Nat → Int} (hP : colsOk nc kd pa lo hi) {b : BS4} (hb : bnd4 b) {plan fin : Prop} (hout : (¬ plan → b.2.2.2 = 1) ∧ (plan → fin → b.2.2.2 = 2) ∧ (plan → ¬ fin → b.2.2.2 = 0))
    (hv : ∀ f, asgP nc kd lo hi f → pOkP nc kd pa lo hi f → visP nc nr kd pa lo hi rk num ct sa co (bpV nc b) plan fin f)
    (hs : plan → FP nc kd pa lo hi (phiP rk ct sa nc num nr) (bpV nc b) ∧ b.2.1 = dotZ 6 (costV nc co) (bpV nc b)) (he : fin → rayP nc co (FP nc kd pa lo hi (phiP rk ct sa nc num nr))) :
    semP nc co (FP nc kd pa lo hi (phiP rk ct sa nc num nr)) b := by
  have hnc := hP.1
  have h012 : b.2.2.2 = 0 ∨ b.2.2.2 = 1 ∨ b.2.2.2 = 2 := by
    by_cases p : plan
    · by_cases f : fin
      · exact Or.inr (Or.inr (hout.2.1 p f))
      · exact Or.inl (hout.2.2 p f)
    · exact Or.inr (Or.inl (hout.1 p))
  refine ⟨⟨hb.1, hb.2.1, hb.2.2, h012, fun q => ?_, fun q => ?_⟩, fun y hy => ?_⟩
  · by_cases p : plan
    · exact hs p
    · have := hout.1 p; omega
  · by_cases f : fin
    · exact he f
    · by_cases p : plan
      · have := hout.2.2 p f; omega
      · have := hout.1 p; omega
  · obtain ⟨f, f1, f2, f3⟩ := FP_sub hP hy
    obtain ⟨⟨n, K, fr, cs, cn, ck, v1, v2, v3, v4⟩, w⟩ := hv f f1 f2
    by_cases hray : ∃ w : Nat → Int, w 0 = 0 ∧ plP n K (cdV n cs cn) ck w ∧ sumZ (fun j => co (fr j) * w (1 + j)) n < 0
    · obtain ⟨w0, r1, r2, r3⟩ := hray
      obtain ⟨ch, q, u, c1, c2, c3, c4, c5⟩ := sub_corner (co := fun _ => 0) hnc v1 v2 v3 (fun w _ _ h => by
        rw [sm_z (fun j _ => by simp)] at h
        omega) f3
      have hplan := (v4 ch q u c1 c2 c4).1
      obtain ⟨n2, K2, fr2, cs2, cn2, ck2, x1, x2, x3, x4⟩ := w ⟨y, f3⟩
      obtain ⟨ch2, q2, u2, g1, g2, g3, g4, g5⟩ := way_found (co := co) hnc v1 v2 x1 x2 x3 r1 r2 r3
      exact Or.inl (hout.2.1 hplan (x4 ch2 q2 u2 g1 g2 g4 g5))
    · obtain ⟨ch, q, u, c1, c2, c3, c4, c5⟩ := sub_corner (co := co) hnc v1 v2 v3 (fun w h1 h2 h3 => hray ⟨w, h1, h2, h3⟩) f3
      obtain ⟨hplan, y', y1, y2⟩ := v4 ch q u c1 c2 c4
      by_cases f : fin
      · exact Or.inl (hout.2.1 hplan f)
      · refine Or.inr ⟨hout.2.2 hplan f, ?_⟩
        have e0 : bpV nc b 0 = b.2.2.1 := by unfold bpV; rw [if_pos rfl]
        exact leq_trans (by rw [e0]; exact hb.1.1) (by rw [y1.1, pt_0]; exact c3) f3.1 y2 (c5 y' y1)
/-- two that say the same of a program say the same -/
theorem sem_same {nc : Nat} (hnc : nc ≤ 5) {co : Nat → Int} {F : (Nat → Int) → Prop} (hF : ∀ y, F y → 0 < y 0) {b b' : BS4} (h : semP nc co F b) (h' : semP nc co F b') : b.2.2.2 = b'.2.2.2 ∧ (b.2.2.2 = 0 → b.2.1 * b'.2.2.1 = b'.2.1 * b.2.2.1 ∧ ∀ c, c < nc → b.1 c * b'.2.2.1 = b'.1 c * b.2.2.1) := by
  have hray : ∀ {b : BS4}, semP nc co F b → rayP nc co F → b.2.2.2 = 2 := by
    intro b hb hr
    obtain ⟨a, d, M0, r0, r1, r2⟩ := hr
    rcases hb.2 _ (r2 M0 (Int.le_refl _)) with q | ⟨q0, -⟩
    · exact q
    · exfalso
      have e0 : bpV nc b 0 = b.2.2.1 := by unfold bpV; rw [if_pos rfl]
      have hbb := hb.1.1.1
      have hk : ∀ M, M0 ≤ M → dotZ 6 (costV nc co) (bpV nc b) * (a 0) ≤ (dotZ 6 (costV nc co) a + M * dotZ 6 (costV nc co) d) * b.2.2.1 := by
        intro M hM
        have hy := r2 M hM
        rcases hb.2 _ hy with w | ⟨-, w⟩
        · omega
        · have h1 := lexN_0 w
          have e1 : objV nc co 0 = costV nc co := by unfold objV; rw [if_pos rfl]
          rw [e1, e0, dot_lin] at h1
          have h2 : 0 ≤ (1 * dotZ 6 (costV nc co) a + M * dotZ 6 (costV nc co) d) * b.2.2.1 - dotZ 6 (costV nc co) (bpV nc b) * (1 * a 0 + M * d 0) := h1
          rw [r0] at h2
          grind
      -- one M beyond them all
      obtain ⟨X, hX⟩ : ∃ X, X = dotZ 6 (costV nc co) (bpV nc b) * (a 0) - dotZ 6 (costV nc co) a * b.2.2.1 := ⟨_, rfl⟩
      have h3 := hk (M0.natAbs + X.natAbs + 1) (by omega)
      have h4 : (M0.natAbs + X.natAbs + 1 : Int) * dotZ 6 (costV nc co) d * b.2.2.1 ≤ (M0.natAbs + X.natAbs + 1 : Int) * -1 * 1 := by
        have h5 : dotZ 6 (costV nc co) d * b.2.2.1 ≤ -1 * 1 := by
          have h6 := Int.mul_le_mul_of_nonneg_right (show dotZ 6 (costV nc co) d ≤ -1 by omega) (show 0 ≤ b.2.2.1 by omega)
          omega
        have h7 := Int.mul_le_mul_of_nonneg_left h5 (show 0 ≤ (M0.natAbs + X.natAbs + 1 : Int) by omega)
        grind
      have h8 : X ≤ (M0.natAbs + X.natAbs + 1 : Int) * dotZ 6 (costV nc co) d * b.2.2.1 := by
        rw [hX]; grind
      omega
  have hnone : ∀ {b : BS4}, semP nc co F b → (∀ y, ¬ F y) → b.2.2.2 = 1 := by
    intro b hb hn
    rcases hb.1.2.2.2.1 with q | q | q
    · exact absurd (hb.1.2.2.2.2.1 q).1 (hn _)
    · exact q
    · obtain ⟨a, d, M0, r0, r1, r2⟩ := hb.1.2.2.2.2.2 q
      exact absurd (r2 M0 (Int.le_refl _)) (hn _)
  have hne : ∀ {b : BS4}, semP nc co F b → b.2.2.2 = 1 → ∀ y, ¬ F y := by
    intro b hb q y hy
    rcases hb.2 y hy with w | ⟨w, -⟩ <;> omega
  have hout : b.2.2.2 = b'.2.2.2 := by
    rcases h.1.2.2.2.1 with q | q | q
    · rcases h'.1.2.2.2.1 with q' | q' | q'
      · rw [q, q']
      · exact absurd (h.1.2.2.2.2.1 q).1 (hne h' q' _)
      · have := hray h (h'.1.2.2.2.2.2 q'); omega
    · rw [q, hnone h' (hne h q)]
    · rw [q, hray h' (h.1.2.2.2.2.2 q)]
  refine ⟨hout, fun q => ?_⟩
  have q' : b'.2.2.2 = 0 := by omega
  obtain ⟨f1, f2⟩ := h.1.2.2.2.2.1 q
  obtain ⟨f1', f2'⟩ := h'.1.2.2.2.2.1 q'
  have l1 : leqP nc co (bpV nc b) (bpV nc b') := by
    rcases h.2 _ f1' with w | w
    · omega
    · exact w.2
  have l2 : leqP nc co (bpV nc b') (bpV nc b) := by
    rcases h'.2 _ f1 with w | w
    · omega
    · exact w.2
  have hz : ∀ i, i < nc + 1 → dotZ 6 (objV nc co i) (bpV nc b') * bpV nc b 0 - dotZ 6 (objV nc co i) (bpV nc b) * bpV nc b' 0 = 0 := by
    rcases l1 with w | w
    · exact w
    · exact absurd (lexP_irr w (lexN_cong (fun i _ => by omega) l2)) id
  obtain ⟨o1, o2⟩ := obj_bp hnc f2
  obtain ⟨o1', o2'⟩ := obj_bp hnc f2'
  have e0 : bpV nc b 0 = b.2.2.1 := by unfold bpV; rw [if_pos rfl]
  have e0' : bpV nc b' 0 = b'.2.2.1 := by unfold bpV; rw [if_pos rfl]
  constructor
  · have := hz 0 (by omega)
    rw [o1, o1', e0, e0'] at this; omega
  · intro c hc
    have := hz (c + 1) (by omega)
    rw [o2 c hc, o2' c hc, e0, e0'] at this; omega
