theorem det_bnd2 {M N : Nat} : ∀ (n : Nat) {w : Nat → Nat → Int} {k : Nat}, k < n + 1 → (∀ a b, a < n + 1 → b < n + 1 → a ≠ k → (w a b).natAbs ≤ M) → (∀ b, b < n + 1 → (w k b).natAbs ≤ N) → (detD (n + 1) w).natAbs ≤ (n + 1) * (N * bdN M n) := by
  intro n
  induction n with
  | zero =>
    intro w k hk h1 h2
    show (sumZ (fun i => sgZ i * w i 0 * detD 0 (minV i w)) 1).natAbs ≤ _
    refine sum_lt 1 (fun i hi => ?_)
    have e : i = k := by omega
    subst e
    rw [Int.mul_assoc, sg_abs, Int.natAbs_mul]
    exact Nat.mul_le_mul (h2 0 (by omega)) (det_bnd (fun a b ha hb => absurd ha (Nat.not_lt_zero a)))
  | succ n ih =>
    intro w k hk h1 h2
    show (sumZ (fun i => sgZ i * w i 0 * detD (n + 1) (minV i w)) (n + 1 + 1)).natAbs ≤ _
    refine sum_lt (n + 1 + 1) (fun i hi => ?_)
    rw [Int.mul_assoc, sg_abs, Int.natAbs_mul]
    by_cases e : i = k
    · subst e
      refine Nat.mul_le_mul (h2 0 (by omega)) (det_bnd (fun a b ha hb => ?_))
      unfold minV
      split
      · exact h1 _ _ (by omega) (by omega) (by omega)
      · exact h1 _ _ (by omega) (by omega) (by omega)
    · have ih2 := ih (w := minV i w) (k := if k < i then k else k - 1) (by split <;> omega) (fun a b ha hb hak => by
        unfold minV
        by_cases q : a < i
        · rw [if_pos q]; exact h1 _ _ (by omega) (by omega) (by intro z; apply hak; rw [if_pos (by omega)]; omega)
        · rw [if_neg q]; exact h1 _ _ (by omega) (by omega) (by intro z; apply hak; rw [if_neg (by omega)]; omega)) (fun b hb => by
        unfold minV
        by_cases q : k < i
        · rw [if_pos q, if_pos q]; exact h2 _ (by omega)
        · rw [if_neg q, if_neg (by omega), show k - 1 + 1 = k by omega]; exact h2 _ (by omega))
      have h3 := h1 i 0 hi (by omega) e
      refine Nat.le_trans (Nat.mul_le_mul h3 ih2) ?_
      show M * ((n + 1) * (N * bdN M n)) ≤ N * ((n + 1) * (M * bdN M n))
      rw [Nat.mul_left_comm M (n + 1), Nat.mul_left_comm M N, Nat.mul_left_comm N (n + 1)]
      exact Nat.le_refl _
theorem crn_bnd2 {n K : Nat} (hn : n ≤ 5) {cs cn ch : Nat → Int} (hs : smallC n K cs cn) (hc : chV n K ch) {q : Nat → Int} {u : Int} (h : crnO n cs cn ch = some (q, u)) : 0 < u ∧ u ≤ 7085880 ∧ ∀ j, j < n → (q j).natAbs ≤ 1574640000 := by
  obtain ⟨h1, h2, -⟩ := crn_bnd hn hs hc h
  refine ⟨h1, h2, fun j hj => ?_⟩
  have hsm := mt_small hs hc
  unfold crnO at h
  rcases he : elM n (mtM n cs cn ch) n with _ | ⟨T, bef⟩
  · rw [he] at h; cases h
  · rw [he] at h
    have h3 : (if bef < 0 then ((fun i => -T i n), -bef) else ((fun i => T i n), bef)) = (q, u) := Option.some.inj h
    have hT : (T j n).natAbs ≤ 1574640000 := by
      obtain ⟨B, b1, b2, b3, b4, b5, b6⟩ := el_keeps hsm.1 n (Nat.le_refl n) he
      rw [b6 j n hj (by omega)]
      obtain ⟨n', rfl⟩ : ∃ n', n = n' + 1 := ⟨n - 1, by omega⟩
      refine Nat.le_trans (det_bnd2 (M := 9) (N := 2000) n' (k := j) hj (fun a b ha hb hne => by rw [putV_ne hne]; exact b5 a b ha hb) (fun b hb => by rw [putV_eq]; exact hsm.2 b hb)) ?_
      have e1 : bdN 9 n' ≤ 157464 := Nat.le_trans (bdN_mono (by decide) (show n' ≤ 4 by omega)) (by decide)
      exact Nat.le_trans (Nat.mul_le_mul hn (Nat.mul_le_mul (Nat.le_refl 2000) e1)) (by decide)
    split at h3
    · have e : q = fun i => -T i n := (Prod.mk.inj h3).1.symm
      rw [e]; show (-T j n).natAbs ≤ _; omega
    · have e : q = fun i => T i n := (Prod.mk.inj h3).1.symm
      rw [e]; exact hT
-- ===== what lies beyond the chosen rows doesn't matter =====
theorem at_cong {T T' : Nat → Nat → Int} {p n : Nat} (h : ∀ i, i < n → T i p = T' i p) : ∀ {d : Nat}, d ≤ n → atN T p n d = atN T' p n d
  | 0, _ => rfl
  | d + 1, hd => by
    show (if T (n - (d + 1)) p = 0 then atN T p n d else n - (d + 1)) = if T' (n - (d + 1)) p = 0 then atN T' p n d else n - (d + 1)
    rw [h (n - (d + 1)) (by omega), at_cong h (show d ≤ n by omega)]
theorem el_cong {n : Nat} {M M' : Nat → Nat → Int} (h : ∀ i j, i < n → M i j = M' i j) : ∀ p, p ≤ n → (elM n M p = none ∧ elM n M' p = none) ∨ ∃ T T' b, elM n M p = some (T, b) ∧ elM n M' p = some (T', b) ∧ ∀ i j, i < n → T i j = T' i j
  | 0, _ => Or.inr ⟨M, M', 1, rfl, rfl, h⟩
  | p + 1, hp => by
    rcases el_cong h p (by omega) with ⟨h1, h2⟩ | ⟨T, T', b, h1, h2, h3⟩
    · exact Or.inl ⟨el_none h1 1, el_none h2 1⟩
    · have ha := at_cong (T := T) (T' := T') (p := p) (n := n) (fun i hi => h3 i p hi) (d := n - p) (by omega)
      by_cases e : atN T p n (n - p) = n
      · refine Or.inl ⟨?_, ?_⟩
        · unfold elM; rw [h1]; show (if _ then none else _) = _; rw [if_pos e]
        · unfold elM; rw [h2]; show (if _ then none else _) = _; rw [if_pos (by rw [← ha]; exact e)]
      · have hlt : atN T p n (n - p) < n := by
          rcases atN_spec (T := T) (p := p) (n := n) (d := n - p) (by omega) with ⟨q, -⟩ | ⟨-, q, -⟩
          · exact absurd q e
          · exact q
        have hsw : ∀ i j, i < n → swM T (atN T p n (n - p)) p i j = swM T' (atN T p n (n - p)) p i j := fun i j hi => by
          unfold swM
          simp only [h3 i j hi, h3 p j (by omega), h3 _ j hlt]
        refine Or.inr ⟨clM (swM T (atN T p n (n - p)) p) p (swM T (atN T p n (n - p)) p p p) b, clM (swM T' (atN T p n (n - p)) p) p (swM T (atN T p n (n - p)) p p p) b, swM T (atN T p n (n - p)) p p p, el_go h1 rfl e, ?_, ?_⟩
        · rw [el_go h2 ha.symm e, hsw p p (by omega)]
        · intro i j hi
          unfold clM
          simp only [hsw i j hi, hsw p j (show p < n by omega), hsw i p hi]
theorem crn_cong {n : Nat} {cs cn c t : Nat → Int} (he : eqC n t c) {q : Nat → Int} {u : Int} (h : crnO n cs cn t = some (q, u)) : ∃ q', crnO n cs cn c = some (q', u) ∧ ∀ j, j < n → q j = q' j := by
  have hM : ∀ i j, i < n → mtM n cs cn t i j = mtM n cs cn c i j := fun i j hi => by unfold mtM; rw [he i hi]
  unfold crnO at h ⊢
  rcases el_cong hM n (Nat.le_refl n) with ⟨h1, h2⟩ | ⟨T, T', b, h1, h2, h3⟩
  · rw [h1] at h; cases h
  · rw [h1] at h; rw [h2]
    have h4 : (if b < 0 then ((fun i => -T i n), -b) else ((fun i => T i n), b)) = (q, u) := Option.some.inj h
    show ∃ q', some (if b < 0 then ((fun i => -T' i n), -b) else ((fun i => T' i n), b)) = some (q', u) ∧ _
    split at h4
    · rename_i hb
      rw [if_pos hb]
      have e1 : q = fun i => -T i n := (Prod.mk.inj h4).1.symm
      have e2 : -b = u := (Prod.mk.inj h4).2
      exact ⟨_, by rw [e2], fun j hj => by rw [e1]; show -T j n = -T' j n; rw [h3 j n hj]⟩
    · rename_i hb
      rw [if_neg hb]
      have e1 : q = fun i => T i n := (Prod.mk.inj h4).1.symm
      have e2 : b = u := (Prod.mk.inj h4).2
      exact ⟨_, by rw [e2], fun j hj => by rw [e1]; show T j n = T' j n; rw [h3 j n hj]⟩
theorem pl_pt {n K : Nat} {cs cn ck q q' : Nat → Int} {u : Int} (h : ∀ j, j < n → q j = q' j) : plP n K (cdV n cs cn) ck (ptV q u) → plP n K (cdV n cs cn) ck (ptV q' u) := by
  intro hp k hk
  have h1 := kp_iff.mp (hp k hk)
  refine kp_iff.mpr ?_
  rw [← sm_cong (n := n) (f := fun j => cs (k * 5 + j) * q j) (fun j hj => by rw [h j hj])]
  exact h1
theorem fu_pt {nc n : Nat} {fx : Nat → Bool} {fr : Nat → Nat} {fv q q' y : Nat → Int} {u : Int} (h : ∀ j, j < n → q j = q' j) (hf : isFu nc n fx fr fv (ptV q u) y) : isFu nc n fx fr fv (ptV q' u) y := by
  obtain ⟨h1, h2, h3⟩ := hf
  exact ⟨by rw [h1, pt_0, pt_0], h2, fun j hj => by rw [h3 j hj, pt_c, pt_c, h j hj]⟩
theorem leq_self (nc : Nat) (co z : Nat → Int) : leqP nc co z z := Or.inl (fun i _ => Int.sub_self _)
theorem leq_cmp {nc : Nat} (hnc : nc ≤ 5) {co z y : Nat → Int} (h : lexN (fun i => if i = 0 then sumZ (fun c => co c * y (1 + c)) nc * z 0 - sumZ (fun c => co c * z (1 + c)) nc * y 0 else y i * z 0 - z i * y 0) (nc + 1)) : leqP nc co z y := by
  refine lexN_cong (fun i hi => ?_) h
  show (if i = 0 then _ else _) = dotZ 6 (objV nc co i) y * z 0 - dotZ 6 (objV nc co i) z * y 0
  unfold objV
  by_cases e : i = 0
  · rw [if_pos e, if_pos e, dot_cost hnc, dot_cost hnc]
  · rw [if_neg e, if_neg e, dot_un (by omega), dot_un (by omega)]
/-- the kept one, and what is tried, place by place -/
def aF (tr : Nat → Int) (bu sum : Int) : Nat → Int := fun i => if i = 0 then sum * bu else tr (i - 1) * bu
def bF (be : Nat → Int) (un bc : Int) : Nat → Int := fun i => if i = 0 then bc * un else be (i - 1) * un
abbrev cF (tr be : Nat → Int) (un bu sum bc : Int) : Nat → Int := fun i => cmpZ (aF tr bu sum i) (bF be un bc i)
theorem bp_0 (nc : Nat) (b : BS4) : bpV nc b 0 = b.2.2.1 := by unfold bpV; rw [if_pos rfl]
theorem bp_c {nc c : Nat} (b : BS4) (h : c < nc) : bpV nc b (1 + c) = b.1 c := by unfold bpV; rw [if_neg (by omega), if_pos (by omega), show 1 + c - 1 = c by omega]
theorem bp_sum (nc : Nat) (co : Nat → Int) (b : BS4) : sumZ (fun c => co c * bpV nc b (1 + c)) nc = sumZ (fun c => co c * b.1 c) nc := sm_cong (fun c hc => by rw [bp_c b hc])
theorem off_lt {nc : Nat} (hnc : nc ≤ 5) {co tr be : Nat → Int} {un bu bc : Int} (hb : bc = sumZ (fun c => co c * be c) nc) (h : lexZ (cF tr be un bu (sumZ (fun c => co c * tr c) nc) bc) (nc + 1) < 0) : leqP nc co (ptV tr un) (bpV nc (be, bc, bu, 0)) := by
  refine leq_cmp hnc (lexN_cong (fun i hi => ?_) (Or.inr (lexZ_lt h)))
  show bF be un bc i - aF tr bu _ i = _
  unfold aF bF
  by_cases e : i = 0
  · rw [if_pos e, if_pos e, if_pos e, bp_sum, bp_0, pt_0, hb]
    show _ = _ * un - sumZ (fun c => co c * ptV tr un (1 + c)) nc * bu
    rw [sm_cong (n := nc) (f := fun c => co c * ptV tr un (1 + c)) (g := fun c => co c * tr c) (fun c _ => by rw [pt_c])]
  · obtain ⟨c, rfl⟩ : ∃ c, i = 1 + c := ⟨i - 1, by omega⟩
    rw [if_neg e, if_neg e, if_neg e, bp_c _ (by omega), bp_0, pt_0, pt_c, show 1 + c - 1 = c by omega]
theorem off_ge {nc : Nat} (hnc : nc ≤ 5) {co tr be : Nat → Int} {un bu bc : Int} (hb : bc = sumZ (fun c => co c * be c) nc) (h : ¬ lexZ (cF tr be un bu (sumZ (fun c => co c * tr c) nc) bc) (nc + 1) < 0) : leqP nc co (bpV nc (be, bc, bu, 0)) (ptV tr un) := by
  refine leq_cmp hnc (lexN_cong (fun i hi => ?_) (lexZ_ge h))
  show aF tr bu _ i - bF be un bc i = _
  unfold aF bF
  by_cases e : i = 0
  · rw [if_pos e, if_pos e, if_pos e, bp_sum, bp_0, pt_0, hb]
    show _ = sumZ (fun c => co c * ptV tr un (1 + c)) nc * bu - _ * un
    rw [sm_cong (n := nc) (f := fun c => co c * ptV tr un (1 + c)) (g := fun c => co c * tr c) (fun c _ => by rw [pt_c])]
  · obtain ⟨c, rfl⟩ : ∃ c, i = 1 + c := ⟨i - 1, by omega⟩
    rw [if_neg e, if_neg e, if_neg e, bp_c _ (by omega), bp_0, pt_0, pt_c, show 1 + c - 1 = c by omega]
theorem leq_eqv {nc : Nat} (hnc : nc ≤ 5) {co z z' y : Nat → Int} (h0 : z 0 = z' 0) (hz : ∀ c, c < nc → z (1 + c) = z' (1 + c)) (h : leqP nc co z y) : leqP nc co z' y := by
  refine lexN_cong (fun i hi => ?_) h
  have e : dotZ 6 (objV nc co i) z = dotZ 6 (objV nc co i) z' := by
    unfold objV
    by_cases e : i = 0
    · rw [if_pos e, dot_cost hnc, dot_cost hnc]
      exact sm_cong (fun c hc => by rw [hz c hc])
    · obtain ⟨c, rfl⟩ : ∃ c, i = 1 + c := ⟨i - 1, by omega⟩
      rw [if_neg e, dot_un (by omega), dot_un (by omega), hz c (by omega)]
  show _ - _ = _
  rw [e, h0]
/-- what is known of the kept plan -/
def bsI (nc : Nat) (co be : Nat → Int) (bc bu hb : Int) : Prop := (hb = 0 ∨ hb = 1) ∧ (0 < bu ∧ bu ≤ 8000000) ∧ (-200000000000 ≤ bc ∧ bc ≤ 200000000000) ∧ (∀ j, -200000000000 ≤ be j ∧ be j ≤ 200000000000) ∧ (hb = 1 → bc = sumZ (fun c => co c * be c) nc)
def offI (nc : Nat) (co be0 : Nat → Int) (bc0 bu0 hb0 un : Int) (tr be : Nat → Int) (bc bu hb : Int) : Prop := (∀ c, c < nc → (tr c).natAbs ≤ 1574640000) ∧ hb = 1 ∧ ((be = be0 ∧ bu = bu0 ∧ bc = bc0 ∧ hb0 = 1) ∨ (be = mixZ tr be0 nc ∧ bu = un ∧ bc = sumZ (fun c => co c * tr c) nc)) ∧ (hb0 = 1 → leqP nc co (bpV nc (be, bc, bu, 0)) (bpV nc (be0, bc0, bu0, 0))) ∧ leqP nc co (bpV nc (be, bc, bu, 0)) (ptV tr un)
theorem off_keep {nc : Nat} (hnc : nc ≤ 5) {co be0 tr : Nat → Int} {bc0 bu0 hb0 un : Int} (hb : bsI nc co be0 bc0 bu0 hb0) (h1 : hb0 = 1) (ht : ∀ c, c < nc → (tr c).natAbs ≤ 1574640000) (h : ¬ lexZ (cF tr be0 un bu0 (sumZ (fun c => co c * tr c) nc) bc0) (nc + 1) < 0) : offI nc co be0 bc0 bu0 hb0 un tr be0 bc0 bu0 hb0 :=
  ⟨ht, h1, Or.inl ⟨rfl, rfl, rfl, h1⟩, fun _ => leq_self _ _ _, off_ge hnc (hb.2.2.2.2 h1) h⟩
theorem off_put {nc : Nat} (hnc : nc ≤ 5) {co be0 tr : Nat → Int} {bc0 bu0 hb0 un : Int} (hb : bsI nc co be0 bc0 bu0 hb0) (ht : ∀ c, c < nc → (tr c).natAbs ≤ 1574640000) (h : hb0 = 1 → lexZ (cF tr be0 un bu0 (sumZ (fun c => co c * tr c) nc) bc0) (nc + 1) < 0) : offI nc co be0 bc0 bu0 hb0 un tr (mixZ tr be0 nc) (sumZ (fun c => co c * tr c) nc) un 1 := by
  have e0 : ptV tr un 0 = bpV nc (mixZ tr be0 nc, sumZ (fun c => co c * tr c) nc, un, 0) 0 := by rw [pt_0, bp_0]
  have ec : ∀ c, c < nc → ptV tr un (1 + c) = bpV nc (mixZ tr be0 nc, sumZ (fun c => co c * tr c) nc, un, 0) (1 + c) := fun c hc => by rw [pt_c, bp_c _ hc]; exact (mix_lt hc).symm
  refine ⟨ht, rfl, Or.inr ⟨rfl, rfl, rfl⟩, fun h1 => leq_eqv hnc e0 ec (off_lt hnc (hb.2.2.2.2 h1) (h h1)), leq_eqv hnc e0 ec (leq_self _ _ _)⟩
theorem tr_bs {nc : Nat} (hnc : nc ≤ 5) {co tr : Nat → Int} (hco : ∀ j, -9 ≤ co j ∧ co j ≤ 9) (ht : ∀ c, c < nc → (tr c).natAbs ≤ 1574640000) : (sumZ (fun c => co c * tr c) nc).natAbs ≤ 70858800000 := by
  have h1 := sum_lt (f := fun c => co c * tr c) (B := 9 * 1574640000) nc (fun j hj => mul_nat (by have := hco j; omega) (ht j hj))
  have h2 : nc * (9 * 1574640000) ≤ 5 * (9 * 1574640000) := Nat.mul_le_mul_right _ hnc
  omega
theorem off_bs {nc : Nat} (hnc : nc ≤ 5) {co be0 tr be : Nat → Int} {bc0 bu0 hb0 un bc bu hb : Int} (hco : ∀ j, -9 ≤ co j ∧ co j ≤ 9) (hun : 0 < un ∧ un ≤ 7085880) (h0 : bsI nc co be0 bc0 bu0 hb0) (h : offI nc co be0 bc0 bu0 hb0 un tr be bc bu hb) : bsI nc co be bc bu hb := by
  obtain ⟨h1, h2, h3, -, -⟩ := h
  rcases h3 with ⟨e1, e2, e3, e4⟩ | ⟨e1, e2, e3⟩
  · rw [e1, e2, e3, h2, ← e4]; exact h0
  · have hs := tr_bs hnc hco h1
    refine ⟨Or.inr h2, by omega, by rw [e3]; omega, fun j => ?_, fun _ => ?_⟩
    · rw [e1]; unfold mixZ
      split
      · rename_i q; have := h1 j q; omega
      · exact h0.2.2.2.1 j
    · rw [e3, e1]; exact sm_cong (fun c hc => by rw [mix_lt hc])
theorem tf_0 {fr : Nat → Int} {nc n : Nat} {fx : Nat → Bool} (hf : frI nc n fx (frN fr)) {cr fv ta : Nat → Int} {un : Int} {j : Nat} (hj : j < n) (h1 : ∀ q, q < nc → fx q = true → ta q = fv q * un) (h2 : ∀ i, i < j → ta (frN fr i) = cr i) : (∀ q, q < nc → fx q = true → va_up ta (frN fr j) (cr j) q = fv q * un) ∧ ∀ i, i < j + 1 → va_up ta (frN fr j) (cr j) (frN fr i) = cr i := by
  obtain ⟨a1, a2, a3⟩ := fr_at hf hj
  refine ⟨fun q hq hx => ?_, fun i hi => ?_⟩
  · rw [up_ne (by intro z; rw [z, a2] at hx; cases hx)]; exact h1 q hq hx
  · rcases (show i < j ∨ i = j by omega) with z | z
    · obtain ⟨b1, b2, b3⟩ := fr_at hf (show i < n by omega)
      rw [up_ne (by intro y; rw [y, a3] at b3; omega)]; exact h2 i z
    · rw [z, up_same]
theorem tf_end {fr : Nat → Int} {nc n : Nat} {fx : Nat → Bool} (hf : frI nc n fx (frN fr)) {cr fv ta : Nat → Int} {un : Int} (h1 : ∀ q, q < nc → fx q = true → ta q = fv q * un) (h2 : ∀ i, i < n → ta (frN fr i) = cr i) : isFu nc n fx (frN fr) fv (ptV cr un) (ptV ta un) :=
  ⟨by rw [pt_0, pt_0], fun c hc hx => by rw [pt_c, pt_0]; exact h1 c hc hx, fun j hj => by rw [pt_c, pt_c]; exact h2 j hj⟩
theorem tf_bnd {fr : Nat → Int} {nc n : Nat} {fx : Nat → Bool} (hf : frI nc n fx (frN fr)) {cr fv ta : Nat → Int} {un : Int} (hun : 0 < un ∧ un ≤ 7085880) (hcr : ∀ j, j < n → (cr j).natAbs ≤ 1574640000) (hfv : ∀ j, j < nc → fx j = true → -20 ≤ fv j ∧ fv j ≤ 20) (h1 : ∀ q, q < nc → fx q = true → ta q = fv q * un) (h2 : ∀ i, i < n → ta (frN fr i) = cr i) : ∀ c, c < nc → (ta c).natAbs ≤ 1574640000 := by
  intro c hc
  rcases hx : fx c with _ | _
  · obtain ⟨i1, i2⟩ := fr_ix hf hc hx
    have := h2 _ i1
    rw [i2] at this
    rw [this]; exact hcr _ i1
  · rw [h1 c hc hx]
    have := hfv c hc hx
    exact Nat.le_trans (mul_nat (a := 20) (b := 7085880) (by omega) (by omega)) (by decide)
set_option maxHeartbeats 4000000 in
set_option maxRecDepth 100000 in
theorem kX7_counting (l : Launch) (D : va_G) (cA : Nat → ClassId) (m : Nat → Nat) (m_nc : Nat) (m_nr : Nat) (m_ke : Int) (m_so : Int) (m_bu : Int) (m_bc : Int) (m_pu : Int) (m_qu : Int) (m_fs : Int) (m_cd : Int) (m_un : Int) (m_hb : Int) (m_pf : Int) (m_ef : Int) (m_kd : Nat → Int) (m_lo : Nat → Int) (m_hi : Nat → Int) (m_co : Nat → Int) (m_pa : Nat → Int) (m_rk : Nat → Int) (m_nu : Nat → Int) (m_ct : Nat → Int) (m_sa : Nat → Int) (qnr : m_nr ≤ 7) (qct : ∀ j, 0 ≤ m_ct j ∧ m_ct j ≤ 1) : CR l yX7_counting wsX7_counting ({ frames := 0, cells := 0, slots := 0, locals := 0 }) D cA [.ref (m 0)] (wMO cA m (((m_nc : Nat) : Int)) (((m_nr : Nat) : Int)) (m_ke) (m_so) (m_bu) (m_bc) (m_pu) (m_qu) (m_fs) (m_cd) (m_un) (m_hb) (m_pf) (m_ef) ++ wMP cA m (m_kd) (m_lo) (m_hi) (m_co) (m_pa) (m_rk) (m_nu) (m_ct) (m_sa)) (fun ov => ov = some (iv (((setZ m_ct m_nr : Nat) : Int)))) := by
  refine CR.mk (cc := cX7_counting) (maxL := 3) (ret := (some .int)) (by decide +kernel) rfl (Nat.le_of_ble_eq_true rfl) ?_
  intro p_ e_ s_ m_ b_ me_ c_ F
  have hV := @IR_P D s_
  have iX7 : ∀ w ∈ u_ws RX7 TX7 38, w ∈ wsX7_counting := by decide +kernel
  refine g_lsub ([(0, .ref (m 0))]) [0] rfl ?_
  refine g_iconst F dX7_counting_0 ?_
  refine g_istore_n F ([(1, iv (0)), (0, .ref (m 0))]) rfl rfl (by decide) dX7_counting_1 ?_
  refine g_iconst F dX7_counting_2 ?_
  refine g_istore_n F ([(2, iv (0)), (1, iv (0)), (0, .ref (m 0))]) rfl rfl (by decide) dX7_counting_3 ?_
  have lp4 : ∀ (n : Nat) (r : Nat) (x : Nat) (hr : r ≤ m_nr) (hx : x = setZ m_ct r), m_nr - r < n → GW p_ l e_ (headSpec wsX7_counting ({ frames := 0, cells := 0, slots := 0, locals := 0 })).room s_ m_ ([.ref (m 0)]).toArray b_ me_ c_ (MQ b_ (Qr (fun ov => ov = some (iv (((setZ m_ct m_nr : Nat) : Int))))) ([.ref (m 0)]).toArray s_ 0 0 (fun _ => False)) (IR D s_) 3 0 0 (wMO cA m (((m_nc : Nat) : Int)) (((m_nr : Nat) : Int)) (m_ke) (m_so) (m_bu) (m_bc) (m_pu) (m_qu) (m_fs) (m_cd) (m_un) (m_hb) (m_pf) (m_ef) ++ wMP cA m (m_kd) (m_lo) (m_hi) (m_co) (m_pa) (m_rk) (m_nu) (m_ct) (m_sa)) ([(0, .ref (m 0)), (1, iv (((x : Nat) : Int))), (2, iv (((r : Nat) : Int)))]) [] 4 := by
    intro n; induction n with
    | zero => intro r x; intros; omega
    | succ n ih4 =>
      intro r x hr hx hmu4
      refine g_iload_n F 2 rfl rfl dX7_counting_4 ?_
      refine g_aload_n F 0 rfl rfl dX7_counting_5 ?_
      refine g_get F hV iX7 0 rfl rfl 6 (by decide) (List.mem_of_getElem? (i := 1) rfl) rfl dX7_counting_6 ?_
      refine g_icmp_ge F (tgt := 37) dX7_counting_9 (by decide) ⟨by omega, by omega⟩ ⟨by omega, by omega⟩ (fun c_1 => ?_) (fun c_1 => ?_)
      · skip
        refine g_iload_n F 1 rfl rfl dX7_counting_37 ?_
        exact g_zretR F rfl rfl (congrArg (fun z => some (iv z)) (show (((x : Nat) : Int) : Int) = ((setZ m_ct m_nr : Nat) : Int) by subst hx; congr 2; omega)) dX7_counting_38
      · skip
        refine g_iload_n F 1 rfl rfl dX7_counting_12 ?_
        refine g_aload_n F 0 rfl rfl dX7_counting_13 ?_
        refine g_get F hV iX7 0 rfl rfl 9 (by decide) (List.mem_of_getElem? (i := 2) rfl) rfl dX7_counting_14 ?_
        refine g_iload_n F 2 rfl rfl dX7_counting_17 ?_
        have r_2 := qct (r)
        refine g_zald F hV 8 rfl (r) (by omega) (by omega) (by decide) dX7_counting_18 ?_
        refine g_if_eq F (tgt := 28) dX7_counting_19 (by decide) ⟨by omega, by omega⟩ (fun c_3 => ?_) (fun c_3 => ?_)
        · skip
          refine g_iconst F dX7_counting_28 ?_
          refine g_ior F (a := x) (b := 0) rfl rfl dX7_counting_29 ?_
          refine g_istore_n F ([(1, iv (((x ||| 0 : Nat) : Int))), (0, .ref (m 0)), (2, iv (((r : Nat) : Int)))]) rfl rfl (by decide) dX7_counting_30 ?_
          refine g_iinc F 2 rfl ([(2, iv ((((r : Nat) : Int)) + 1)), (1, iv (((x ||| 0 : Nat) : Int))), (0, .ref (m 0))]) rfl (by decide) dX7_counting_31 ?_
          refine g_goto F (tgt := 4) dX7_counting_34 (by decide) ?_
          refine g_lsub ([(0, .ref (m 0)), (1, iv (((x ||| 0 : Nat) : Int))), (2, iv ((((r : Nat) : Int)) + 1))]) [2, 1, 0] rfl ?_
          exact ih4 (r + 1) (x ||| 0) (by omega) (by rw [hx, setZ_succ]; first | (rw [if_pos (by omega)]; done) | (rw [if_neg (by omega), Nat.or_zero])) (by omega)
        · skip
          refine g_iconst F dX7_counting_22 ?_
          refine g_iload_n F 2 rfl rfl dX7_counting_23 ?_
          refine g_ishl F (a := 1) (b := r) rfl rfl (by omega) (by exact shl1_lt (by omega)) dX7_counting_24 ?_
          refine g_goto F (tgt := 29) dX7_counting_25 (by decide) ?_
          refine g_ior F (a := x) (b := (1 <<< r)) rfl rfl dX7_counting_29 ?_
          refine g_istore_n F ([(1, iv (((x ||| (1 <<< r) : Nat) : Int))), (0, .ref (m 0)), (2, iv (((r : Nat) : Int)))]) rfl rfl (by decide) dX7_counting_30 ?_
          refine g_iinc F 2 rfl ([(2, iv ((((r : Nat) : Int)) + 1)), (1, iv (((x ||| (1 <<< r) : Nat) : Int))), (0, .ref (m 0))]) rfl (by decide) dX7_counting_31 ?_
          refine g_goto F (tgt := 4) dX7_counting_34 (by decide) ?_
          refine g_lsub ([(0, .ref (m 0)), (1, iv (((x ||| (1 <<< r) : Nat) : Int))), (2, iv ((((r : Nat) : Int)) + 1))]) [2, 1, 0] rfl ?_
          exact ih4 (r + 1) (x ||| (1 <<< r)) (by omega) (by rw [hx, setZ_succ]; first | (rw [if_pos (by omega)]; done) | (rw [if_neg (by omega), Nat.or_zero])) (by omega)
  refine g_lsub ([(0, .ref (m 0)), (1, iv (0)), (2, iv (0))]) [2, 1, 0] rfl ?_
  exact lp4 (_ + 1) 0 0 (by omega) (rfl) (Nat.lt_succ_self _)

set_option maxHeartbeats 4000000 in
set_option maxRecDepth 100000 in
theorem kX7_compared (l : Launch) (D : va_G) (cA : Nat → ClassId) (a : Int) (c : Int) (b : Int) (d : Int) (hx : -9223372036854775808 ≤ a * d ∧ a * d ≤ 9223372036854775807) (hy : -9223372036854775808 ≤ b * c ∧ b * c ≤ 9223372036854775807) : CR l yX7_compared wsX7_compared ({ frames := 0, cells := 0, slots := 0, locals := 0 }) D cA [jv (a), jv (c), jv (b), jv (d)] ([]) (fun ov => ov = some (iv (cmpZ (a * d) (b * c)))) := by
  refine CR.mk (cc := cX7_compared) (maxL := 12) (ret := (some .int)) (by decide +kernel) rfl (Nat.le_of_ble_eq_true rfl) ?_
  intro p_ e_ s_ m_ b_ me_ c_ F
  have hV := @IR_P D s_
  refine g_lsub ([(0, jv (a)), (2, jv (c)), (4, jv (b)), (6, jv (d))]) [0, 1, 2, 3] rfl ?_
  refine g_lload_n F 0 rfl rfl dX7_compared_0 ?_
  refine g_lload F 3 rfl dX7_compared_1 ?_
  refine g_lmul F dX7_compared_3 ?_
  refine g_lstore F ([(8, jv (a * d)), (0, jv (a)), (2, jv (c)), (4, jv (b)), (6, jv (d))]) rfl (by decide) dX7_compared_4 ?_
  refine g_lload F 3 rfl dX7_compared_6 ?_
  refine g_lload_n F 2 rfl rfl dX7_compared_8 ?_
  refine g_lmul F dX7_compared_9 ?_
  refine g_lstore F ([(10, jv (b * c)), (8, jv (a * d)), (0, jv (a)), (2, jv (c)), (4, jv (b)), (6, jv (d))]) rfl (by decide) dX7_compared_10 ?_
  refine g_lload F 1 rfl dX7_compared_12 ?_
  refine g_lload F 0 rfl dX7_compared_14 ?_
  refine g_lcmp_ge F (tgt := 24) dX7_compared_16 dX7_compared_17 (by decide) ⟨by omega, by omega⟩ ⟨by omega, by omega⟩ (fun c_1 => ?_) (fun c_1 => ?_)
  · skip
    refine g_lload F 1 rfl dX7_compared_24 ?_
    refine g_lload F 0 rfl dX7_compared_26 ?_
    refine g_lcmp_le F (tgt := 36) dX7_compared_28 dX7_compared_29 (by decide) ⟨by omega, by omega⟩ ⟨by omega, by omega⟩ (fun c_2 => ?_) (fun c_2 => ?_)
    · skip
      refine g_iconst F dX7_compared_36 ?_
      exact g_zretR F rfl rfl (congrArg (fun z => some (iv z)) (show (0 : Int) = cmpZ (a * d) (b * c) by unfold cmpZ; first | (rw [if_pos (by omega)]) | (rw [if_neg (by omega), if_pos (by omega)]) | (rw [if_neg (by omega), if_neg (by omega)]))) dX7_compared_37
    · skip
      refine g_iconst F dX7_compared_32 ?_
      refine g_goto F (tgt := 37) dX7_compared_33 (by decide) ?_
      exact g_zretR F rfl rfl (congrArg (fun z => some (iv z)) (show (1 : Int) = cmpZ (a * d) (b * c) by unfold cmpZ; first | (rw [if_pos (by omega)]) | (rw [if_neg (by omega), if_pos (by omega)]) | (rw [if_neg (by omega), if_neg (by omega)]))) dX7_compared_37
  · skip
    refine g_iconst F dX7_compared_20 ?_
    refine g_goto F (tgt := 37) dX7_compared_21 (by decide) ?_
    exact g_zretR F rfl rfl (congrArg (fun z => some (iv z)) (show (-1 : Int) = cmpZ (a * d) (b * c) by unfold cmpZ; first | (rw [if_pos (by omega)]) | (rw [if_neg (by omega), if_pos (by omega)]) | (rw [if_neg (by omega), if_neg (by omega)]))) dX7_compared_37

set_option maxHeartbeats 4000000 in
set_option maxRecDepth 100000 in
theorem kX7_offer (l : Launch) (D : va_G) (cA : Nat → ClassId) (m : Nat → Nat) (m_nc : Nat) (m_nr : Nat) (m_ke : Int) (m_so : Int) (m_bu : Int) (m_bc : Int) (m_pu : Int) (m_qu : Int) (m_fs : Nat) (m_cd : Nat) (m_un : Int) (m_hb : Int) (m_pf : Int) (m_ef : Int) (m_kd : Nat → Int) (m_lo : Nat → Int) (m_hi : Nat → Int) (m_co : Nat → Int) (m_pa : Nat → Int) (m_rk : Nat → Int) (m_nu : Nat → Int) (m_ct : Nat → Int) (m_sa : Nat → Int) (m_fr : Nat → Int) (m_cs : Nat → Int) (m_cn : Nat → Int) (m_ck : Nat → Int) (m_ch : Nat → Int) (m_tb : Nat → Int) (m_cr : Nat → Int) (m_fx : Nat → Int) (m_fv : Nat → Int) (m_sn : Nat → Int) (m_be : Nat → Int) (m_tr : Nat → Int) (m_wy : Nat → Int) (qnc : m_nc ≤ 5) (hn : m_fs ≤ 5) (hfx : ∀ j, j < m_nc → 0 ≤ m_fx j ∧ m_fx j ≤ 1) (hfv : ∀ j, j < m_nc → m_fx j ≠ 0 → -20 ≤ m_fv j ∧ m_fv j ≤ 20) (hfr : frI m_nc m_fs (bzF m_fx) (frN m_fr)) (hfj : ∀ j, j < m_fs → 0 ≤ m_fr j ∧ m_fr j < (m_nc : Int)) (hcr : ∀ j, j < m_fs → (m_cr j).natAbs ≤ 1574640000) (hun : 0 < m_un ∧ m_un ≤ 7085880) (hco : ∀ j, -9 ≤ m_co j ∧ m_co j ≤ 9) (hbs : bsI m_nc m_co m_be m_bc m_bu m_hb) : CT l yX7_offer wsX7_offer ({ frames := 1, cells := 0, slots := 0, locals := 31 }) D cA [.ref (m 0)] (wMO cA m (((m_nc : Nat) : Int)) (((m_nr : Nat) : Int)) (m_ke) (m_so) (m_bu) (m_bc) (m_pu) (m_qu) (((m_fs : Nat) : Int)) (((m_cd : Nat) : Int)) (m_un) (m_hb) (m_pf) (m_ef) ++ wMP cA m (m_kd) (m_lo) (m_hi) (m_co) (m_pa) (m_rk) (m_nu) (m_ct) (m_sa) ++ wME cA m (m_fr) (m_cs) (m_cn) (m_ck) (m_ch) (m_tb) (m_cr) ++ wMX cA m (m_fx) (m_fv) (m_sn) ++ wMB cA m (m_be) (m_tr) (m_wy)) (fun ov ow => ∃ (tr : Nat → Int) (be : Nat → Int) (bc : Int) (bu : Int) (hb : Int), (isFu m_nc m_fs (bzF m_fx) (frN m_fr) m_fv (ptV m_cr m_un) (ptV tr m_un) ∧ offI m_nc m_co m_be m_bc m_bu m_hb m_un tr be bc bu hb) ∧ ov = none ∧ ow = wMO cA m (((m_nc : Nat) : Int)) (((m_nr : Nat) : Int)) (m_ke) (m_so) (bu) (bc) (m_pu) (m_qu) (((m_fs : Nat) : Int)) (((m_cd : Nat) : Int)) (m_un) (hb) (m_pf) (m_ef) ++ wMP cA m (m_kd) (m_lo) (m_hi) (m_co) (m_pa) (m_rk) (m_nu) (m_ct) (m_sa) ++ wME cA m (m_fr) (m_cs) (m_cn) (m_ck) (m_ch) (m_tb) (m_cr) ++ wMX cA m (m_fx) (m_fv) (m_sn) ++ wMB cA m (be) (tr) (m_wy)) 0 0 := by
  refine CT.mk (cc := cX7_offer) (maxL := 5) (ret := none) (by decide +kernel) rfl (Nat.le_of_ble_eq_true rfl) ?_
  intro p_ e_ s_ m_ b_ me_ c_ A F hnm hA
  have hV := @IM_P D s_ A
  have iX7 : ∀ w ∈ u_ws RX7 TX7 38, w ∈ wsX7_offer := by decide +kernel
  have hb0 := hbs.1
  have hb1 := hbs.2.1
  have hb2 := hbs.2.2.1
  have hbe := hbs.2.2.2.1
  refine g_lsub ([(0, .ref (m 0))]) [0] rfl ?_
  refine g_lconst F (z := 0) dX7_offer_0 (by decide) ?_
  refine g_lstore_n F ([(1, jv (0)), (0, .ref (m 0))]) rfl rfl (by decide) dX7_offer_1 ?_
  refine g_iconst F dX7_offer_2 ?_
  refine g_istore_n F ([(3, iv (0)), (1, jv (0)), (0, .ref (m 0))]) rfl rfl (by decide) dX7_offer_3 ?_
  have lp4 : ∀ (n : Nat) (c : Nat) (ta : Nat → Int) (hc : c ≤ m_nc) (hT1 : ∀ q, q < c → bzF m_fx q = true → ta q = m_fv q * m_un), m_nc - c < n → GW p_ l e_ (headSpec wsX7_offer ({ frames := 1, cells := 0, slots := 0, locals := 31 })).room s_ m_ ([.ref (m 0)]).toArray b_ me_ c_ (MQ b_ (Qm D (fun ov ow => ∃ (tr : Nat → Int) (be : Nat → Int) (bc : Int) (bu : Int) (hb : Int), (isFu m_nc m_fs (bzF m_fx) (frN m_fr) m_fv (ptV m_cr m_un) (ptV tr m_un) ∧ offI m_nc m_co m_be m_bc m_bu m_hb m_un tr be bc bu hb) ∧ ov = none ∧ ow = wMO cA m (((m_nc : Nat) : Int)) (((m_nr : Nat) : Int)) (m_ke) (m_so) (bu) (bc) (m_pu) (m_qu) (((m_fs : Nat) : Int)) (((m_cd : Nat) : Int)) (m_un) (hb) (m_pf) (m_ef) ++ wMP cA m (m_kd) (m_lo) (m_hi) (m_co) (m_pa) (m_rk) (m_nu) (m_ct) (m_sa) ++ wME cA m (m_fr) (m_cs) (m_cn) (m_ck) (m_ch) (m_tb) (m_cr) ++ wMX cA m (m_fx) (m_fv) (m_sn) ++ wMB cA m (be) (tr) (m_wy)) A) ([.ref (m 0)]).toArray s_ 0 0 A) (IM D s_ A) 5 0 0 (wMO cA m (((m_nc : Nat) : Int)) (((m_nr : Nat) : Int)) (m_ke) (m_so) (m_bu) (m_bc) (m_pu) (m_qu) (((m_fs : Nat) : Int)) (((m_cd : Nat) : Int)) (m_un) (m_hb) (m_pf) (m_ef) ++ wMP cA m (m_kd) (m_lo) (m_hi) (m_co) (m_pa) (m_rk) (m_nu) (m_ct) (m_sa) ++ wME cA m (m_fr) (m_cs) (m_cn) (m_ck) (m_ch) (m_tb) (m_cr) ++ wMX cA m (m_fx) (m_fv) (m_sn) ++ wMB cA m (m_be) (ta) (m_wy)) ([(0, .ref (m 0)), (1, jv (0)), (3, iv (((c : Nat) : Int)))]) [] 4 := by
    intro n; induction n with
    | zero => intro c ta; intros; omega
    | succ n ih4 =>
      intro c ta hc hT1 hmu4
      refine g_iload_n F 2 rfl rfl dX7_offer_4 ?_
      refine g_aload_n F 0 rfl rfl dX7_offer_5 ?_
      refine g_get F hV iX7 0 rfl rfl 0 (by decide) (List.mem_of_getElem? (i := 1) rfl) rfl dX7_offer_6 ?_
      refine g_icmp_ge F (tgt := 48) dX7_offer_9 (by decide) ⟨by omega, by omega⟩ ⟨by omega, by omega⟩ (fun c_1 => ?_) (fun c_1 => ?_)
      · skip
        refine g_iconst F dX7_offer_48 ?_
        refine g_istore_n F ([(3, iv (0)), (0, .ref (m 0)), (1, jv (0))]) rfl rfl (by decide) dX7_offer_49 ?_
        have lp50 : ∀ (n : Nat) (j : Nat) (ta : Nat → Int) (hj : j ≤ m_fs) (hT1 : ∀ q, q < m_nc → bzF m_fx q = true → ta q = m_fv q * m_un) (hT2 : ∀ i, i < j → ta (frN m_fr i) = m_cr i), m_fs - j < n → GW p_ l e_ (headSpec wsX7_offer ({ frames := 1, cells := 0, slots := 0, locals := 31 })).room s_ m_ ([.ref (m 0)]).toArray b_ me_ c_ (MQ b_ (Qm D (fun ov ow => ∃ (tr : Nat → Int) (be : Nat → Int) (bc : Int) (bu : Int) (hb : Int), (isFu m_nc m_fs (bzF m_fx) (frN m_fr) m_fv (ptV m_cr m_un) (ptV tr m_un) ∧ offI m_nc m_co m_be m_bc m_bu m_hb m_un tr be bc bu hb) ∧ ov = none ∧ ow = wMO cA m (((m_nc : Nat) : Int)) (((m_nr : Nat) : Int)) (m_ke) (m_so) (bu) (bc) (m_pu) (m_qu) (((m_fs : Nat) : Int)) (((m_cd : Nat) : Int)) (m_un) (hb) (m_pf) (m_ef) ++ wMP cA m (m_kd) (m_lo) (m_hi) (m_co) (m_pa) (m_rk) (m_nu) (m_ct) (m_sa) ++ wME cA m (m_fr) (m_cs) (m_cn) (m_ck) (m_ch) (m_tb) (m_cr) ++ wMX cA m (m_fx) (m_fv) (m_sn) ++ wMB cA m (be) (tr) (m_wy)) A) ([.ref (m 0)]).toArray s_ 0 0 A) (IM D s_ A) 5 0 0 (wMO cA m (((m_nc : Nat) : Int)) (((m_nr : Nat) : Int)) (m_ke) (m_so) (m_bu) (m_bc) (m_pu) (m_qu) (((m_fs : Nat) : Int)) (((m_cd : Nat) : Int)) (m_un) (m_hb) (m_pf) (m_ef) ++ wMP cA m (m_kd) (m_lo) (m_hi) (m_co) (m_pa) (m_rk) (m_nu) (m_ct) (m_sa) ++ wME cA m (m_fr) (m_cs) (m_cn) (m_ck) (m_ch) (m_tb) (m_cr) ++ wMX cA m (m_fx) (m_fv) (m_sn) ++ wMB cA m (m_be) (ta) (m_wy)) ([(0, .ref (m 0)), (1, jv (0)), (3, iv (((j : Nat) : Int)))]) [] 50 := by
          intro n; induction n with
          | zero => intro j ta; intros; omega
          | succ n ih50 =>
            intro j ta hj hT1 hT2 hmu50
            refine g_iload_n F 2 rfl rfl dX7_offer_50 ?_
            refine g_aload_n F 0 rfl rfl dX7_offer_51 ?_
            refine g_get F hV iX7 0 rfl rfl 21 (by decide) (List.mem_of_getElem? (i := 6) rfl) rfl dX7_offer_52 ?_
            refine g_icmp_ge F (tgt := 81) dX7_offer_55 (by decide) ⟨by omega, by omega⟩ ⟨by omega, by omega⟩ (fun c_2 => ?_) (fun c_2 => ?_)
            · skip
              refine g_iconst F dX7_offer_81 ?_
              refine g_istore_n F ([(3, iv (0)), (0, .ref (m 0)), (1, jv (0))]) rfl rfl (by decide) dX7_offer_82 ?_
              have lp83 : ∀ (n : Nat) (c : Nat) (x : Int) (hc : c ≤ m_nc) (hx : x = sumZ (fun c => m_co c * ta c) c), m_nc - c < n → GW p_ l e_ (headSpec wsX7_offer ({ frames := 1, cells := 0, slots := 0, locals := 31 })).room s_ m_ ([.ref (m 0)]).toArray b_ me_ c_ (MQ b_ (Qm D (fun ov ow => ∃ (tr : Nat → Int) (be : Nat → Int) (bc : Int) (bu : Int) (hb : Int), (isFu m_nc m_fs (bzF m_fx) (frN m_fr) m_fv (ptV m_cr m_un) (ptV tr m_un) ∧ offI m_nc m_co m_be m_bc m_bu m_hb m_un tr be bc bu hb) ∧ ov = none ∧ ow = wMO cA m (((m_nc : Nat) : Int)) (((m_nr : Nat) : Int)) (m_ke) (m_so) (bu) (bc) (m_pu) (m_qu) (((m_fs : Nat) : Int)) (((m_cd : Nat) : Int)) (m_un) (hb) (m_pf) (m_ef) ++ wMP cA m (m_kd) (m_lo) (m_hi) (m_co) (m_pa) (m_rk) (m_nu) (m_ct) (m_sa) ++ wME cA m (m_fr) (m_cs) (m_cn) (m_ck) (m_ch) (m_tb) (m_cr) ++ wMX cA m (m_fx) (m_fv) (m_sn) ++ wMB cA m (be) (tr) (m_wy)) A) ([.ref (m 0)]).toArray s_ 0 0 A) (IM D s_ A) 5 0 0 (wMO cA m (((m_nc : Nat) : Int)) (((m_nr : Nat) : Int)) (m_ke) (m_so) (m_bu) (m_bc) (m_pu) (m_qu) (((m_fs : Nat) : Int)) (((m_cd : Nat) : Int)) (m_un) (m_hb) (m_pf) (m_ef) ++ wMP cA m (m_kd) (m_lo) (m_hi) (m_co) (m_pa) (m_rk) (m_nu) (m_ct) (m_sa) ++ wME cA m (m_fr) (m_cs) (m_cn) (m_ck) (m_ch) (m_tb) (m_cr) ++ wMX cA m (m_fx) (m_fv) (m_sn) ++ wMB cA m (m_be) (ta) (m_wy)) ([(0, .ref (m 0)), (1, jv (x)), (3, iv (((c : Nat) : Int)))]) [] 83 := by
                intro n; induction n with
                | zero => intro c x; intros; omega
                | succ n ih83 =>
                  intro c x hc hx hmu83
                  refine g_iload_n F 2 rfl rfl dX7_offer_83 ?_
                  refine g_aload_n F 0 rfl rfl dX7_offer_84 ?_
                  refine g_get F hV iX7 0 rfl rfl 0 (by decide) (List.mem_of_getElem? (i := 1) rfl) rfl dX7_offer_85 ?_
                  refine g_icmp_ge F (tgt := 114) dX7_offer_88 (by decide) ⟨by omega, by omega⟩ ⟨by omega, by omega⟩ (fun c_3 => ?_) (fun c_3 => ?_)
                  · skip
                    have hT2e : ∀ i, i < m_fs → ta (frN m_fr i) = m_cr i := fun i hi => hT2 i (by omega)
                    replace hT2 := hT2e
                    have hTb := tf_bnd hfr hun hcr (fun q hq hz => hfv q hq (of_decide_eq_true hz)) hT1 hT2
                    have hxe : x = sumZ (fun c => m_co c * ta c) m_nc := by rw [hx, show c = m_nc by omega]
                    have hxb := tr_bs qnc hco hTb
                    refine g_aload_n F 0 rfl rfl dX7_offer_114 ?_
                    refine g_get F hV iX7 0 rfl rfl 33 (by decide) (List.mem_of_getElem? (i := 10) rfl) rfl dX7_offer_115 ?_
                    refine g_if_eq F (tgt := 140) dX7_offer_118 (by decide) ⟨by omega, by omega⟩ (fun c_4 => ?_) (fun c_4 => ?_)
                    · skip
                      refine g_iconst F dX7_offer_140 ?_
                      refine g_istore_n F ([(3, iv (-1)), (0, .ref (m 0)), (1, jv (x))]) rfl rfl (by decide) dX7_offer_141 ?_
                      refine g_iconst F dX7_offer_142 ?_
                      refine g_istore F ([(4, iv (0)), (3, iv (-1)), (0, .ref (m 0)), (1, jv (x))]) rfl (by decide) dX7_offer_143 ?_
                      have lp145 : ∀ (n : Nat) (c : Nat) (L : Int) (hc : c ≤ m_nc) (hI : (m_hb = 0 ∧ L = -1) ∨ (m_hb = 1 ∧ L = lexZ (cF ta m_be m_un m_bu (sumZ (fun c => m_co c * ta c) m_nc) m_bc) (c + 1))) (hLr : -1 ≤ L ∧ L ≤ 1), m_nc - c < n → GW p_ l e_ (headSpec wsX7_offer ({ frames := 1, cells := 0, slots := 0, locals := 31 })).room s_ m_ ([.ref (m 0)]).toArray b_ me_ c_ (MQ b_ (Qm D (fun ov ow => ∃ (tr : Nat → Int) (be : Nat → Int) (bc : Int) (bu : Int) (hb : Int), (isFu m_nc m_fs (bzF m_fx) (frN m_fr) m_fv (ptV m_cr m_un) (ptV tr m_un) ∧ offI m_nc m_co m_be m_bc m_bu m_hb m_un tr be bc bu hb) ∧ ov = none ∧ ow = wMO cA m (((m_nc : Nat) : Int)) (((m_nr : Nat) : Int)) (m_ke) (m_so) (bu) (bc) (m_pu) (m_qu) (((m_fs : Nat) : Int)) (((m_cd : Nat) : Int)) (m_un) (hb) (m_pf) (m_ef) ++ wMP cA m (m_kd) (m_lo) (m_hi) (m_co) (m_pa) (m_rk) (m_nu) (m_ct) (m_sa) ++ wME cA m (m_fr) (m_cs) (m_cn) (m_ck) (m_ch) (m_tb) (m_cr) ++ wMX cA m (m_fx) (m_fv) (m_sn) ++ wMB cA m (be) (tr) (m_wy)) A) ([.ref (m 0)]).toArray s_ 0 0 A) (IM D s_ A) 5 0 0 (wMO cA m (((m_nc : Nat) : Int)) (((m_nr : Nat) : Int)) (m_ke) (m_so) (m_bu) (m_bc) (m_pu) (m_qu) (((m_fs : Nat) : Int)) (((m_cd : Nat) : Int)) (m_un) (m_hb) (m_pf) (m_ef) ++ wMP cA m (m_kd) (m_lo) (m_hi) (m_co) (m_pa) (m_rk) (m_nu) (m_ct) (m_sa) ++ wME cA m (m_fr) (m_cs) (m_cn) (m_ck) (m_ch) (m_tb) (m_cr) ++ wMX cA m (m_fx) (m_fv) (m_sn) ++ wMB cA m (m_be) (ta) (m_wy)) ([(0, .ref (m 0)), (1, jv (x)), (3, iv (L)), (4, iv (((c : Nat) : Int)))]) [] 145 := by
                        intro n; induction n with
                        | zero => intro c L; intros; omega
                        | succ n ih145 =>
                          intro c L hc hI hLr hmu145
                          refine g_iload F 3 rfl dX7_offer_145 ?_
                          refine g_aload_n F 0 rfl rfl dX7_offer_147 ?_
                          refine g_get F hV iX7 0 rfl rfl 0 (by decide) (List.mem_of_getElem? (i := 1) rfl) rfl dX7_offer_148 ?_
                          refine g_icmp_ge F (tgt := 190) dX7_offer_151 (by decide) ⟨by omega, by omega⟩ ⟨by omega, by omega⟩ (fun c_5 => ?_) (fun c_5 => ?_)
                          · skip
                            have hLe : m_hb = 1 → L = lexZ (cF ta m_be m_un m_bu (sumZ (fun c => m_co c * ta c) m_nc) m_bc) (m_nc + 1) := fun y1 => by rcases hI with y | y; omega; rcases (show c = m_nc ∨ L ≠ 0 by omega) with z | z; (rw [y.2, z]); (have z2 := z; rw [y.2] at z2; rw [y.2]; exact (lexZ_far z2 (by omega)).symm)
                            refine g_iload_n F 2 rfl rfl dX7_offer_190 ?_
                            refine g_if_ge F (tgt := 244) dX7_offer_191 (by decide) ⟨by omega, by omega⟩ (fun c_6 => ?_) (fun c_6 => ?_)
                            · skip
                              exact g_vret F rfl (by decide) (by decide) ⟨ta, m_be, m_bc, m_bu, m_hb, ⟨tf_end hfr hT1 hT2, by rcases hI with y | y; omega; exact off_keep qnc hbs y.1 hTb (by rw [← hLe y.1]; omega)⟩, rfl, rfl⟩ dX7_offer_244
                            · skip
                              refine g_aload_n F 0 rfl rfl dX7_offer_194 ?_
                              refine g_iconst F dX7_offer_195 ?_
                              refine g_put F iX7 tyX7 tyX7_ok nmX7 0 rfl rfl 33 (by decide) (List.mem_of_getElem? (i := 10) rfl) rfl (nar_01 (Or.inr rfl)) rfl (Nat.le_of_ble_eq_true rfl) (wMO cA m (((m_nc : Nat) : Int)) (((m_nr : Nat) : Int)) (m_ke) (m_so) (m_bu) (m_bc) (m_pu) (m_qu) (((m_fs : Nat) : Int)) (((m_cd : Nat) : Int)) (m_un) (1) (m_pf) (m_ef) ++ wMP cA m (m_kd) (m_lo) (m_hi) (m_co) (m_pa) (m_rk) (m_nu) (m_ct) (m_sa) ++ wME cA m (m_fr) (m_cs) (m_cn) (m_ck) (m_ch) (m_tb) (m_cr) ++ wMX cA m (m_fx) (m_fv) (m_sn) ++ wMB cA m (m_be) (ta) (m_wy)) rfl dX7_offer_196 ?_
                              refine g_aload_n F 0 rfl rfl dX7_offer_199 ?_
                              refine g_lload_n F 1 rfl rfl dX7_offer_200 ?_
                              refine g_put F iX7 tyX7 tyX7_ok nmX7 0 rfl rfl 15 (by decide) (List.mem_of_getElem? (i := 11) rfl) rfl rfl rfl (Nat.le_of_ble_eq_true rfl) (wMO cA m (((m_nc : Nat) : Int)) (((m_nr : Nat) : Int)) (m_ke) (m_so) (m_bu) (x) (m_pu) (m_qu) (((m_fs : Nat) : Int)) (((m_cd : Nat) : Int)) (m_un) (1) (m_pf) (m_ef) ++ wMP cA m (m_kd) (m_lo) (m_hi) (m_co) (m_pa) (m_rk) (m_nu) (m_ct) (m_sa) ++ wME cA m (m_fr) (m_cs) (m_cn) (m_ck) (m_ch) (m_tb) (m_cr) ++ wMX cA m (m_fx) (m_fv) (m_sn) ++ wMB cA m (m_be) (ta) (m_wy)) rfl dX7_offer_201 ?_
                              refine g_aload_n F 0 rfl rfl dX7_offer_204 ?_
                              refine g_aload_n F 0 rfl rfl dX7_offer_205 ?_
                              refine g_get F hV iX7 0 rfl rfl 29 (by decide) (List.mem_of_getElem? (i := 5) rfl) rfl dX7_offer_206 ?_
                              refine g_put F iX7 tyX7 tyX7_ok nmX7 0 rfl rfl 14 (by decide) (List.mem_of_getElem? (i := 12) rfl) rfl rfl rfl (Nat.le_of_ble_eq_true rfl) (wMO cA m (((m_nc : Nat) : Int)) (((m_nr : Nat) : Int)) (m_ke) (m_so) (m_un) (x) (m_pu) (m_qu) (((m_fs : Nat) : Int)) (((m_cd : Nat) : Int)) (m_un) (1) (m_pf) (m_ef) ++ wMP cA m (m_kd) (m_lo) (m_hi) (m_co) (m_pa) (m_rk) (m_nu) (m_ct) (m_sa) ++ wME cA m (m_fr) (m_cs) (m_cn) (m_ck) (m_ch) (m_tb) (m_cr) ++ wMX cA m (m_fx) (m_fv) (m_sn) ++ wMB cA m (m_be) (ta) (m_wy)) rfl dX7_offer_209 ?_
                              refine g_iconst F dX7_offer_212 ?_
                              refine g_istore F ([(4, iv (0)), (0, .ref (m 0)), (1, jv (x)), (3, iv (L))]) rfl (by decide) dX7_offer_213 ?_
                              have lp215 : ∀ (n : Nat) (k : Nat) (bx : Nat → Int) (hk : k ≤ m_nc) (hbx : bx = mixZ ta m_be k), m_nc - k < n → GW p_ l e_ (headSpec wsX7_offer ({ frames := 1, cells := 0, slots := 0, locals := 31 })).room s_ m_ ([.ref (m 0)]).toArray b_ me_ c_ (MQ b_ (Qm D (fun ov ow => ∃ (tr : Nat → Int) (be : Nat → Int) (bc : Int) (bu : Int) (hb : Int), (isFu m_nc m_fs (bzF m_fx) (frN m_fr) m_fv (ptV m_cr m_un) (ptV tr m_un) ∧ offI m_nc m_co m_be m_bc m_bu m_hb m_un tr be bc bu hb) ∧ ov = none ∧ ow = wMO cA m (((m_nc : Nat) : Int)) (((m_nr : Nat) : Int)) (m_ke) (m_so) (bu) (bc) (m_pu) (m_qu) (((m_fs : Nat) : Int)) (((m_cd : Nat) : Int)) (m_un) (hb) (m_pf) (m_ef) ++ wMP cA m (m_kd) (m_lo) (m_hi) (m_co) (m_pa) (m_rk) (m_nu) (m_ct) (m_sa) ++ wME cA m (m_fr) (m_cs) (m_cn) (m_ck) (m_ch) (m_tb) (m_cr) ++ wMX cA m (m_fx) (m_fv) (m_sn) ++ wMB cA m (be) (tr) (m_wy)) A) ([.ref (m 0)]).toArray s_ 0 0 A) (IM D s_ A) 5 0 0 (wMO cA m (((m_nc : Nat) : Int)) (((m_nr : Nat) : Int)) (m_ke) (m_so) (m_un) (x) (m_pu) (m_qu) (((m_fs : Nat) : Int)) (((m_cd : Nat) : Int)) (m_un) (1) (m_pf) (m_ef) ++ wMP cA m (m_kd) (m_lo) (m_hi) (m_co) (m_pa) (m_rk) (m_nu) (m_ct) (m_sa) ++ wME cA m (m_fr) (m_cs) (m_cn) (m_ck) (m_ch) (m_tb) (m_cr) ++ wMX cA m (m_fx) (m_fv) (m_sn) ++ wMB cA m (bx) (ta) (m_wy)) ([(0, .ref (m 0)), (1, jv (x)), (3, iv (L)), (4, iv (((k : Nat) : Int)))]) [] 215 := by
                                intro n; induction n with
                                | zero => intro k bx; intros; omega
                                | succ n ih215 =>
                                  intro k bx hk hbx hmu215
                                  refine g_iload F 3 rfl dX7_offer_215 ?_
                                  refine g_aload_n F 0 rfl rfl dX7_offer_217 ?_
                                  refine g_get F hV iX7 0 rfl rfl 0 (by decide) (List.mem_of_getElem? (i := 1) rfl) rfl dX7_offer_218 ?_
                                  refine g_icmp_ge F (tgt := 244) dX7_offer_221 (by decide) ⟨by omega, by omega⟩ ⟨by omega, by omega⟩ (fun c_7 => ?_) (fun c_7 => ?_)
                                  · skip
                                    exact g_vret F rfl (by decide) (by decide) ⟨ta, bx, x, m_un, 1, ⟨tf_end hfr hT1 hT2, by rw [hbx, show k = m_nc by omega, hxe]; exact off_put qnc hbs hTb (fun z => by rcases hI with y | y; omega; rw [← hLe y.1]; omega)⟩, rfl, rfl⟩ dX7_offer_244
                                  · skip
                                    refine g_aload_n F 0 rfl rfl dX7_offer_224 ?_
                                    refine g_get F hV iX7 0 rfl rfl 13 (by decide) (List.mem_of_getElem? (i := 13) rfl) rfl dX7_offer_225 ?_
                                    refine g_iload F 3 rfl dX7_offer_228 ?_
                                    refine g_aload_n F 0 rfl rfl dX7_offer_230 ?_
                                    refine g_get F hV iX7 0 rfl rfl 34 (by decide) (List.mem_of_getElem? (i := 2) rfl) rfl dX7_offer_231 ?_
                                    refine g_iload F 3 rfl dX7_offer_234 ?_
                                    refine g_lald F hV 21 rfl (k) (by omega) (by omega) (by decide) dX7_offer_236 ?_
                                    refine g_last F 20 rfl (k) (by omega) (by omega) (by decide) (wMO cA m (((m_nc : Nat) : Int)) (((m_nr : Nat) : Int)) (m_ke) (m_so) (m_un) (x) (m_pu) (m_qu) (((m_fs : Nat) : Int)) (((m_cd : Nat) : Int)) (m_un) (1) (m_pf) (m_ef) ++ wMP cA m (m_kd) (m_lo) (m_hi) (m_co) (m_pa) (m_rk) (m_nu) (m_ct) (m_sa) ++ wME cA m (m_fr) (m_cs) (m_cn) (m_ck) (m_ch) (m_tb) (m_cr) ++ wMX cA m (m_fx) (m_fv) (m_sn) ++ wMB cA m (va_up bx k (ta k)) (ta) (m_wy)) rfl dX7_offer_237 ?_
                                    refine g_iinc F 3 rfl ([(4, iv ((((k : Nat) : Int)) + 1)), (0, .ref (m 0)), (1, jv (x)), (3, iv (L))]) rfl (by decide) dX7_offer_238 ?_
                                    refine g_goto F (tgt := 215) dX7_offer_241 (by decide) ?_
                                    refine g_lsub ([(0, .ref (m 0)), (1, jv (x)), (3, iv (L)), (4, iv ((((k : Nat) : Int)) + 1))]) [1, 2, 3, 0] rfl ?_
                                    exact ih215 (k + 1) (va_up bx k (ta k)) (by omega) (by rw [hbx]; exact mix_up rfl) (by omega)
                              refine g_lsub ([(0, .ref (m 0)), (1, jv (x)), (3, iv (L)), (4, iv (0))]) [1, 2, 3, 0] rfl ?_
                              exact lp215 (_ + 1) 0 m_be (by omega) (mix_0 _ _).symm (Nat.lt_succ_self _)
                          · skip
                            refine g_iload_n F 2 rfl rfl dX7_offer_154 ?_
                            refine g_if_ne F (tgt := 190) dX7_offer_155 (by decide) ⟨by omega, by omega⟩ (fun c_8 => ?_) (fun c_8 => ?_)
                            · skip
                              have hLe : m_hb = 1 → L = lexZ (cF ta m_be m_un m_bu (sumZ (fun c => m_co c * ta c) m_nc) m_bc) (m_nc + 1) := fun y1 => by rcases hI with y | y; omega; rcases (show c = m_nc ∨ L ≠ 0 by omega) with z | z; (rw [y.2, z]); (have z2 := z; rw [y.2] at z2; rw [y.2]; exact (lexZ_far z2 (by omega)).symm)
                              refine g_iload_n F 2 rfl rfl dX7_offer_190 ?_
                              refine g_if_ge F (tgt := 244) dX7_offer_191 (by decide) ⟨by omega, by omega⟩ (fun c_9 => ?_) (fun c_9 => ?_)
                              · skip
                                exact g_vret F rfl (by decide) (by decide) ⟨ta, m_be, m_bc, m_bu, m_hb, ⟨tf_end hfr hT1 hT2, by rcases hI with y | y; omega; exact off_keep qnc hbs y.1 hTb (by rw [← hLe y.1]; omega)⟩, rfl, rfl⟩ dX7_offer_244
                              · skip
                                refine g_aload_n F 0 rfl rfl dX7_offer_194 ?_
                                refine g_iconst F dX7_offer_195 ?_
                                refine g_put F iX7 tyX7 tyX7_ok nmX7 0 rfl rfl 33 (by decide) (List.mem_of_getElem? (i := 10) rfl) rfl (nar_01 (Or.inr rfl)) rfl (Nat.le_of_ble_eq_true rfl) (wMO cA m (((m_nc : Nat) : Int)) (((m_nr : Nat) : Int)) (m_ke) (m_so) (m_bu) (m_bc) (m_pu) (m_qu) (((m_fs : Nat) : Int)) (((m_cd : Nat) : Int)) (m_un) (1) (m_pf) (m_ef) ++ wMP cA m (m_kd) (m_lo) (m_hi) (m_co) (m_pa) (m_rk) (m_nu) (m_ct) (m_sa) ++ wME cA m (m_fr) (m_cs) (m_cn) (m_ck) (m_ch) (m_tb) (m_cr) ++ wMX cA m (m_fx) (m_fv) (m_sn) ++ wMB cA m (m_be) (ta) (m_wy)) rfl dX7_offer_196 ?_
                                refine g_aload_n F 0 rfl rfl dX7_offer_199 ?_
                                refine g_lload_n F 1 rfl rfl dX7_offer_200 ?_
                                refine g_put F iX7 tyX7 tyX7_ok nmX7 0 rfl rfl 15 (by decide) (List.mem_of_getElem? (i := 11) rfl) rfl rfl rfl (Nat.le_of_ble_eq_true rfl) (wMO cA m (((m_nc : Nat) : Int)) (((m_nr : Nat) : Int)) (m_ke) (m_so) (m_bu) (x) (m_pu) (m_qu) (((m_fs : Nat) : Int)) (((m_cd : Nat) : Int)) (m_un) (1) (m_pf) (m_ef) ++ wMP cA m (m_kd) (m_lo) (m_hi) (m_co) (m_pa) (m_rk) (m_nu) (m_ct) (m_sa) ++ wME cA m (m_fr) (m_cs) (m_cn) (m_ck) (m_ch) (m_tb) (m_cr) ++ wMX cA m (m_fx) (m_fv) (m_sn) ++ wMB cA m (m_be) (ta) (m_wy)) rfl dX7_offer_201 ?_
                                refine g_aload_n F 0 rfl rfl dX7_offer_204 ?_
                                refine g_aload_n F 0 rfl rfl dX7_offer_205 ?_
                                refine g_get F hV iX7 0 rfl rfl 29 (by decide) (List.mem_of_getElem? (i := 5) rfl) rfl dX7_offer_206 ?_
                                refine g_put F iX7 tyX7 tyX7_ok nmX7 0 rfl rfl 14 (by decide) (List.mem_of_getElem? (i := 12) rfl) rfl rfl rfl (Nat.le_of_ble_eq_true rfl) (wMO cA m (((m_nc : Nat) : Int)) (((m_nr : Nat) : Int)) (m_ke) (m_so) (m_un) (x) (m_pu) (m_qu) (((m_fs : Nat) : Int)) (((m_cd : Nat) : Int)) (m_un) (1) (m_pf) (m_ef) ++ wMP cA m (m_kd) (m_lo) (m_hi) (m_co) (m_pa) (m_rk) (m_nu) (m_ct) (m_sa) ++ wME cA m (m_fr) (m_cs) (m_cn) (m_ck) (m_ch) (m_tb) (m_cr) ++ wMX cA m (m_fx) (m_fv) (m_sn) ++ wMB cA m (m_be) (ta) (m_wy)) rfl dX7_offer_209 ?_
                                refine g_iconst F dX7_offer_212 ?_
                                refine g_istore F ([(4, iv (0)), (0, .ref (m 0)), (1, jv (x)), (3, iv (L))]) rfl (by decide) dX7_offer_213 ?_
                                have lp215 : ∀ (n : Nat) (k : Nat) (bx : Nat → Int) (hk : k ≤ m_nc) (hbx : bx = mixZ ta m_be k), m_nc - k < n → GW p_ l e_ (headSpec wsX7_offer ({ frames := 1, cells := 0, slots := 0, locals := 31 })).room s_ m_ ([.ref (m 0)]).toArray b_ me_ c_ (MQ b_ (Qm D (fun ov ow => ∃ (tr : Nat → Int) (be : Nat → Int) (bc : Int) (bu : Int) (hb : Int), (isFu m_nc m_fs (bzF m_fx) (frN m_fr) m_fv (ptV m_cr m_un) (ptV tr m_un) ∧ offI m_nc m_co m_be m_bc m_bu m_hb m_un tr be bc bu hb) ∧ ov = none ∧ ow = wMO cA m (((m_nc : Nat) : Int)) (((m_nr : Nat) : Int)) (m_ke) (m_so) (bu) (bc) (m_pu) (m_qu) (((m_fs : Nat) : Int)) (((m_cd : Nat) : Int)) (m_un) (hb) (m_pf) (m_ef) ++ wMP cA m (m_kd) (m_lo) (m_hi) (m_co) (m_pa) (m_rk) (m_nu) (m_ct) (m_sa) ++ wME cA m (m_fr) (m_cs) (m_cn) (m_ck) (m_ch) (m_tb) (m_cr) ++ wMX cA m (m_fx) (m_fv) (m_sn) ++ wMB cA m (be) (tr) (m_wy)) A) ([.ref (m 0)]).toArray s_ 0 0 A) (IM D s_ A) 5 0 0 (wMO cA m (((m_nc : Nat) : Int)) (((m_nr : Nat) : Int)) (m_ke) (m_so) (m_un) (x) (m_pu) (m_qu) (((m_fs : Nat) : Int)) (((m_cd : Nat) : Int)) (m_un) (1) (m_pf) (m_ef) ++ wMP cA m (m_kd) (m_lo) (m_hi) (m_co) (m_pa) (m_rk) (m_nu) (m_ct) (m_sa) ++ wME cA m (m_fr) (m_cs) (m_cn) (m_ck) (m_ch) (m_tb) (m_cr) ++ wMX cA m (m_fx) (m_fv) (m_sn) ++ wMB cA m (bx) (ta) (m_wy)) ([(0, .ref (m 0)), (1, jv (x)), (3, iv (L)), (4, iv (((k : Nat) : Int)))]) [] 215 := by
                                  intro n; induction n with
                                  | zero => intro k bx; intros; omega
                                  | succ n ih215 =>
                                    intro k bx hk hbx hmu215
                                    refine g_iload F 3 rfl dX7_offer_215 ?_
                                    refine g_aload_n F 0 rfl rfl dX7_offer_217 ?_
                                    refine g_get F hV iX7 0 rfl rfl 0 (by decide) (List.mem_of_getElem? (i := 1) rfl) rfl dX7_offer_218 ?_
                                    refine g_icmp_ge F (tgt := 244) dX7_offer_221 (by decide) ⟨by omega, by omega⟩ ⟨by omega, by omega⟩ (fun c_10 => ?_) (fun c_10 => ?_)
                                    · skip
                                      exact g_vret F rfl (by decide) (by decide) ⟨ta, bx, x, m_un, 1, ⟨tf_end hfr hT1 hT2, by rw [hbx, show k = m_nc by omega, hxe]; exact off_put qnc hbs hTb (fun z => by rcases hI with y | y; omega; rw [← hLe y.1]; omega)⟩, rfl, rfl⟩ dX7_offer_244
                                    · skip
                                      refine g_aload_n F 0 rfl rfl dX7_offer_224 ?_
                                      refine g_get F hV iX7 0 rfl rfl 13 (by decide) (List.mem_of_getElem? (i := 13) rfl) rfl dX7_offer_225 ?_
                                      refine g_iload F 3 rfl dX7_offer_228 ?_
                                      refine g_aload_n F 0 rfl rfl dX7_offer_230 ?_
                                      refine g_get F hV iX7 0 rfl rfl 34 (by decide) (List.mem_of_getElem? (i := 2) rfl) rfl dX7_offer_231 ?_
                                      refine g_iload F 3 rfl dX7_offer_234 ?_
                                      refine g_lald F hV 21 rfl (k) (by omega) (by omega) (by decide) dX7_offer_236 ?_
                                      refine g_last F 20 rfl (k) (by omega) (by omega) (by decide) (wMO cA m (((m_nc : Nat) : Int)) (((m_nr : Nat) : Int)) (m_ke) (m_so) (m_un) (x) (m_pu) (m_qu) (((m_fs : Nat) : Int)) (((m_cd : Nat) : Int)) (m_un) (1) (m_pf) (m_ef) ++ wMP cA m (m_kd) (m_lo) (m_hi) (m_co) (m_pa) (m_rk) (m_nu) (m_ct) (m_sa) ++ wME cA m (m_fr) (m_cs) (m_cn) (m_ck) (m_ch) (m_tb) (m_cr) ++ wMX cA m (m_fx) (m_fv) (m_sn) ++ wMB cA m (va_up bx k (ta k)) (ta) (m_wy)) rfl dX7_offer_237 ?_
                                      refine g_iinc F 3 rfl ([(4, iv ((((k : Nat) : Int)) + 1)), (0, .ref (m 0)), (1, jv (x)), (3, iv (L))]) rfl (by decide) dX7_offer_238 ?_
                                      refine g_goto F (tgt := 215) dX7_offer_241 (by decide) ?_
                                      refine g_lsub ([(0, .ref (m 0)), (1, jv (x)), (3, iv (L)), (4, iv ((((k : Nat) : Int)) + 1))]) [1, 2, 3, 0] rfl ?_
                                      exact ih215 (k + 1) (va_up bx k (ta k)) (by omega) (by rw [hbx]; exact mix_up rfl) (by omega)
                                refine g_lsub ([(0, .ref (m 0)), (1, jv (x)), (3, iv (L)), (4, iv (0))]) [1, 2, 3, 0] rfl ?_
                                exact lp215 (_ + 1) 0 m_be (by omega) (mix_0 _ _).symm (Nat.lt_succ_self _)
                            · skip
                              have hp1 := mul_in (x := ta c) (y := m_bu) (a := 70858800000) (b := 8000000) (by have := hTb c (by omega); omega) (by omega) (by decide)
                              have hp2 := mul_in (x := m_be c) (y := m_un) (a := 200000000000) (b := 8000000) (by have := hbe c; omega) (by omega) (by decide)
                              refine g_aload_n F 0 rfl rfl dX7_offer_158 ?_
                              refine g_get F hV iX7 0 rfl rfl 34 (by decide) (List.mem_of_getElem? (i := 2) rfl) rfl dX7_offer_159 ?_
                              refine g_iload F 3 rfl dX7_offer_162 ?_
                              refine g_lald F hV 21 rfl (c) (by omega) (by omega) (by decide) dX7_offer_164 ?_
                              refine g_aload_n F 0 rfl rfl dX7_offer_165 ?_
                              refine g_get F hV iX7 0 rfl rfl 29 (by decide) (List.mem_of_getElem? (i := 5) rfl) rfl dX7_offer_166 ?_
                              refine g_aload_n F 0 rfl rfl dX7_offer_169 ?_
                              refine g_get F hV iX7 0 rfl rfl 13 (by decide) (List.mem_of_getElem? (i := 13) rfl) rfl dX7_offer_170 ?_
                              refine g_iload F 3 rfl dX7_offer_173 ?_
                              refine g_lald F hV 20 rfl (c) (by omega) (by omega) (by decide) dX7_offer_175 ?_
                              refine g_aload_n F 0 rfl rfl dX7_offer_176 ?_
                              refine g_get F hV iX7 0 rfl rfl 14 (by decide) (List.mem_of_getElem? (i := 12) rfl) rfl dX7_offer_177 ?_
                              refine g_callRS F hV (As := [jv (ta c), jv (m_un), jv (m_be c), jv (m_bu)]) (rest := []) (kX7_compared l D cA (ta c) m_un (m_be c) m_bu (hp1) (hp2)) (va_cwS 4 F.2.2.2.2.1 gX7_offer_X7_compared rfl rfl rfl (by decide +kernel) ⟨Nat.le_of_ble_eq_true rfl, Nat.le_of_ble_eq_true rfl⟩) [] rfl rfl rfl (Nat.le_of_ble_eq_true rfl) ⟨Nat.le_of_ble_eq_true rfl, Nat.le_of_ble_eq_true rfl⟩ dX7_offer_180 (fun v hv => ?_)
                              subst hv
                              refine g_eq (st' := [iv (cmpZ ((ta c) * m_bu) ((m_be c) * m_un))]) rfl rfl rfl ?_
                              refine g_istore_n F ([(3, iv (cmpZ ((ta c) * m_bu) ((m_be c) * m_un))), (0, .ref (m 0)), (1, jv (x)), (4, iv (((c : Nat) : Int)))]) rfl rfl (by decide) dX7_offer_183 ?_
                              refine g_iinc F 3 rfl ([(4, iv ((((c : Nat) : Int)) + 1)), (3, iv (cmpZ ((ta c) * m_bu) ((m_be c) * m_un))), (0, .ref (m 0)), (1, jv (x))]) rfl (by decide) dX7_offer_184 ?_
                              refine g_goto F (tgt := 145) dX7_offer_187 (by decide) ?_
                              refine g_lsub ([(0, .ref (m 0)), (1, jv (x)), (3, iv (cmpZ ((ta c) * m_bu) ((m_be c) * m_un))), (4, iv ((((c : Nat) : Int)) + 1))]) [2, 3, 1, 0] rfl ?_
                              exact ih145 (c + 1) (cmpZ ((ta c) * m_bu) ((m_be c) * m_un)) (by omega) (by rcases hI with y | y; omega; exact Or.inr ⟨y.1, by rw [lexZ_succ0 (by rw [← y.2]; omega)]; show _ = cmpZ (aF ta m_bu _ (c + 1)) (bF m_be m_un m_bc (c + 1)); unfold aF bF; rw [if_neg (by omega), if_neg (by omega), Nat.add_sub_cancel]⟩) (cmpZ_rng _ _) (by omega)
                      refine g_lsub ([(0, .ref (m 0)), (1, jv (x)), (3, iv (-1)), (4, iv (0))]) [2, 3, 1, 0] rfl ?_
                      exact lp145 (_ + 1) 0 (-1) (by omega) (Or.inl ⟨by omega, rfl⟩) (by omega) (Nat.lt_succ_self _)
                    · skip
                      have hp1 := mul_in (x := x) (y := m_bu) (a := 70858800000) (b := 8000000) (by rw [hxe]; exact hxb) (by omega) (by decide)
                      have hp2 := mul_in (x := m_bc) (y := m_un) (a := 200000000000) (b := 8000000) (by omega) (by omega) (by decide)
                      refine g_lload_n F 1 rfl rfl dX7_offer_121 ?_
                      refine g_aload_n F 0 rfl rfl dX7_offer_122 ?_
                      refine g_get F hV iX7 0 rfl rfl 29 (by decide) (List.mem_of_getElem? (i := 5) rfl) rfl dX7_offer_123 ?_
                      refine g_aload_n F 0 rfl rfl dX7_offer_126 ?_
                      refine g_get F hV iX7 0 rfl rfl 15 (by decide) (List.mem_of_getElem? (i := 11) rfl) rfl dX7_offer_127 ?_
                      refine g_aload_n F 0 rfl rfl dX7_offer_130 ?_
                      refine g_get F hV iX7 0 rfl rfl 14 (by decide) (List.mem_of_getElem? (i := 12) rfl) rfl dX7_offer_131 ?_
                      refine g_callRS F hV (As := [jv (x), jv (m_un), jv (m_bc), jv (m_bu)]) (rest := []) (kX7_compared l D cA x m_un m_bc m_bu (hp1) (hp2)) (va_cwS 4 F.2.2.2.2.1 gX7_offer_X7_compared rfl rfl rfl (by decide +kernel) ⟨Nat.le_of_ble_eq_true rfl, Nat.le_of_ble_eq_true rfl⟩) [] rfl rfl rfl (Nat.le_of_ble_eq_true rfl) ⟨Nat.le_of_ble_eq_true rfl, Nat.le_of_ble_eq_true rfl⟩ dX7_offer_134 (fun v hv => ?_)
                      subst hv
                      refine g_eq (st' := [iv (cmpZ (x * m_bu) (m_bc * m_un))]) rfl rfl rfl ?_
                      refine g_goto F (tgt := 141) dX7_offer_137 (by decide) ?_
                      refine g_istore_n F ([(3, iv (cmpZ (x * m_bu) (m_bc * m_un))), (0, .ref (m 0)), (1, jv (x))]) rfl rfl (by decide) dX7_offer_141 ?_
                      refine g_iconst F dX7_offer_142 ?_
                      refine g_istore F ([(4, iv (0)), (3, iv (cmpZ (x * m_bu) (m_bc * m_un))), (0, .ref (m 0)), (1, jv (x))]) rfl (by decide) dX7_offer_143 ?_
                      have lp145 : ∀ (n : Nat) (c : Nat) (L : Int) (hc : c ≤ m_nc) (hI : (m_hb = 0 ∧ L = -1) ∨ (m_hb = 1 ∧ L = lexZ (cF ta m_be m_un m_bu (sumZ (fun c => m_co c * ta c) m_nc) m_bc) (c + 1))) (hLr : -1 ≤ L ∧ L ≤ 1), m_nc - c < n → GW p_ l e_ (headSpec wsX7_offer ({ frames := 1, cells := 0, slots := 0, locals := 31 })).room s_ m_ ([.ref (m 0)]).toArray b_ me_ c_ (MQ b_ (Qm D (fun ov ow => ∃ (tr : Nat → Int) (be : Nat → Int) (bc : Int) (bu : Int) (hb : Int), (isFu m_nc m_fs (bzF m_fx) (frN m_fr) m_fv (ptV m_cr m_un) (ptV tr m_un) ∧ offI m_nc m_co m_be m_bc m_bu m_hb m_un tr be bc bu hb) ∧ ov = none ∧ ow = wMO cA m (((m_nc : Nat) : Int)) (((m_nr : Nat) : Int)) (m_ke) (m_so) (bu) (bc) (m_pu) (m_qu) (((m_fs : Nat) : Int)) (((m_cd : Nat) : Int)) (m_un) (hb) (m_pf) (m_ef) ++ wMP cA m (m_kd) (m_lo) (m_hi) (m_co) (m_pa) (m_rk) (m_nu) (m_ct) (m_sa) ++ wME cA m (m_fr) (m_cs) (m_cn) (m_ck) (m_ch) (m_tb) (m_cr) ++ wMX cA m (m_fx) (m_fv) (m_sn) ++ wMB cA m (be) (tr) (m_wy)) A) ([.ref (m 0)]).toArray s_ 0 0 A) (IM D s_ A) 5 0 0 (wMO cA m (((m_nc : Nat) : Int)) (((m_nr : Nat) : Int)) (m_ke) (m_so) (m_bu) (m_bc) (m_pu) (m_qu) (((m_fs : Nat) : Int)) (((m_cd : Nat) : Int)) (m_un) (m_hb) (m_pf) (m_ef) ++ wMP cA m (m_kd) (m_lo) (m_hi) (m_co) (m_pa) (m_rk) (m_nu) (m_ct) (m_sa) ++ wME cA m (m_fr) (m_cs) (m_cn) (m_ck) (m_ch) (m_tb) (m_cr) ++ wMX cA m (m_fx) (m_fv) (m_sn) ++ wMB cA m (m_be) (ta) (m_wy)) ([(0, .ref (m 0)), (1, jv (x)), (3, iv (L)), (4, iv (((c : Nat) : Int)))]) [] 145 := by
                        intro n; induction n with
                        | zero => intro c L; intros; omega
                        | succ n ih145 =>
                          intro c L hc hI hLr hmu145
                          refine g_iload F 3 rfl dX7_offer_145 ?_
                          refine g_aload_n F 0 rfl rfl dX7_offer_147 ?_
                          refine g_get F hV iX7 0 rfl rfl 0 (by decide) (List.mem_of_getElem? (i := 1) rfl) rfl dX7_offer_148 ?_
                          refine g_icmp_ge F (tgt := 190) dX7_offer_151 (by decide) ⟨by omega, by omega⟩ ⟨by omega, by omega⟩ (fun c_11 => ?_) (fun c_11 => ?_)
                          · skip
                            have hLe : m_hb = 1 → L = lexZ (cF ta m_be m_un m_bu (sumZ (fun c => m_co c * ta c) m_nc) m_bc) (m_nc + 1) := fun y1 => by rcases hI with y | y; omega; rcases (show c = m_nc ∨ L ≠ 0 by omega) with z | z; (rw [y.2, z]); (have z2 := z; rw [y.2] at z2; rw [y.2]; exact (lexZ_far z2 (by omega)).symm)
                            refine g_iload_n F 2 rfl rfl dX7_offer_190 ?_
                            refine g_if_ge F (tgt := 244) dX7_offer_191 (by decide) ⟨by omega, by omega⟩ (fun c_12 => ?_) (fun c_12 => ?_)
                            · skip
                              exact g_vret F rfl (by decide) (by decide) ⟨ta, m_be, m_bc, m_bu, m_hb, ⟨tf_end hfr hT1 hT2, by rcases hI with y | y; omega; exact off_keep qnc hbs y.1 hTb (by rw [← hLe y.1]; omega)⟩, rfl, rfl⟩ dX7_offer_244
                            · skip
                              refine g_aload_n F 0 rfl rfl dX7_offer_194 ?_
                              refine g_iconst F dX7_offer_195 ?_
                              refine g_put F iX7 tyX7 tyX7_ok nmX7 0 rfl rfl 33 (by decide) (List.mem_of_getElem? (i := 10) rfl) rfl (nar_01 (Or.inr rfl)) rfl (Nat.le_of_ble_eq_true rfl) (wMO cA m (((m_nc : Nat) : Int)) (((m_nr : Nat) : Int)) (m_ke) (m_so) (m_bu) (m_bc) (m_pu) (m_qu) (((m_fs : Nat) : Int)) (((m_cd : Nat) : Int)) (m_un) (1) (m_pf) (m_ef) ++ wMP cA m (m_kd) (m_lo) (m_hi) (m_co) (m_pa) (m_rk) (m_nu) (m_ct) (m_sa) ++ wME cA m (m_fr) (m_cs) (m_cn) (m_ck) (m_ch) (m_tb) (m_cr) ++ wMX cA m (m_fx) (m_fv) (m_sn) ++ wMB cA m (m_be) (ta) (m_wy)) rfl dX7_offer_196 ?_
                              refine g_aload_n F 0 rfl rfl dX7_offer_199 ?_
                              refine g_lload_n F 1 rfl rfl dX7_offer_200 ?_
                              refine g_put F iX7 tyX7 tyX7_ok nmX7 0 rfl rfl 15 (by decide) (List.mem_of_getElem? (i := 11) rfl) rfl rfl rfl (Nat.le_of_ble_eq_true rfl) (wMO cA m (((m_nc : Nat) : Int)) (((m_nr : Nat) : Int)) (m_ke) (m_so) (m_bu) (x) (m_pu) (m_qu) (((m_fs : Nat) : Int)) (((m_cd : Nat) : Int)) (m_un) (1) (m_pf) (m_ef) ++ wMP cA m (m_kd) (m_lo) (m_hi) (m_co) (m_pa) (m_rk) (m_nu) (m_ct) (m_sa) ++ wME cA m (m_fr) (m_cs) (m_cn) (m_ck) (m_ch) (m_tb) (m_cr) ++ wMX cA m (m_fx) (m_fv) (m_sn) ++ wMB cA m (m_be) (ta) (m_wy)) rfl dX7_offer_201 ?_
                              refine g_aload_n F 0 rfl rfl dX7_offer_204 ?_
                              refine g_aload_n F 0 rfl rfl dX7_offer_205 ?_
                              refine g_get F hV iX7 0 rfl rfl 29 (by decide) (List.mem_of_getElem? (i := 5) rfl) rfl dX7_offer_206 ?_
                              refine g_put F iX7 tyX7 tyX7_ok nmX7 0 rfl rfl 14 (by decide) (List.mem_of_getElem? (i := 12) rfl) rfl rfl rfl (Nat.le_of_ble_eq_true rfl) (wMO cA m (((m_nc : Nat) : Int)) (((m_nr : Nat) : Int)) (m_ke) (m_so) (m_un) (x) (m_pu) (m_qu) (((m_fs : Nat) : Int)) (((m_cd : Nat) : Int)) (m_un) (1) (m_pf) (m_ef) ++ wMP cA m (m_kd) (m_lo) (m_hi) (m_co) (m_pa) (m_rk) (m_nu) (m_ct) (m_sa) ++ wME cA m (m_fr) (m_cs) (m_cn) (m_ck) (m_ch) (m_tb) (m_cr) ++ wMX cA m (m_fx) (m_fv) (m_sn) ++ wMB cA m (m_be) (ta) (m_wy)) rfl dX7_offer_209 ?_
                              refine g_iconst F dX7_offer_212 ?_
                              refine g_istore F ([(4, iv (0)), (0, .ref (m 0)), (1, jv (x)), (3, iv (L))]) rfl (by decide) dX7_offer_213 ?_
                              have lp215 : ∀ (n : Nat) (k : Nat) (bx : Nat → Int) (hk : k ≤ m_nc) (hbx : bx = mixZ ta m_be k), m_nc - k < n → GW p_ l e_ (headSpec wsX7_offer ({ frames := 1, cells := 0, slots := 0, locals := 31 })).room s_ m_ ([.ref (m 0)]).toArray b_ me_ c_ (MQ b_ (Qm D (fun ov ow => ∃ (tr : Nat → Int) (be : Nat → Int) (bc : Int) (bu : Int) (hb : Int), (isFu m_nc m_fs (bzF m_fx) (frN m_fr) m_fv (ptV m_cr m_un) (ptV tr m_un) ∧ offI m_nc m_co m_be m_bc m_bu m_hb m_un tr be bc bu hb) ∧ ov = none ∧ ow = wMO cA m (((m_nc : Nat) : Int)) (((m_nr : Nat) : Int)) (m_ke) (m_so) (bu) (bc) (m_pu) (m_qu) (((m_fs : Nat) : Int)) (((m_cd : Nat) : Int)) (m_un) (hb) (m_pf) (m_ef) ++ wMP cA m (m_kd) (m_lo) (m_hi) (m_co) (m_pa) (m_rk) (m_nu) (m_ct) (m_sa) ++ wME cA m (m_fr) (m_cs) (m_cn) (m_ck) (m_ch) (m_tb) (m_cr) ++ wMX cA m (m_fx) (m_fv) (m_sn) ++ wMB cA m (be) (tr) (m_wy)) A) ([.ref (m 0)]).toArray s_ 0 0 A) (IM D s_ A) 5 0 0 (wMO cA m (((m_nc : Nat) : Int)) (((m_nr : Nat) : Int)) (m_ke) (m_so) (m_un) (x) (m_pu) (m_qu) (((m_fs : Nat) : Int)) (((m_cd : Nat) : Int)) (m_un) (1) (m_pf) (m_ef) ++ wMP cA m (m_kd) (m_lo) (m_hi) (m_co) (m_pa) (m_rk) (m_nu) (m_ct) (m_sa) ++ wME cA m (m_fr) (m_cs) (m_cn) (m_ck) (m_ch) (m_tb) (m_cr) ++ wMX cA m (m_fx) (m_fv) (m_sn) ++ wMB cA m (bx) (ta) (m_wy)) ([(0, .ref (m 0)), (1, jv (x)), (3, iv (L)), (4, iv (((k : Nat) : Int)))]) [] 215 := by
                                intro n; induction n with
                                | zero => intro k bx; intros; omega
                                | succ n ih215 =>
                                  intro k bx hk hbx hmu215
                                  refine g_iload F 3 rfl dX7_offer_215 ?_
                                  refine g_aload_n F 0 rfl rfl dX7_offer_217 ?_
                                  refine g_get F hV iX7 0 rfl rfl 0 (by decide) (List.mem_of_getElem? (i := 1) rfl) rfl dX7_offer_218 ?_
                                  refine g_icmp_ge F (tgt := 244) dX7_offer_221 (by decide) ⟨by omega, by omega⟩ ⟨by omega, by omega⟩ (fun c_13 => ?_) (fun c_13 => ?_)
                                  · skip
                                    exact g_vret F rfl (by decide) (by decide) ⟨ta, bx, x, m_un, 1, ⟨tf_end hfr hT1 hT2, by rw [hbx, show k = m_nc by omega, hxe]; exact off_put qnc hbs hTb (fun z => by rcases hI with y | y; omega; rw [← hLe y.1]; omega)⟩, rfl, rfl⟩ dX7_offer_244
                                  · skip
                                    refine g_aload_n F 0 rfl rfl dX7_offer_224 ?_
                                    refine g_get F hV iX7 0 rfl rfl 13 (by decide) (List.mem_of_getElem? (i := 13) rfl) rfl dX7_offer_225 ?_
                                    refine g_iload F 3 rfl dX7_offer_228 ?_
                                    refine g_aload_n F 0 rfl rfl dX7_offer_230 ?_
                                    refine g_get F hV iX7 0 rfl rfl 34 (by decide) (List.mem_of_getElem? (i := 2) rfl) rfl dX7_offer_231 ?_
                                    refine g_iload F 3 rfl dX7_offer_234 ?_
                                    refine g_lald F hV 21 rfl (k) (by omega) (by omega) (by decide) dX7_offer_236 ?_
                                    refine g_last F 20 rfl (k) (by omega) (by omega) (by decide) (wMO cA m (((m_nc : Nat) : Int)) (((m_nr : Nat) : Int)) (m_ke) (m_so) (m_un) (x) (m_pu) (m_qu) (((m_fs : Nat) : Int)) (((m_cd : Nat) : Int)) (m_un) (1) (m_pf) (m_ef) ++ wMP cA m (m_kd) (m_lo) (m_hi) (m_co) (m_pa) (m_rk) (m_nu) (m_ct) (m_sa) ++ wME cA m (m_fr) (m_cs) (m_cn) (m_ck) (m_ch) (m_tb) (m_cr) ++ wMX cA m (m_fx) (m_fv) (m_sn) ++ wMB cA m (va_up bx k (ta k)) (ta) (m_wy)) rfl dX7_offer_237 ?_
                                    refine g_iinc F 3 rfl ([(4, iv ((((k : Nat) : Int)) + 1)), (0, .ref (m 0)), (1, jv (x)), (3, iv (L))]) rfl (by decide) dX7_offer_238 ?_
                                    refine g_goto F (tgt := 215) dX7_offer_241 (by decide) ?_
                                    refine g_lsub ([(0, .ref (m 0)), (1, jv (x)), (3, iv (L)), (4, iv ((((k : Nat) : Int)) + 1))]) [1, 2, 3, 0] rfl ?_
                                    exact ih215 (k + 1) (va_up bx k (ta k)) (by omega) (by rw [hbx]; exact mix_up rfl) (by omega)
                              refine g_lsub ([(0, .ref (m 0)), (1, jv (x)), (3, iv (L)), (4, iv (0))]) [1, 2, 3, 0] rfl ?_
                              exact lp215 (_ + 1) 0 m_be (by omega) (mix_0 _ _).symm (Nat.lt_succ_self _)
                          · skip
                            refine g_iload_n F 2 rfl rfl dX7_offer_154 ?_
                            refine g_if_ne F (tgt := 190) dX7_offer_155 (by decide) ⟨by omega, by omega⟩ (fun c_14 => ?_) (fun c_14 => ?_)
                            · skip
                              have hLe : m_hb = 1 → L = lexZ (cF ta m_be m_un m_bu (sumZ (fun c => m_co c * ta c) m_nc) m_bc) (m_nc + 1) := fun y1 => by rcases hI with y | y; omega; rcases (show c = m_nc ∨ L ≠ 0 by omega) with z | z; (rw [y.2, z]); (have z2 := z; rw [y.2] at z2; rw [y.2]; exact (lexZ_far z2 (by omega)).symm)
                              refine g_iload_n F 2 rfl rfl dX7_offer_190 ?_
                              refine g_if_ge F (tgt := 244) dX7_offer_191 (by decide) ⟨by omega, by omega⟩ (fun c_15 => ?_) (fun c_15 => ?_)
                              · skip
                                exact g_vret F rfl (by decide) (by decide) ⟨ta, m_be, m_bc, m_bu, m_hb, ⟨tf_end hfr hT1 hT2, by rcases hI with y | y; omega; exact off_keep qnc hbs y.1 hTb (by rw [← hLe y.1]; omega)⟩, rfl, rfl⟩ dX7_offer_244
                              · skip
                                refine g_aload_n F 0 rfl rfl dX7_offer_194 ?_
                                refine g_iconst F dX7_offer_195 ?_
                                refine g_put F iX7 tyX7 tyX7_ok nmX7 0 rfl rfl 33 (by decide) (List.mem_of_getElem? (i := 10) rfl) rfl (nar_01 (Or.inr rfl)) rfl (Nat.le_of_ble_eq_true rfl) (wMO cA m (((m_nc : Nat) : Int)) (((m_nr : Nat) : Int)) (m_ke) (m_so) (m_bu) (m_bc) (m_pu) (m_qu) (((m_fs : Nat) : Int)) (((m_cd : Nat) : Int)) (m_un) (1) (m_pf) (m_ef) ++ wMP cA m (m_kd) (m_lo) (m_hi) (m_co) (m_pa) (m_rk) (m_nu) (m_ct) (m_sa) ++ wME cA m (m_fr) (m_cs) (m_cn) (m_ck) (m_ch) (m_tb) (m_cr) ++ wMX cA m (m_fx) (m_fv) (m_sn) ++ wMB cA m (m_be) (ta) (m_wy)) rfl dX7_offer_196 ?_
                                refine g_aload_n F 0 rfl rfl dX7_offer_199 ?_
                                refine g_lload_n F 1 rfl rfl dX7_offer_200 ?_
                                refine g_put F iX7 tyX7 tyX7_ok nmX7 0 rfl rfl 15 (by decide) (List.mem_of_getElem? (i := 11) rfl) rfl rfl rfl (Nat.le_of_ble_eq_true rfl) (wMO cA m (((m_nc : Nat) : Int)) (((m_nr : Nat) : Int)) (m_ke) (m_so) (m_bu) (x) (m_pu) (m_qu) (((m_fs : Nat) : Int)) (((m_cd : Nat) : Int)) (m_un) (1) (m_pf) (m_ef) ++ wMP cA m (m_kd) (m_lo) (m_hi) (m_co) (m_pa) (m_rk) (m_nu) (m_ct) (m_sa) ++ wME cA m (m_fr) (m_cs) (m_cn) (m_ck) (m_ch) (m_tb) (m_cr) ++ wMX cA m (m_fx) (m_fv) (m_sn) ++ wMB cA m (m_be) (ta) (m_wy)) rfl dX7_offer_201 ?_
                                refine g_aload_n F 0 rfl rfl dX7_offer_204 ?_
                                refine g_aload_n F 0 rfl rfl dX7_offer_205 ?_
                                refine g_get F hV iX7 0 rfl rfl 29 (by decide) (List.mem_of_getElem? (i := 5) rfl) rfl dX7_offer_206 ?_
                                refine g_put F iX7 tyX7 tyX7_ok nmX7 0 rfl rfl 14 (by decide) (List.mem_of_getElem? (i := 12) rfl) rfl rfl rfl (Nat.le_of_ble_eq_true rfl) (wMO cA m (((m_nc : Nat) : Int)) (((m_nr : Nat) : Int)) (m_ke) (m_so) (m_un) (x) (m_pu) (m_qu) (((m_fs : Nat) : Int)) (((m_cd : Nat) : Int)) (m_un) (1) (m_pf) (m_ef) ++ wMP cA m (m_kd) (m_lo) (m_hi) (m_co) (m_pa) (m_rk) (m_nu) (m_ct) (m_sa) ++ wME cA m (m_fr) (m_cs) (m_cn) (m_ck) (m_ch) (m_tb) (m_cr) ++ wMX cA m (m_fx) (m_fv) (m_sn) ++ wMB cA m (m_be) (ta) (m_wy)) rfl dX7_offer_209 ?_
                                refine g_iconst F dX7_offer_212 ?_
                                refine g_istore F ([(4, iv (0)), (0, .ref (m 0)), (1, jv (x)), (3, iv (L))]) rfl (by decide) dX7_offer_213 ?_
                                have lp215 : ∀ (n : Nat) (k : Nat) (bx : Nat → Int) (hk : k ≤ m_nc) (hbx : bx = mixZ ta m_be k), m_nc - k < n → GW p_ l e_ (headSpec wsX7_offer ({ frames := 1, cells := 0, slots := 0, locals := 31 })).room s_ m_ ([.ref (m 0)]).toArray b_ me_ c_ (MQ b_ (Qm D (fun ov ow => ∃ (tr : Nat → Int) (be : Nat → Int) (bc : Int) (bu : Int) (hb : Int), (isFu m_nc m_fs (bzF m_fx) (frN m_fr) m_fv (ptV m_cr m_un) (ptV tr m_un) ∧ offI m_nc m_co m_be m_bc m_bu m_hb m_un tr be bc bu hb) ∧ ov = none ∧ ow = wMO cA m (((m_nc : Nat) : Int)) (((m_nr : Nat) : Int)) (m_ke) (m_so) (bu) (bc) (m_pu) (m_qu) (((m_fs : Nat) : Int)) (((m_cd : Nat) : Int)) (m_un) (hb) (m_pf) (m_ef) ++ wMP cA m (m_kd) (m_lo) (m_hi) (m_co) (m_pa) (m_rk) (m_nu) (m_ct) (m_sa) ++ wME cA m (m_fr) (m_cs) (m_cn) (m_ck) (m_ch) (m_tb) (m_cr) ++ wMX cA m (m_fx) (m_fv) (m_sn) ++ wMB cA m (be) (tr) (m_wy)) A) ([.ref (m 0)]).toArray s_ 0 0 A) (IM D s_ A) 5 0 0 (wMO cA m (((m_nc : Nat) : Int)) (((m_nr : Nat) : Int)) (m_ke) (m_so) (m_un) (x) (m_pu) (m_qu) (((m_fs : Nat) : Int)) (((m_cd : Nat) : Int)) (m_un) (1) (m_pf) (m_ef) ++ wMP cA m (m_kd) (m_lo) (m_hi) (m_co) (m_pa) (m_rk) (m_nu) (m_ct) (m_sa) ++ wME cA m (m_fr) (m_cs) (m_cn) (m_ck) (m_ch) (m_tb) (m_cr) ++ wMX cA m (m_fx) (m_fv) (m_sn) ++ wMB cA m (bx) (ta) (m_wy)) ([(0, .ref (m 0)), (1, jv (x)), (3, iv (L)), (4, iv (((k : Nat) : Int)))]) [] 215 := by
                                  intro n; induction n with
                                  | zero => intro k bx; intros; omega
                                  | succ n ih215 =>
                                    intro k bx hk hbx hmu215
                                    refine g_iload F 3 rfl dX7_offer_215 ?_
                                    refine g_aload_n F 0 rfl rfl dX7_offer_217 ?_
                                    refine g_get F hV iX7 0 rfl rfl 0 (by decide) (List.mem_of_getElem? (i := 1) rfl) rfl dX7_offer_218 ?_
                                    refine g_icmp_ge F (tgt := 244) dX7_offer_221 (by decide) ⟨by omega, by omega⟩ ⟨by omega, by omega⟩ (fun c_16 => ?_) (fun c_16 => ?_)
                                    · skip
                                      exact g_vret F rfl (by decide) (by decide) ⟨ta, bx, x, m_un, 1, ⟨tf_end hfr hT1 hT2, by rw [hbx, show k = m_nc by omega, hxe]; exact off_put qnc hbs hTb (fun z => by rcases hI with y | y; omega; rw [← hLe y.1]; omega)⟩, rfl, rfl⟩ dX7_offer_244
                                    · skip
                                      refine g_aload_n F 0 rfl rfl dX7_offer_224 ?_
                                      refine g_get F hV iX7 0 rfl rfl 13 (by decide) (List.mem_of_getElem? (i := 13) rfl) rfl dX7_offer_225 ?_
                                      refine g_iload F 3 rfl dX7_offer_228 ?_
                                      refine g_aload_n F 0 rfl rfl dX7_offer_230 ?_
                                      refine g_get F hV iX7 0 rfl rfl 34 (by decide) (List.mem_of_getElem? (i := 2) rfl) rfl dX7_offer_231 ?_
                                      refine g_iload F 3 rfl dX7_offer_234 ?_
                                      refine g_lald F hV 21 rfl (k) (by omega) (by omega) (by decide) dX7_offer_236 ?_
                                      refine g_last F 20 rfl (k) (by omega) (by omega) (by decide) (wMO cA m (((m_nc : Nat) : Int)) (((m_nr : Nat) : Int)) (m_ke) (m_so) (m_un) (x) (m_pu) (m_qu) (((m_fs : Nat) : Int)) (((m_cd : Nat) : Int)) (m_un) (1) (m_pf) (m_ef) ++ wMP cA m (m_kd) (m_lo) (m_hi) (m_co) (m_pa) (m_rk) (m_nu) (m_ct) (m_sa) ++ wME cA m (m_fr) (m_cs) (m_cn) (m_ck) (m_ch) (m_tb) (m_cr) ++ wMX cA m (m_fx) (m_fv) (m_sn) ++ wMB cA m (va_up bx k (ta k)) (ta) (m_wy)) rfl dX7_offer_237 ?_
                                      refine g_iinc F 3 rfl ([(4, iv ((((k : Nat) : Int)) + 1)), (0, .ref (m 0)), (1, jv (x)), (3, iv (L))]) rfl (by decide) dX7_offer_238 ?_
                                      refine g_goto F (tgt := 215) dX7_offer_241 (by decide) ?_
                                      refine g_lsub ([(0, .ref (m 0)), (1, jv (x)), (3, iv (L)), (4, iv ((((k : Nat) : Int)) + 1))]) [1, 2, 3, 0] rfl ?_
                                      exact ih215 (k + 1) (va_up bx k (ta k)) (by omega) (by rw [hbx]; exact mix_up rfl) (by omega)
                                refine g_lsub ([(0, .ref (m 0)), (1, jv (x)), (3, iv (L)), (4, iv (0))]) [1, 2, 3, 0] rfl ?_
                                exact lp215 (_ + 1) 0 m_be (by omega) (mix_0 _ _).symm (Nat.lt_succ_self _)
                            · skip
                              have hp1 := mul_in (x := ta c) (y := m_bu) (a := 70858800000) (b := 8000000) (by have := hTb c (by omega); omega) (by omega) (by decide)
                              have hp2 := mul_in (x := m_be c) (y := m_un) (a := 200000000000) (b := 8000000) (by have := hbe c; omega) (by omega) (by decide)
                              refine g_aload_n F 0 rfl rfl dX7_offer_158 ?_
                              refine g_get F hV iX7 0 rfl rfl 34 (by decide) (List.mem_of_getElem? (i := 2) rfl) rfl dX7_offer_159 ?_
                              refine g_iload F 3 rfl dX7_offer_162 ?_
                              refine g_lald F hV 21 rfl (c) (by omega) (by omega) (by decide) dX7_offer_164 ?_
                              refine g_aload_n F 0 rfl rfl dX7_offer_165 ?_
                              refine g_get F hV iX7 0 rfl rfl 29 (by decide) (List.mem_of_getElem? (i := 5) rfl) rfl dX7_offer_166 ?_
                              refine g_aload_n F 0 rfl rfl dX7_offer_169 ?_
                              refine g_get F hV iX7 0 rfl rfl 13 (by decide) (List.mem_of_getElem? (i := 13) rfl) rfl dX7_offer_170 ?_
                              refine g_iload F 3 rfl dX7_offer_173 ?_
                              refine g_lald F hV 20 rfl (c) (by omega) (by omega) (by decide) dX7_offer_175 ?_
                              refine g_aload_n F 0 rfl rfl dX7_offer_176 ?_
                              refine g_get F hV iX7 0 rfl rfl 14 (by decide) (List.mem_of_getElem? (i := 12) rfl) rfl dX7_offer_177 ?_
                              refine g_callRS F hV (As := [jv (ta c), jv (m_un), jv (m_be c), jv (m_bu)]) (rest := []) (kX7_compared l D cA (ta c) m_un (m_be c) m_bu (hp1) (hp2)) (va_cwS 4 F.2.2.2.2.1 gX7_offer_X7_compared rfl rfl rfl (by decide +kernel) ⟨Nat.le_of_ble_eq_true rfl, Nat.le_of_ble_eq_true rfl⟩) [] rfl rfl rfl (Nat.le_of_ble_eq_true rfl) ⟨Nat.le_of_ble_eq_true rfl, Nat.le_of_ble_eq_true rfl⟩ dX7_offer_180 (fun v hv => ?_)
                              subst hv
                              refine g_eq (st' := [iv (cmpZ ((ta c) * m_bu) ((m_be c) * m_un))]) rfl rfl rfl ?_
                              refine g_istore_n F ([(3, iv (cmpZ ((ta c) * m_bu) ((m_be c) * m_un))), (0, .ref (m 0)), (1, jv (x)), (4, iv (((c : Nat) : Int)))]) rfl rfl (by decide) dX7_offer_183 ?_
                              refine g_iinc F 3 rfl ([(4, iv ((((c : Nat) : Int)) + 1)), (3, iv (cmpZ ((ta c) * m_bu) ((m_be c) * m_un))), (0, .ref (m 0)), (1, jv (x))]) rfl (by decide) dX7_offer_184 ?_
                              refine g_goto F (tgt := 145) dX7_offer_187 (by decide) ?_
                              refine g_lsub ([(0, .ref (m 0)), (1, jv (x)), (3, iv (cmpZ ((ta c) * m_bu) ((m_be c) * m_un))), (4, iv ((((c : Nat) : Int)) + 1))]) [2, 3, 1, 0] rfl ?_
                              exact ih145 (c + 1) (cmpZ ((ta c) * m_bu) ((m_be c) * m_un)) (by omega) (by rcases hI with y | y; omega; exact Or.inr ⟨y.1, by rw [lexZ_succ0 (by rw [← y.2]; omega)]; show _ = cmpZ (aF ta m_bu _ (c + 1)) (bF m_be m_un m_bc (c + 1)); unfold aF bF; rw [if_neg (by omega), if_neg (by omega), Nat.add_sub_cancel]⟩) (cmpZ_rng _ _) (by omega)
                      refine g_lsub ([(0, .ref (m 0)), (1, jv (x)), (3, iv (cmpZ (x * m_bu) (m_bc * m_un))), (4, iv (0))]) [2, 3, 1, 0] rfl ?_
                      exact lp145 (_ + 1) 0 (cmpZ (x * m_bu) (m_bc * m_un)) (by omega) (Or.inr ⟨by omega, by rw [hxe, lexZ_succ0 (n := 0) rfl]; show _ = cmpZ (aF ta m_bu _ 0) (bF m_be m_un m_bc 0); unfold aF bF; rw [if_pos rfl, if_pos rfl]⟩) (cmpZ_rng _ _) (Nat.lt_succ_self _)
                  · skip
                    refine g_lload_n F 1 rfl rfl dX7_offer_91 ?_
                    refine g_aload_n F 0 rfl rfl dX7_offer_92 ?_
                    refine g_get F hV iX7 0 rfl rfl 4 (by decide) (List.mem_of_getElem? (i := 9) rfl) rfl dX7_offer_93 ?_
                    refine g_iload_n F 2 rfl rfl dX7_offer_96 ?_
                    have r_17 := hco (c)
                    refine g_iald F hV 4 rfl (c) (by omega) (by omega) (by decide) dX7_offer_97 ?_
                    refine g_i2l F ⟨by omega, by omega⟩ dX7_offer_98 ?_
                    refine g_aload_n F 0 rfl rfl dX7_offer_99 ?_
                    refine g_get F hV iX7 0 rfl rfl 34 (by decide) (List.mem_of_getElem? (i := 2) rfl) rfl dX7_offer_100 ?_
                    refine g_iload_n F 2 rfl rfl dX7_offer_103 ?_
                    refine g_lald F hV 21 rfl (c) (by omega) (by omega) (by decide) dX7_offer_104 ?_
                    refine g_lmul F dX7_offer_105 ?_
                    refine g_ladd F dX7_offer_106 ?_
                    refine g_lstore_n F ([(1, jv (x + ((m_co c) * (ta c)))), (0, .ref (m 0)), (3, iv (((c : Nat) : Int)))]) rfl rfl (by decide) dX7_offer_107 ?_
                    refine g_iinc F 2 rfl ([(3, iv ((((c : Nat) : Int)) + 1)), (1, jv (x + ((m_co c) * (ta c)))), (0, .ref (m 0))]) rfl (by decide) dX7_offer_108 ?_
                    refine g_goto F (tgt := 83) dX7_offer_111 (by decide) ?_
                    refine g_lsub ([(0, .ref (m 0)), (1, jv (x + ((m_co c) * (ta c)))), (3, iv ((((c : Nat) : Int)) + 1))]) [2, 1, 0] rfl ?_
                    exact ih83 (c + 1) (x + ((m_co c) * (ta c))) (by omega) (by rw [hx]; rfl) (by omega)
              refine g_lsub ([(0, .ref (m 0)), (1, jv (0)), (3, iv (0))]) [1, 2, 0] rfl ?_
              exact lp83 (_ + 1) 0 0 (by omega) (rfl) (Nat.lt_succ_self _)
            · skip
              have hf9 := hfj j (by omega)
              refine g_aload_n F 0 rfl rfl dX7_offer_58 ?_
              refine g_get F hV iX7 0 rfl rfl 34 (by decide) (List.mem_of_getElem? (i := 2) rfl) rfl dX7_offer_59 ?_
              refine g_aload_n F 0 rfl rfl dX7_offer_62 ?_
              refine g_get F hV iX7 0 rfl rfl 20 (by decide) (List.mem_of_getElem? (i := 7) rfl) rfl dX7_offer_63 ?_
              refine g_iload_n F 2 rfl rfl dX7_offer_66 ?_
              refine g_iald F hV 10 rfl (j) (by omega) (by omega) (by decide) dX7_offer_67 ?_
              refine g_aload_n F 0 rfl rfl dX7_offer_68 ?_
              refine g_get F hV iX7 0 rfl rfl 28 (by decide) (List.mem_of_getElem? (i := 8) rfl) rfl dX7_offer_69 ?_
              refine g_iload_n F 2 rfl rfl dX7_offer_72 ?_
              refine g_lald F hV 16 rfl (j) (by omega) (by omega) (by decide) dX7_offer_73 ?_
              refine g_last F 21 rfl ((m_fr j).toNat) (by omega) (by omega) (by decide) (wMO cA m (((m_nc : Nat) : Int)) (((m_nr : Nat) : Int)) (m_ke) (m_so) (m_bu) (m_bc) (m_pu) (m_qu) (((m_fs : Nat) : Int)) (((m_cd : Nat) : Int)) (m_un) (m_hb) (m_pf) (m_ef) ++ wMP cA m (m_kd) (m_lo) (m_hi) (m_co) (m_pa) (m_rk) (m_nu) (m_ct) (m_sa) ++ wME cA m (m_fr) (m_cs) (m_cn) (m_ck) (m_ch) (m_tb) (m_cr) ++ wMX cA m (m_fx) (m_fv) (m_sn) ++ wMB cA m (m_be) (va_up ta ((m_fr j).toNat) (m_cr j)) (m_wy)) rfl dX7_offer_74 ?_
              refine g_iinc F 2 rfl ([(3, iv ((((j : Nat) : Int)) + 1)), (0, .ref (m 0)), (1, jv (0))]) rfl (by decide) dX7_offer_75 ?_
              refine g_goto F (tgt := 50) dX7_offer_78 (by decide) ?_
              refine g_lsub ([(0, .ref (m 0)), (1, jv (0)), (3, iv ((((j : Nat) : Int)) + 1))]) [1, 2, 0] rfl ?_
              exact ih50 (j + 1) (va_up ta ((m_fr j).toNat) (m_cr j)) (by omega) (tf_0 hfr (by omega) hT1 hT2).1 (tf_0 hfr (by omega) hT1 hT2).2 (by omega)
        refine g_lsub ([(0, .ref (m 0)), (1, jv (0)), (3, iv (0))]) [1, 2, 0] rfl ?_
        exact lp50 (_ + 1) 0 ta (by omega) (fun q hq => hT1 q (by omega)) (fun i hi => absurd hi (Nat.not_lt_zero i)) (Nat.lt_succ_self _)
      · skip
        refine g_aload_n F 0 rfl rfl dX7_offer_12 ?_
        refine g_get F hV iX7 0 rfl rfl 34 (by decide) (List.mem_of_getElem? (i := 2) rfl) rfl dX7_offer_13 ?_
        refine g_iload_n F 2 rfl rfl dX7_offer_16 ?_
        refine g_aload_n F 0 rfl rfl dX7_offer_17 ?_
        refine g_get F hV iX7 0 rfl rfl 30 (by decide) (List.mem_of_getElem? (i := 3) rfl) rfl dX7_offer_18 ?_
        refine g_iload_n F 2 rfl rfl dX7_offer_21 ?_
        have r_18 := hfx (c)
        refine g_zald F hV 17 rfl (c) (by omega) (by omega) (by decide) dX7_offer_22 ?_
        refine g_if_eq F (tgt := 40) dX7_offer_23 (by decide) ⟨by omega, by omega⟩ (fun c_19 => ?_) (fun c_19 => ?_)
        · skip
          refine g_lconst F (z := 0) dX7_offer_40 (by decide) ?_
          refine g_last F 21 rfl (c) (by omega) (by omega) (by decide) (wMO cA m (((m_nc : Nat) : Int)) (((m_nr : Nat) : Int)) (m_ke) (m_so) (m_bu) (m_bc) (m_pu) (m_qu) (((m_fs : Nat) : Int)) (((m_cd : Nat) : Int)) (m_un) (m_hb) (m_pf) (m_ef) ++ wMP cA m (m_kd) (m_lo) (m_hi) (m_co) (m_pa) (m_rk) (m_nu) (m_ct) (m_sa) ++ wME cA m (m_fr) (m_cs) (m_cn) (m_ck) (m_ch) (m_tb) (m_cr) ++ wMX cA m (m_fx) (m_fv) (m_sn) ++ wMB cA m (m_be) (va_up ta c 0) (m_wy)) rfl dX7_offer_41 ?_
          refine g_iinc F 2 rfl ([(3, iv ((((c : Nat) : Int)) + 1)), (0, .ref (m 0)), (1, jv (0))]) rfl (by decide) dX7_offer_42 ?_
          refine g_goto F (tgt := 4) dX7_offer_45 (by decide) ?_
          refine g_lsub ([(0, .ref (m 0)), (1, jv (0)), (3, iv ((((c : Nat) : Int)) + 1))]) [1, 2, 0] rfl ?_
          exact ih4 (c + 1) (va_up ta c 0) (by omega) (fun q hq hz => by rcases (show q < c ∨ q = c by omega) with y | y; (rw [up_ne (by omega)]; exact hT1 q y hz); (subst y; first | exact up_same | (exfalso; have h9 : m_fx q ≠ 0 := of_decide_eq_true hz; omega))) (by omega)
        · skip
          refine g_aload_n F 0 rfl rfl dX7_offer_26 ?_
          refine g_get F hV iX7 0 rfl rfl 31 (by decide) (List.mem_of_getElem? (i := 4) rfl) rfl dX7_offer_27 ?_
          refine g_iload_n F 2 rfl rfl dX7_offer_30 ?_
          refine g_lald F hV 18 rfl (c) (by omega) (by omega) (by decide) dX7_offer_31 ?_
          refine g_aload_n F 0 rfl rfl dX7_offer_32 ?_
          refine g_get F hV iX7 0 rfl rfl 29 (by decide) (List.mem_of_getElem? (i := 5) rfl) rfl dX7_offer_33 ?_
          refine g_lmul F dX7_offer_36 ?_
          refine g_goto F (tgt := 41) dX7_offer_37 (by decide) ?_
          refine g_last F 21 rfl (c) (by omega) (by omega) (by decide) (wMO cA m (((m_nc : Nat) : Int)) (((m_nr : Nat) : Int)) (m_ke) (m_so) (m_bu) (m_bc) (m_pu) (m_qu) (((m_fs : Nat) : Int)) (((m_cd : Nat) : Int)) (m_un) (m_hb) (m_pf) (m_ef) ++ wMP cA m (m_kd) (m_lo) (m_hi) (m_co) (m_pa) (m_rk) (m_nu) (m_ct) (m_sa) ++ wME cA m (m_fr) (m_cs) (m_cn) (m_ck) (m_ch) (m_tb) (m_cr) ++ wMX cA m (m_fx) (m_fv) (m_sn) ++ wMB cA m (m_be) (va_up ta c ((m_fv c) * m_un)) (m_wy)) rfl dX7_offer_41 ?_
          refine g_iinc F 2 rfl ([(3, iv ((((c : Nat) : Int)) + 1)), (0, .ref (m 0)), (1, jv (0))]) rfl (by decide) dX7_offer_42 ?_
          refine g_goto F (tgt := 4) dX7_offer_45 (by decide) ?_
          refine g_lsub ([(0, .ref (m 0)), (1, jv (0)), (3, iv ((((c : Nat) : Int)) + 1))]) [1, 2, 0] rfl ?_
          exact ih4 (c + 1) (va_up ta c ((m_fv c) * m_un)) (by omega) (fun q hq hz => by rcases (show q < c ∨ q = c by omega) with y | y; (rw [up_ne (by omega)]; exact hT1 q y hz); (subst y; first | exact up_same | (exfalso; have h9 : m_fx q ≠ 0 := of_decide_eq_true hz; omega))) (by omega)
  refine g_lsub ([(0, .ref (m 0)), (1, jv (0)), (3, iv (0))]) [2, 1, 0] rfl ?_
  exact lp4 (_ + 1) 0 m_tr (by omega) (fun q hq => absurd hq (Nat.not_lt_zero q)) (Nat.lt_succ_self _)
