-- ===== the first that is not 0 is above 0 =====
def lexP (f : Nat → Int) (n : Nat) : Prop := ∃ i, i < n ∧ 0 < f i ∧ ∀ j, j < i → f j = 0
def lexN (f : Nat → Int) (n : Nat) : Prop := (∀ i, i < n → f i = 0) ∨ lexP f n
theorem lexP_cong {f g : Nat → Int} {n : Nat} (h : ∀ i, i < n → f i = g i) (hf : lexP f n) : lexP g n := by
  obtain ⟨i, h1, h2, h3⟩ := hf
  exact ⟨i, h1, by rw [← h i h1]; exact h2, fun j hj => by rw [← h j (by omega)]; exact h3 j hj⟩
theorem lexN_cong {f g : Nat → Int} {n : Nat} (h : ∀ i, i < n → f i = g i) (hf : lexN f n) : lexN g n := by
  rcases hf with hf | hf
  · exact Or.inl (fun i hi => by rw [← h i hi]; exact hf i hi)
  · exact Or.inr (lexP_cong h hf)
theorem lexP_add {f g : Nat → Int} {n : Nat} (hf : lexP f n) (hg : lexN g n) : lexP (fun i => f i + g i) n := by
  obtain ⟨i, h1, h2, h3⟩ := hf
  rcases hg with hz | ⟨j, k1, k2, k3⟩
  · refine ⟨i, h1, ?_, fun j hj => ?_⟩
    · have := hz i h1; show 0 < f i + g i; omega
    · have := hz j (by omega); have := h3 j hj; show f j + g j = 0; omega
  · rcases Nat.lt_trichotomy i j with q | q | q
    · refine ⟨i, h1, ?_, fun x hx => ?_⟩
      · have := k3 i q; show 0 < f i + g i; omega
      · have := h3 x hx; have := k3 x (by omega); show f x + g x = 0; omega
    · subst q
      refine ⟨i, h1, ?_, fun x hx => ?_⟩
      · show 0 < f i + g i; omega
      · have := h3 x hx; have := k3 x hx; show f x + g x = 0; omega
    · refine ⟨j, k1, ?_, fun x hx => ?_⟩
      · have := h3 j q; show 0 < f j + g j; omega
      · have := h3 x (by omega); have := k3 x hx; show f x + g x = 0; omega
theorem lexN_add {f g : Nat → Int} {n : Nat} (hf : lexN f n) (hg : lexN g n) : lexN (fun i => f i + g i) n := by
  rcases hf with hf | hf
  · exact lexN_cong (fun i hi => by have := hf i hi; show g i = f i + g i; omega) hg
  · exact Or.inr (lexP_add hf hg)
theorem lexP_addr {f g : Nat → Int} {n : Nat} (hf : lexN f n) (hg : lexP g n) : lexP (fun i => f i + g i) n := lexP_cong (fun i _ => by show g i + f i = f i + g i; omega) (lexP_add hg hf)
theorem lexP_mul {f : Nat → Int} {n : Nat} {a : Int} (ha : 0 < a) (hf : lexP f n) : lexP (fun i => a * f i) n := by
  obtain ⟨i, h1, h2, h3⟩ := hf
  exact ⟨i, h1, Int.mul_pos ha h2, fun j hj => by show a * f j = 0; rw [h3 j hj]; simp⟩
theorem lexN_mul {f : Nat → Int} {n : Nat} {a : Int} (ha : 0 ≤ a) (hf : lexN f n) : lexN (fun i => a * f i) n := by
  rcases (show a = 0 ∨ 0 < a by omega) with q | q
  · subst q; exact Or.inl (fun i _ => by simp)
  · rcases hf with hf | hf
    · exact Or.inl (fun i hi => by show a * f i = 0; rw [hf i hi]; simp)
    · exact Or.inr (lexP_mul q hf)
theorem lexP_div {f g : Nat → Int} {n : Nat} {a : Int} (ha : 0 < a) (h : ∀ i, i < n → a * g i = f i) (hf : lexP f n) : lexP g n := by
  obtain ⟨i, h1, h2, h3⟩ := hf
  refine ⟨i, h1, ?_, fun j hj => ?_⟩
  · rw [← h i h1] at h2; exact Int.pos_of_mul_pos_left (by rw [Int.mul_comm]; exact h2) ha
  · have := h j (by omega)
    rw [h3 j hj] at this
    rcases Int.mul_eq_zero.mp this with q | q
    · omega
    · exact q
theorem lexN_div {f g : Nat → Int} {n : Nat} {a : Int} (ha : 0 < a) (h : ∀ i, i < n → a * g i = f i) (hf : lexN f n) : lexN g n := by
  rcases hf with hf | hf
  · refine Or.inl (fun i hi => ?_)
    have := h i hi
    rw [hf i hi] at this
    rcases Int.mul_eq_zero.mp this with q | q
    · omega
    · exact q
  · exact Or.inr (lexP_div ha h hf)
theorem lex_tri (f : Nat → Int) : ∀ n, (∀ i, i < n → f i = 0) ∨ lexP f n ∨ lexP (fun i => -f i) n
  | 0 => Or.inl (fun i hi => absurd hi (Nat.not_lt_zero i))
  | n + 1 => by
    rcases lex_tri f n with h | ⟨i, h1, h2, h3⟩ | ⟨i, h1, h2, h3⟩
    · rcases Int.lt_trichotomy (f n) 0 with q | q | q
      · exact Or.inr (Or.inr ⟨n, by omega, by show 0 < -f n; omega, fun j hj => by show -f j = 0; rw [h j hj]; rfl⟩)
      · refine Or.inl (fun i hi => ?_)
        rcases (show i < n ∨ i = n by omega) with w | w
        · exact h i w
        · subst w; exact q
      · exact Or.inr (Or.inl ⟨n, by omega, q, h⟩)
    · exact Or.inr (Or.inl ⟨i, by omega, h2, h3⟩)
    · exact Or.inr (Or.inr ⟨i, by omega, h2, h3⟩)
theorem lexP_irr {f : Nat → Int} {n : Nat} (h1 : lexP f n) (h2 : lexN (fun i => -f i) n) : False := by
  obtain ⟨i, a1, a2, -⟩ := lexP_add h1 h2
  have : 0 < f i + -f i := a2
  omega
theorem lexP_not0 {f : Nat → Int} {n : Nat} (h1 : lexP f n) (h2 : ∀ i, i < n → f i = 0) : False := by
  obtain ⟨i, a1, a2, -⟩ := h1
  rw [h2 i a1] at a2
  omega
theorem lexZ_spec (f : Nat → Int) : ∀ n, (lexZ f n = 0 ∧ ∀ i, i < n → f i = 0) ∨ ∃ i, i < n ∧ f i ≠ 0 ∧ (∀ j, j < i → f j = 0) ∧ lexZ f n = f i
  | 0 => Or.inl ⟨rfl, fun i hi => absurd hi (Nat.not_lt_zero i)⟩
  | n + 1 => by
    rcases lexZ_spec f n with ⟨h, h0⟩ | ⟨i, h1, h2, h3, h4⟩
    · rw [lexZ_succ0 h]
      by_cases e : f n = 0
      · refine Or.inl ⟨e, fun i hi => ?_⟩
        rcases (show i < n ∨ i = n by omega) with w | w
        · exact h0 i w
        · subst w; exact e
      · exact Or.inr ⟨n, by omega, e, h0, rfl⟩
    · refine Or.inr ⟨i, by omega, h2, h3, ?_⟩
      show (if lexZ f n = 0 then f n else lexZ f n) = f i
      rw [if_neg (by rw [h4]; exact h2), h4]
theorem cmpZ_0 {a b : Int} : cmpZ a b = 0 ↔ a = b := by
  unfold cmpZ; split
  · constructor <;> intro <;> omega
  · split
    · constructor <;> intro <;> omega
    · constructor <;> intro <;> omega
theorem cmpZ_m {a b : Int} : cmpZ a b < 0 ↔ a < b := by
  unfold cmpZ; split
  · constructor <;> intro <;> omega
  · split
    · constructor <;> intro <;> omega
    · constructor <;> intro <;> omega
theorem lexZ_lt {a b : Nat → Int} {n : Nat} (h : lexZ (fun i => cmpZ (a i) (b i)) n < 0) : lexP (fun i => b i - a i) n := by
  rcases lexZ_spec (fun i => cmpZ (a i) (b i)) n with ⟨h1, _⟩ | ⟨i, h1, h2, h3, h4⟩
  · omega
  · rw [h4] at h
    have := cmpZ_m.mp h
    exact ⟨i, h1, by show 0 < b i - a i; omega, fun j hj => by have := cmpZ_0.mp (h3 j hj); show b j - a j = 0; omega⟩
theorem lexZ_ge {a b : Nat → Int} {n : Nat} (h : ¬ lexZ (fun i => cmpZ (a i) (b i)) n < 0) : lexN (fun i => a i - b i) n := by
  rcases lexZ_spec (fun i => cmpZ (a i) (b i)) n with ⟨_, h1⟩ | ⟨i, h1, h2, h3, h4⟩
  · exact Or.inl (fun i hi => by have := cmpZ_0.mp (h1 i hi); show a i - b i = 0; omega)
  · rw [h4] at h
    have e1 : ¬ a i < b i := fun q => h (cmpZ_m.mpr q)
    have e2 : ¬ a i = b i := fun q => h2 (cmpZ_0.mpr q)
    exact Or.inr ⟨i, h1, by show 0 < a i - b i; omega, fun j hj => by have := cmpZ_0.mp (h3 j hj); show a j - b j = 0; omega⟩
/-- of the columns that a broken line may turn to, the cheapest -/
theorem cheapZ_best {ce sh : Nat → Int} {nc line : Nat} {sd : Int} : ∀ {n : Nat} {k : Nat}, cheapZ ce sh nc line sd n = (k : Int) → ∀ j, j < n → sh j = 0 → ce (line * 6 + j) * sd < 0 →
    lexN (fun i => ((ce (line * 6 + k)).natAbs : Int) * ce (i * 6 + j) - ((ce (line * 6 + j)).natAbs : Int) * ce (i * 6 + k)) (nc + 1)
  | 0, _, _, j, hj, _, _ => absurd hj (Nat.not_lt_zero j)
  | n + 1, k, h, j, hj, hs, hn => by
    by_cases hc : sh n = 0 ∧ ce (line * 6 + n) * sd < 0 ∧ (cheapZ ce sh nc line sd n < 0 ∨ ordZ ce line n (cheapZ ce sh nc line sd n).toNat (nc + 1) < 0)
    · rw [cheapZ_yes hc] at h
      have hk : n = k := by omega
      subst hk
      rcases (show j = n ∨ j < n by omega) with q | q
      · subst q; exact Or.inl (fun i _ => by show _ - _ = _; omega)
      · have hr := cheapZ_rng ce sh nc line sd n
        rcases (show cheapZ ce sh nc line sd n < 0 ∨ 0 ≤ cheapZ ce sh nc line sd n by omega) with w | w
        · exfalso
          have hnone : ∀ m, m ≤ n → cheapZ ce sh nc line sd m < 0 := by
            intro m hm
            obtain ⟨d, rfl⟩ : ∃ d, n = m + d := ⟨n - m, by omega⟩
            clear hm hr hn hs q hj h hc
            induction d with
            | zero => exact w
            | succ d ih =>
              by_cases hx : cheapZ ce sh nc line sd (m + d) < 0
              · exact ih hx
              · have hr2 := cheapZ_rng ce sh nc line sd (m + d)
                exfalso
                have : 0 ≤ cheapZ ce sh nc line sd (m + d + 1) := by
                  unfold cheapZ
                  split <;> omega
                have w2 : cheapZ ce sh nc line sd (m + d + 1) < 0 := w
                omega
          have h1 := hnone (j + 1) (by omega)
          have h2 := hnone j (by omega)
          rw [cheapZ_yes ⟨hs, hn, Or.inl h2⟩] at h1
          omega
        · obtain ⟨o, ho⟩ : ∃ o : Nat, cheapZ ce sh nc line sd n = (o : Int) := ⟨(cheapZ ce sh nc line sd n).toNat, by omega⟩
          have ih := cheapZ_best ho j q hs hn
          rcases hc.2.2 with z | z
          · omega
          · rw [ho, Int.toNat_natCast] at z
            unfold ordZ at z
            have hB := lexZ_lt z
            have go := (cheapZ_neg ho).2
            have g1 : 0 < ((ce (line * 6 + o)).natAbs : Int) := by
              rcases Int.lt_trichotomy (ce (line * 6 + o)) 0 with e | e | e
              · omega
              · rw [e] at go; simp at go
              · omega
            have hA := lexN_mul (a := ((ce (line * 6 + n)).natAbs : Int)) (by omega) ih
            have hB2 := lexN_mul (a := ((ce (line * 6 + j)).natAbs : Int)) (by omega) (Or.inr hB)
            refine lexN_div g1 (fun i _ => ?_) (lexN_add hA hB2)
            grind
    · rw [cheapZ_no hc] at h
      rcases (show j = n ∨ j < n by omega) with q | q
      · subst q
        have h3 : ¬ ordZ ce line j k (nc + 1) < 0 := by
          intro z
          exact hc ⟨hs, hn, Or.inr (by rw [h, Int.toNat_natCast]; exact z)⟩
        unfold ordZ at h3
        exact lexN_cong (fun i _ => by grind) (lexZ_ge h3)
      · exact cheapZ_best h j q hs hn
