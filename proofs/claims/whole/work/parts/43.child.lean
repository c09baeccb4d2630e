variable {gd : Prop}
abbrev vlZ (S : TS) (c : Nat) : Int := valZ (tLo S) (tCe S) (tBel S) c
abbrev flZ (S : TS) (c : Nat) : Int := floorZ (vlZ S c) (tBel S)
abbrev spZ (kd pa : Nat → Int) (nc : Nat) (S : TS) : Int := splitZ kd pa (tLo S) (tCe S) (tBel S) (tFar S) nc
theorem up_id {f : Nat → Int} {k : Nat} : va_up f k (f k) = f := by
  funext q
  by_cases e : q = k
  · rw [e, up_same]
  · rw [up_ne e]
theorem NI_bel {nc : Nat} {co kd lo0 hi0 : Nat → Int} {Φ : (Nat → Int) → Prop} {S : TS} (h : NI gd nc co kd lo0 hi0 Φ S) : 0 < tBel S := by
  obtain ⟨⟨W, B, s, h1, -⟩, -⟩ := h
  exact h1.1.2.2.1
/-- what is known of a column to split -/
theorem split_w {nc : Nat} {co kd pa lo0 hi0 : Nat → Int} {Φ : (Nat → Int) → Prop} {S : TS} (hP : colsOk nc kd pa lo0 hi0) (h : NI gd nc co kd lo0 hi0 Φ S) (hl : dcLn S < 0) {c : Nat} (hs : spZ kd pa nc S = (c : Int)) :
    c < nc ∧ 1 ≤ kd c ∧ tHi S c ≠ NONEz ∧ -20 ≤ tHi S c ∧ tHi S c ≤ 20 ∧ tLo S c ≤ flZ S c ∧ flZ S c ≤ tHi S c ∧ flZ S c + 1 ≤ 20 ∧ -20 ≤ flZ S c ∧ (kd c = 2 → flZ S c = 0 ∧ tLo S c = 0) ∧ (kd c ≠ 2 → flZ S c + 1 ≤ tHi S c) := by
  obtain ⟨hc, hcase⟩ := split_is hs
  have hb := NI_bel h
  obtain ⟨⟨W, B, s, h1, h2, h3⟩, h4, h5, h6⟩ := h
  obtain ⟨p1, p2, p3, p4, p5, p6⟩ := hP
  have hk : 1 ≤ kd c := by
    rcases hcase with q | q
    · exact q.1
    · have := q.1; omega
  have hu0 := (p5 c hc hk).1
  obtain ⟨b1, b2, b3⟩ := h5 c hc
  obtain ⟨b4, b5, b6⟩ := b2 hu0
  have hhi0 : -20 ≤ hi0 c ∧ hi0 c ≤ 20 := by
    rcases p4 c with e | e
    · exact absurd e hu0
    · exact e
  obtain ⟨v1, v2, v3⟩ := val_rng h1 h2 hl hc b4
  have hfl : tLo S c ≤ flZ S c ∧ flZ S c ≤ tHi S c := fl_rng hb v1 v2
  have hl4 := h4 c
  refine ⟨hc, hk, b4, b5, by omega, hfl.1, hfl.2, ?_, by omega, ?_, ?_⟩
  · rcases hcase with q | q
    · have h9 : flZ S c + 1 ≤ tHi S c := fl_lt hb v2 q.2
      omega
    · have e : flZ S c = 0 := by
        have : vlZ S c = 0 := q.2.2.1.1
        show floorZ (vlZ S c) _ = 0
        rw [this]; exact fl_zero hb
      rw [e]; decide
  · intro hk2
    obtain ⟨k1, k2, k3⟩ := p6 c hc hk2
    have hfl1 : tLo S c ≤ flZ S c := hfl.1
    rcases hcase with q | q
    · have h9 : flZ S c + 1 ≤ tHi S c := fl_lt hb v2 q.2
      omega
    · have e : flZ S c = 0 := by
        have : vlZ S c = 0 := q.2.2.1.1
        show floorZ (vlZ S c) _ = 0
        rw [this]; exact fl_zero hb
      omega
  · intro hk2
    rcases hcase with q | q
    · exact fl_lt hb v2 q.2
    · exact absurd q.1 hk2
theorem raise_fields (c : Nat) (low : Int) (S : TS) : tLo (raiseT c low S) = va_up (tLo S) c low ∧ tHi (raiseT c low S) = tHi S ∧ tTi (raiseT c low S) = tTi S ∧ tGl (raiseT c low S) = tGl S ∧ tNl (raiseT c low S) = tNl S := ⟨rfl, rfl, rfl, rfl, rfl⟩
/-- the upper half -/
theorem NI_up {nc : Nat} {co kd pa lo0 hi0 : Nat → Int} {Φ : (Nat → Int) → Prop} {S : TS} (hP : colsOk nc kd pa lo0 hi0) (h : NI gd nc co kd lo0 hi0 Φ S) (hl : dcLn S < 0) {c : Nat} (hs : spZ kd pa nc S = (c : Int)) :
    NI (gd ∧ tTi S (1 + c) ≠ 2) nc co kd lo0 hi0 Φ (raiseT c (flZ S c + 1) S) := by
  obtain ⟨w1, w2, w3, w4, w5, w6, w7, w8, w9, w10, w11⟩ := split_w hP h hl hs
  obtain ⟨⟨W, B, s, h1, h2, h3⟩, h4, h5, h6⟩ := h
  have h1' : tabI (gd ∧ tTi S (1 + c) ≠ 2) nc W S B s := tabI_weak (fun q => q.1) h1
  obtain ⟨W', k1, k2, k3⟩ := raise_ok h1' h2 w1 (low := flZ S c + 1) (by omega) (by omega) (tTi S (1 + c)) (Or.inr rfl) (raiseT c (flZ S c + 1) S) (by
    show raiseT c (flZ S c + 1) S = (_, va_up (tTi S) (1 + c) (tTi S (1 + c)), _, _, _, _, _, _, _)
    rw [up_id]; rfl) (fun q z => absurd z q.2)
  refine ⟨⟨W', B, s, k1, k2, by rw [k3 0 (by omega)]; exact h3⟩, ?_, ?_, ?_⟩
  · intro j
    show -20 ≤ va_up (tLo S) c (flZ S c + 1) j ∧ va_up (tLo S) c (flZ S c + 1) j ≤ 20
    by_cases e : j = c
    · rw [e, up_same]; omega
    · rw [up_ne e]; exact h4 j
  · intro c' hc'
    obtain ⟨b1, b2, b3⟩ := h5 c' hc'
    refine ⟨?_, b2, b3⟩
    show lo0 c' ≤ va_up (tLo S) c (flZ S c + 1) c'
    by_cases e : c' = c
    · subst e; rw [up_same]; omega
    · rw [up_ne e]; exact b1
  · intro c' hc' ht
    show 0 ≤ va_up (tLo S) c (flZ S c + 1) c' ∧ (gd ∧ tTi S (1 + c) ≠ 2 → va_up (tLo S) c (flZ S c + 1) c' = 0)
    have ht2 : tTi S (1 + c') = 2 := ht
    have h7 := h6 c' hc' ht2
    by_cases e : c' = c
    · subst e; rw [up_same]; exact ⟨by omega, fun q => absurd ht2 q.2⟩
    · rw [up_ne e]; exact ⟨h7.1, fun q => h7.2 q.1⟩
def holdsP (kd pa : Nat → Int) (nc c : Nat) : Prop := kd c = 2 ∧ (0 ≤ pa c ∧ pa c < (nc : Int))
/-- the lower half, where its partner can be held -/
theorem NI_low {nc : Nat} {co kd pa lo0 hi0 : Nat → Int} {Φ : (Nat → Int) → Prop} {S : TS} (hP : colsOk nc kd pa lo0 hi0) (h : NI gd nc co kd lo0 hi0 Φ S) (hl : dcLn S < 0) {c : Nat} (hs : spZ kd pa nc S = (c : Int)) (hok : holdsP kd pa nc c → tLo S (pa c).toNat ≤ 0) :
    NI gd nc co kd lo0 hi0 Φ (nwT kd pa nc c false S) ∧ tHi (nwT kd pa nc c false S) = va_up (tHi S) c (flZ S c) ∧
    (holdsP kd pa nc c → tLo (nwT kd pa nc c false S) = va_up (tLo S) (pa c).toNat 0 ∧ tTi (nwT kd pa nc c false S) = va_up (tTi S) (1 + (pa c).toNat) 2) ∧ (¬ holdsP kd pa nc c → tLo (nwT kd pa nc c false S) = tLo S ∧ tTi (nwT kd pa nc c false S) = tTi S) := by
  obtain ⟨w1, w2, w3, w4, w5, w6, w7, w8, w9, w10, w11⟩ := split_w hP h hl hs
  obtain ⟨⟨W, B, s, h1, h2, h3⟩, h4, h5, h6⟩ := h
  obtain ⟨W1, k1, k2, k3⟩ := lower_ok h1 h2 w1 (high := flZ S c) w3 w7 (by omega)
  have hn := h1.2.1
  have e0 : ∀ c', c' < nc → lo0 c' ≤ tLo S c' ∧ (hi0 c' ≠ NONEz → va_up (tHi S) c (flZ S c) c' ≠ NONEz ∧ -20 ≤ va_up (tHi S) c (flZ S c) c' ∧ va_up (tHi S) c (flZ S c) c' ≤ hi0 c') ∧ (hi0 c' = NONEz → va_up (tHi S) c (flZ S c) c' = NONEz) := by
    intro c' hc'
    obtain ⟨b1, b2, b3⟩ := h5 c' hc'
    refine ⟨b1, ?_, ?_⟩
    · intro q
      by_cases e : c' = c
      · subst e
        rw [up_same]
        have := b2 q
        refine ⟨by unfold NONEz; omega, by omega, by omega⟩
      · rw [up_ne e]; exact b2 q
    · intro q
      by_cases e : c' = c
      · subst e; exact absurd (b3 q) w3
      · rw [up_ne e]; exact b3 q
  by_cases hh : holdsP kd pa nc c
  · obtain ⟨p, hp⟩ : ∃ p : Nat, pa c = (p : Int) := ⟨(pa c).toNat, by have := hh.2; omega⟩
    have hpn : p < nc := by have := hh.2; omega
    have hpc : p ≠ c := by
      have := (hP.2.2.2.2.2 c w1 hh.1).2.2
      omega
    have hlp : tLo S p ≤ 0 := by have := hok hh; rw [hp, Int.toNat_natCast] at this; exact this
    have eN : nwT kd pa nc c false S = tieT (1 + p) 2 (raiseT p 0 (lowerT c (flZ S c) S)) := by
      unfold nwT
      rw [if_neg (by simp), if_pos (show kd c = 2 ∧ (0 ≤ pa c ∧ pa c < (nc : Int)) from hh), hp, Int.toNat_natCast]
      unfold holdT
      rw [if_neg]
      show ¬ 0 < tLo S p
      omega
    obtain ⟨W2, m1, m2, m3⟩ := raise_ok k1 k2 hpn (low := 0) hlp (by omega) 2 (Or.inl rfl) (tieT (1 + p) 2 (raiseT p 0 (lowerT c (flZ S c) S))) rfl (fun hg q => ((h6 p hpn q).2 hg).symm)
    rw [eN, hp, Int.toNat_natCast]
    refine ⟨⟨⟨W2, B, s, m1, m2, by rw [m3 0 (by omega), k3 0 (by omega)]; exact h3⟩, ?_, ?_, ?_⟩, rfl, fun _ => ⟨rfl, rfl⟩, fun q => absurd hh q⟩
    · intro j
      show -20 ≤ va_up (tLo S) p 0 j ∧ va_up (tLo S) p 0 j ≤ 20
      by_cases e : j = p
      · rw [e, up_same]; omega
      · rw [up_ne e]; exact h4 j
    · intro c' hc'
      obtain ⟨b1, b2, b3⟩ := e0 c' hc'
      refine ⟨?_, b2, b3⟩
      show lo0 c' ≤ va_up (tLo S) p 0 c'
      by_cases e : c' = p
      · subst e; rw [up_same]; omega
      · rw [up_ne e]; exact b1
    · intro c' hc' ht
      show 0 ≤ va_up (tLo S) p 0 c' ∧ (gd → va_up (tLo S) p 0 c' = 0)
      by_cases e : c' = p
      · rw [e, up_same]; exact ⟨by omega, fun _ => rfl⟩
      · rw [up_ne e]
        have ht2 : va_up (tTi S) (1 + p) 2 (1 + c') = 2 := ht
        rw [up_ne (by omega)] at ht2
        exact h6 c' hc' ht2
  · have eN : nwT kd pa nc c false S = lowerT c (flZ S c) S := by
      unfold nwT
      rw [if_neg (by simp), if_neg (show ¬ (kd c = 2 ∧ (0 ≤ pa c ∧ pa c < (nc : Int))) from hh)]
    rw [eN]
    exact ⟨⟨⟨W1, B, s, k1, k2, by rw [k3 0 (by omega)]; exact h3⟩, h4, e0, h6⟩, rfl, fun q => absurd q hh, fun _ => ⟨rfl, rfl⟩⟩
/-- every right plan of a node lies in one of its halves -/
theorem halves {nc : Nat} {co kd pa lo0 hi0 : Nat → Int} {Φ : (Nat → Int) → Prop} {S : TS} (hP : colsOk nc kd pa lo0 hi0) (h : NI gd nc co kd lo0 hi0 Φ S) (hg : gd) (hl : dcLn S < 0) {c : Nat} (hs : spZ kd pa nc S = (c : Int)) {y : Nat → Int} (hy : regP nc Φ S y) (hr : rightP nc kd pa y) :
    ((y (1 + c) ≤ flZ S c * y 0 ∧ (holdsP kd pa nc c → tLo S (pa c).toNat ≤ 0) ∧ regP nc Φ (nwT kd pa nc c false S) y) ∨ ((flZ S c + 1) * y 0 ≤ y (1 + c))) ∧
    ((flZ S c + 1) * y 0 ≤ y (1 + c) → tTi S (1 + c) ≠ 2 ∧ regP nc Φ (raiseT c (flZ S c + 1) S) y) := by
  have hN := h
  obtain ⟨w1, w2, w3, w4, w5, w6, w7, w8, w9, w10, w11⟩ := split_w hP h hl hs
  obtain ⟨-, h4, h5, h6⟩ := h
  obtain ⟨y0, yb, yf⟩ := hy
  obtain ⟨z, hz⟩ := hr.1 c w1 w2
  obtain ⟨c1, c2, c3⟩ := yb c w1
  constructor
  · rcases (show z ≤ flZ S c ∨ flZ S c + 1 ≤ z by omega) with q | q
    · left
      have hle : y (1 + c) ≤ flZ S c * y 0 := by rw [hz]; exact Int.mul_le_mul_of_nonneg_right q (by omega)
      have hzero : kd c = 2 → y (1 + c) = 0 := by
        intro hk
        obtain ⟨e1, e2⟩ := w10 hk
        rw [e1] at hle
        rw [e2] at c1
        omega
      have hok : holdsP kd pa nc c → tLo S (pa c).toNat ≤ 0 ∧ y (1 + (pa c).toNat) = 0 := by
        intro hh
        obtain ⟨p, hp⟩ : ∃ p : Nat, pa c = (p : Int) := ⟨(pa c).toNat, by have := hh.2; omega⟩
        have hpn : p < nc := by have := hh.2; omega
        have yp := hr.2 c w1 hh.1 p hp hpn (hzero hh.1)
        rw [hp, Int.toNat_natCast]
        refine ⟨?_, yp⟩
        have := (yb p hpn).1
        rw [yp] at this
        rcases (show tLo S p ≤ 0 ∨ 1 ≤ tLo S p by omega) with u | u
        · exact u
        · exfalso
          have : 1 * y 0 ≤ tLo S p * y 0 := Int.mul_le_mul_of_nonneg_right u (by omega)
          omega
      obtain ⟨n1, n2, n3, n4⟩ := NI_low hP hN hl hs (fun hh => (hok hh).1)
      refine ⟨hle, fun hh => (hok hh).1, y0, fun c' hc' => ?_, yf⟩
      obtain ⟨d1, d2, d3⟩ := yb c' hc'
      rw [n2]
      have hhi : va_up (tHi S) c (flZ S c) c' ≠ NONEz → y (1 + c') ≤ va_up (tHi S) c (flZ S c) c' * y 0 := by
        by_cases e : c' = c
        · subst e; rw [up_same]; exact fun _ => hle
        · rw [up_ne e]; exact d3
      by_cases hh : holdsP kd pa nc c
      · obtain ⟨m1, m2⟩ := n3 hh
        rw [m1, m2]
        by_cases e : c' = (pa c).toNat
        · subst e
          rw [up_same, up_same]
          have yp := (hok hh).2
          exact ⟨by omega, fun _ => by omega, hhi⟩
        · rw [up_ne e, up_ne (by omega)]
          exact ⟨d1, d2, hhi⟩
      · obtain ⟨m1, m2⟩ := n4 hh
        rw [m1, m2]
        exact ⟨d1, d2, hhi⟩
    · right
      rw [hz]; exact Int.mul_le_mul_of_nonneg_right q (by omega)
  · intro hup
    have hnt : tTi S (1 + c) ≠ 2 := by
      intro e
      have e1 := c2 e
      have e2 := (h6 c w1 e).2 hg
      rw [e2] at e1 w6
      rw [e1, Int.zero_mul] at hup
      have : 0 < (flZ S c + 1) * y 0 := Int.mul_pos (by omega) y0
      omega
    refine ⟨hnt, y0, fun c' hc' => ?_, yf⟩
    obtain ⟨d1, d2, d3⟩ := yb c' hc'
    show va_up (tLo S) c (flZ S c + 1) c' * y 0 ≤ y (1 + c') ∧ (tTi S (1 + c') = 2 → y (1 + c') = va_up (tLo S) c (flZ S c + 1) c' * y 0) ∧ (tHi S c' ≠ NONEz → y (1 + c') ≤ tHi S c' * y 0)
    by_cases e : c' = c
    · subst e; rw [up_same]; exact ⟨hup, fun q => absurd q hnt, d3⟩
    · rw [up_ne e]; exact ⟨d1, d2, d3⟩
theorem reg_box {nc : Nat} {co kd lo0 hi0 : Nat → Int} {Φ : (Nat → Int) → Prop} {S : TS} (h : NI gd nc co kd lo0 hi0 Φ S) {y : Nat → Int} (hy : regP nc Φ S y) : inBox nc lo0 hi0 y ∧ Φ y := by
  obtain ⟨y0, yb, yf⟩ := hy
  refine ⟨⟨y0, fun c hc => ?_⟩, yf⟩
  obtain ⟨b1, b2, b3⟩ := h.2.2.1 c hc
  obtain ⟨d1, d2, d3⟩ := yb c hc
  have hm : lo0 c * y 0 ≤ tLo S c * y 0 := Int.mul_le_mul_of_nonneg_right b1 (by omega)
  refine ⟨by omega, fun q => ?_⟩
  obtain ⟨e1, e2, e3⟩ := b2 q
  have := d3 e1
  have hm2 : tHi S c * y 0 ≤ hi0 c * y 0 := Int.mul_le_mul_of_nonneg_right e3 (by omega)
  omega
/-- a corner with nothing to split is a right plan -/
theorem acc_fin {nc : Nat} {co kd pa lo0 hi0 : Nat → Int} {Φ : (Nat → Int) → Prop} {S : TS} (h : NI gd nc co kd lo0 hi0 Φ S) (hl : dcLn S < 0) (hs : spZ kd pa nc S < 0) (hf : tFar S = -1) : FP nc kd pa lo0 hi0 Φ (cpV nc S) := by
  have hN := h
  obtain ⟨⟨W, B, s, h1, h2, h3⟩, h4, h5, h6⟩ := h
  have hreg := (st_feas h1 h2 _).mp (corner_feas h1 hl hf)
  obtain ⟨hb, hp⟩ := reg_box hN hreg
  obtain ⟨s1, s2⟩ := split_none hs
  refine ⟨hb, hp, ?_, ?_⟩
  · intro c hc hk
    rw [cp_c hc, cp_0]
    exact ⟨flZ S c, Classical.byContradiction (fun q => s1 c hc hk q)⟩
  · intro c hc hk p hpa hpn hz
    rw [cp_c hc] at hz
    rw [cp_c hpn]
    have := s2 c hc hk (by omega) ⟨hz, Or.inl (by omega)⟩
    rw [hpa, Int.toNat_natCast] at this
    exact this.1
theorem acc_ray {nc : Nat} {co kd pa lo0 hi0 : Nat → Int} {Φ : (Nat → Int) → Prop} {S : TS} (hP : colsOk nc kd pa lo0 hi0) (h : NI gd nc co kd lo0 hi0 Φ S) (hl : dcLn S < 0) (hs : spZ kd pa nc S < 0) {f : Nat} (hf : tFar S = (f : Int)) : rayP nc co (FP nc kd pa lo0 hi0 Φ) := by
  have hN := h
  obtain ⟨⟨W, B, s, h1, h2, h3⟩, h4, h5, h6⟩ := h
  obtain ⟨f1, f2, f3⟩ := ray_cost h1 hl hf
  obtain ⟨s1, s2⟩ := split_none hs
  have hr0 : rdV nc S f 0 = 0 := by unfold rdV; rw [if_pos rfl]
  have hrc : ∀ c, c < nc → rdV nc S f (1 + c) = -tCe S ((1 + c) * 6 + f) := by
    intro c hc; unfold rdV; rw [if_neg (by omega), if_pos (by omega)]
  have hnl := h1.2.2.1
  refine ⟨cpV nc S, rdV nc S f, 100000000000, hr0, ?_, fun M hM => ?_⟩
  · rw [← h3, rd_W h1 f1 f2 (by omega), Nat.zero_mul, Nat.zero_add]; omega
  · have hreg := (st_feas h1 h2 _).mp (ray_feas h1 hl hf M hM)
    obtain ⟨hb, hp⟩ := reg_box hN hreg
    have hwhole : ∀ c, c < nc → 1 ≤ kd c → rdV nc S f (1 + c) = 0 := by
      intro c hc hk
      have hu := ((h5 c hc).2.1 (hP.2.2.2.2.1 c hc hk).1).1
      rw [hrc c hc, (val_rng h1 h2 hl hc hu).2.2 f hf]; rfl
    refine ⟨hb, hp, ?_, ?_⟩
    · intro c hc hk
      refine ⟨flZ S c, ?_⟩
      show 1 * cpV nc S (1 + c) + M * rdV nc S f (1 + c) = flZ S c * (1 * cpV nc S 0 + M * rdV nc S f 0)
      rw [hwhole c hc hk, hr0, cp_c hc, cp_0]
      have : vlZ S c = flZ S c * tBel S := Classical.byContradiction (fun q => s1 c hc hk q)
      rw [Int.mul_zero, Int.add_zero, Int.one_mul, Int.one_mul, Int.add_zero]
      exact this
    · intro c hc hk p hpa hpn hz
      have hz2 : 1 * cpV nc S (1 + c) + M * rdV nc S f (1 + c) = 0 := hz
      rw [hwhole c hc (by omega), cp_c hc, Int.mul_zero, Int.add_zero, Int.one_mul] at hz2
      have hu := ((h5 c hc).2.1 (hP.2.2.2.2.1 c hc (by omega)).1).1
      have := s2 c hc hk (by omega) ⟨hz2, Or.inr (by rw [hf, Int.toNat_natCast]; exact (val_rng h1 h2 hl hc hu).2.2 f hf)⟩
      rw [hpa, Int.toNat_natCast] at this
      show 1 * cpV nc S (1 + p) + M * rdV nc S f (1 + p) = 0
      rw [cp_c hpn, hrc p hpn]
      have e1 : tCe S ((1 + p) * 6 + f) = 0 := by
        rcases this.2 with q | q
        · omega
        · rw [hf, Int.toNat_natCast] at q; exact q
      have e2 : valZ (tLo S) (tCe S) (tBel S) p = 0 := this.1
      rw [e1, e2]; simp
