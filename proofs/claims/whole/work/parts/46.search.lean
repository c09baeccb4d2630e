-- ===== a step of the search keeps what it should =====
theorem pd_pos {gd : Prop} {nc : Nat} {co kd pa lo0 hi0 : Nat → Int} {Φ : (Nat → Int) → Prop} {T : Nat × TS} {sp sg : Int} {l : Nat} (hP : colsOk nc kd pa lo0 hi0) (h : levI nc co kd pa lo0 hi0 Φ gd T sp sg l) : 1 ≤ pdN kd pa nc T sp sg := by
  have hw := pr_pos (wt_pos hP h.2.1 h.2.2.1)
  have hw2 : 1 ≤ wtS kd pa nc T.2 := hw
  unfold pdN
  split
  · omega
  · split <;> omega
/-- the search goes down from a level that is done with -/
theorem BI_down {nc : Nat} {co kd pa lo0 hi0 : Nat → Int} {Φ : (Nat → Int) → Prop} {X : BX} {m fuel : Nat} {g : Nat → Prop} (hP : colsOk nc kd pa lo0 hi0) (h : BI nc co kd pa lo0 hi0 Φ X (m + 1) g (fuel + 1)) (sp : Nat → Int) (hsp : ∀ l, l < m → sp l = bSp X l) (b : BS4) (hb : bstI nc co (FP nc kd pa lo0 hi0 Φ) b)
    (hold : ∀ y, FP nc kd pa lo0 hi0 Φ y → bLe nc co (bBs X) y → bLe nc co b y) (hnew : ∀ y, FP nc kd pa lo0 hi0 Φ y → pndP nc Φ (g m) (bTb X m) (bSp X m) (bSg X m) y → bLe nc co b y) :
    BI nc co kd pa lo0 hi0 Φ ((m : Int) - 1, bTb X, sp, bSg X, b) m g fuel := by
  obtain ⟨h1, h2, h3, h4, h5, h6⟩ := h
  have hpd := pd_pos hP (h3 m (by omega))
  refine ⟨rfl, by omega, ?_, hb, ?_, ?_⟩
  · intro l hl
    show levI nc co kd pa lo0 hi0 Φ (g l) (bTb X l) (sp l) (bSg X l) l
    rw [hsp l hl]; exact h3 l (by omega)
  · intro y hy
    rcases h5 y hy with q | ⟨l, q1, q2⟩
    · exact Or.inl (hold y hy q)
    · rcases (show l < m ∨ l = m by omega) with w | w
      · refine Or.inr ⟨l, w, ?_⟩
        show pndP nc Φ (g l) (bTb X l) (sp l) (bSg X l) y
        rw [hsp l w]; exact q2
      · subst w; exact Or.inl (hnew y hy q2)
  · show psN kd pa nc (bTb X) sp (bSg X) m ≤ fuel
    rw [ps_cong (tb' := bTb X) (sp' := bSp X) (sg' := bSg X) (fun l hl => ⟨rfl, hsp l hl, rfl⟩)]
    have h7 : psN kd pa nc (bTb X) (bSp X) (bSg X) m + pdN kd pa nc (bTb X m) (bSp X m) (bSg X m) ≤ fuel + 1 := h6
    omega
/-- the search stays at its level, one of its halves done with -/
theorem BI_stay {nc : Nat} {co kd pa lo0 hi0 : Nat → Int} {Φ : (Nat → Int) → Prop} {X : BX} {m fuel : Nat} {g : Nat → Prop} (h : BI nc co kd pa lo0 hi0 Φ X (m + 1) g (fuel + 1)) (tb : Nat → Nat × TS) (htb : ∀ l, l < m + 1 → tb l = bTb X l) (sp sg : Nat → Int) (hsp : ∀ l, l < m → sp l = bSp X l) (hsg : ∀ l, l < m → sg l = bSg X l)
    (hlev : levI nc co kd pa lo0 hi0 Φ (g m) (bTb X m) (sp m) (sg m) m) (hc : ∀ y, FP nc kd pa lo0 hi0 Φ y → pndP nc Φ (g m) (bTb X m) (bSp X m) (bSg X m) y → pndP nc Φ (g m) (bTb X m) (sp m) (sg m) y)
    (hpd : pdN kd pa nc (bTb X m) (sp m) (sg m) + 1 ≤ pdN kd pa nc (bTb X m) (bSp X m) (bSg X m)) :
    BI nc co kd pa lo0 hi0 Φ ((m : Int), tb, sp, sg, bBs X) (m + 1) g fuel := by
  obtain ⟨h1, h2, h3, h4, h5, h6⟩ := h
  refine ⟨by show (m : Int) = ((m + 1 : Nat) : Int) - 1; omega, h2, ?_, h4, ?_, ?_⟩
  · intro l hl
    show levI nc co kd pa lo0 hi0 Φ (g l) (tb l) (sp l) (sg l) l
    rw [htb l hl]
    rcases (show l < m ∨ l = m by omega) with w | w
    · rw [hsp l w, hsg l w]; exact h3 l hl
    · subst w; exact hlev
  · intro y hy
    rcases h5 y hy with q | ⟨l, q1, q2⟩
    · exact Or.inl q
    · refine Or.inr ⟨l, q1, ?_⟩
      show pndP nc Φ (g l) (tb l) (sp l) (sg l) y
      rw [htb l q1]
      rcases (show l < m ∨ l = m by omega) with w | w
      · rw [hsp l w, hsg l w]; exact q2
      · subst w; exact hc y hy q2
  · show psN kd pa nc tb sp sg m + pdN kd pa nc (tb m) (sp m) (sg m) ≤ fuel
    rw [htb m (by omega), ps_cong (tb' := bTb X) (sp' := bSp X) (sg' := bSg X) (fun l hl => ⟨htb l (by omega), hsp l hl, hsg l hl⟩)]
    have h7 : psN kd pa nc (bTb X) (bSp X) (bSg X) m + pdN kd pa nc (bTb X m) (bSp X m) (bSg X m) ≤ fuel + 1 := h6
    omega
/-- the search goes up into a half -/
theorem BI_up {nc : Nat} {co kd pa lo0 hi0 : Nat → Int} {Φ : (Nat → Int) → Prop} {X : BX} {m fuel : Nat} {g : Nat → Prop} (h : BI nc co kd pa lo0 hi0 Φ X (m + 1) g (fuel + 1)) (hm : m + 1 < 51) (gn : Prop) (T : Nat × TS) (sp sg : Nat → Int) (hsp : ∀ l, l < m → sp l = bSp X l) (hsg : ∀ l, l < m → sg l = bSg X l)
    (hlev : levI nc co kd pa lo0 hi0 Φ (g m) (bTb X m) (sp m) (sg m) m) (hlev2 : levI nc co kd pa lo0 hi0 Φ gn T (sp (m + 1)) 0 (m + 1)) (hs0 : sg (m + 1) = 0) (hc : ∀ y, FP nc kd pa lo0 hi0 Φ y → pndP nc Φ (g m) (bTb X m) (bSp X m) (bSg X m) y → pndP nc Φ (g m) (bTb X m) (sp m) (sg m) y ∨ (gn ∧ regP nc Φ T.2 y))
    (hpd : pdN kd pa nc (bTb X m) (sp m) (sg m) + (6 * wtS kd pa nc T.2 - 3) + 1 ≤ pdN kd pa nc (bTb X m) (bSp X m) (bSg X m)) :
    BI nc co kd pa lo0 hi0 Φ ((m : Int) + 1, upT (bTb X) (m + 1) T, sp, sg, bBs X) (m + 2) (fun l => if l = m + 1 then gn else g l) fuel := by
  obtain ⟨h1, h2, h3, h4, h5, h6⟩ := h
  refine ⟨by show (m : Int) + 1 = ((m + 2 : Nat) : Int) - 1; omega, by omega, ?_, h4, ?_, ?_⟩
  · intro l hl
    show levI nc co kd pa lo0 hi0 Φ (if l = m + 1 then gn else g l) (upT (bTb X) (m + 1) T l) (sp l) (sg l) l
    by_cases e : l = m + 1
    · subst e; rw [if_pos rfl, upT_eq, hs0]; exact hlev2
    · rw [if_neg e, upT_ne e]
      rcases (show l < m ∨ l = m by omega) with w | w
      · rw [hsp l w, hsg l w]; exact h3 l (by omega)
      · subst w; exact hlev
  · intro y hy
    rcases h5 y hy with q | ⟨l, q1, q2⟩
    · exact Or.inl q
    · right
      rcases (show l < m ∨ l = m by omega) with w | w
      · refine ⟨l, by omega, ?_⟩
        show pndP nc Φ (if l = m + 1 then gn else g l) (upT (bTb X) (m + 1) T l) (sp l) (sg l) y
        rw [if_neg (by omega), upT_ne (by omega), hsp l w, hsg l w]; exact q2
      · subst w
        rcases hc y hy q2 with z | z
        · refine ⟨l, by omega, ?_⟩
          show pndP nc Φ (if l = l + 1 then gn else g l) (upT (bTb X) (l + 1) T l) (sp l) (sg l) y
          rw [if_neg (by omega), upT_ne (by omega)]; exact z
        · refine ⟨l + 1, by omega, ?_⟩
          show pndP nc Φ (if l + 1 = l + 1 then gn else g (l + 1)) (upT (bTb X) (l + 1) T (l + 1)) (sp (l + 1)) (sg (l + 1)) y
          rw [if_pos rfl, upT_eq, hs0]
          exact ⟨z.1, z.2, Or.inl rfl⟩
  · show psN kd pa nc (upT (bTb X) (m + 1) T) sp sg m + pdN kd pa nc (upT (bTb X) (m + 1) T m) (sp m) (sg m) + pdN kd pa nc (upT (bTb X) (m + 1) T (m + 1)) (sp (m + 1)) (sg (m + 1)) ≤ fuel
    rw [upT_ne (by omega), upT_eq, hs0, ps_cong (tb' := bTb X) (sp' := bSp X) (sg' := bSg X) (fun l hl => ⟨upT_ne (by omega), hsp l hl, hsg l hl⟩)]
    have e1 : pdN kd pa nc T (sp (m + 1)) 0 = 6 * wtS kd pa nc T.2 - 3 := by unfold pdN; rw [if_pos rfl]
    have h7 : psN kd pa nc (bTb X) (bSp X) (bSg X) m + pdN kd pa nc (bTb X m) (bSp X m) (bSg X m) ≤ fuel + 1 := h6
    rw [e1]; omega
theorem BI_step {nc : Nat} {co kd pa lo0 hi0 : Nat → Int} {Φ : (Nat → Int) → Prop} {X : BX} {m fuel : Nat} {g : Nat → Prop} (hP : colsOk nc kd pa lo0 hi0) (h : BI nc co kd pa lo0 hi0 Φ X (m + 1) g (fuel + 1)) :
    ∃ n' g', BI nc co kd pa lo0 hi0 Φ (stepB kd pa nc m X) n' g' fuel := by
  have hB := h
  obtain ⟨h1, h2, h3, h4, h5, h6⟩ := h
  obtain ⟨l1, l2, l3, l4, l5⟩ := h3 m (by omega)
  have hT : bTb X m = (nc, (bTb X m).2) := by rw [← l1]
  obtain ⟨S, hS⟩ : ∃ S, S = (bTb X m).2 := ⟨_, rfl⟩
  rw [← hS] at l2 l3 l4 l5 hT
  have hnc := hP.1
  have l2' := l2
  obtain ⟨⟨W, B, s, w1, w2, w3⟩, -⟩ := l2'
  have hbel : 0 < tBel S := w1.1.2.2.1
  unfold stepB
  by_cases hA : bSg X m = 2 ∨ ¬ yldB (bTb X m) (bBs X)
  · rw [if_pos hA]
    refine ⟨m, g, BI_down hP hB (bSp X) (fun _ _ => rfl) (bBs X) h4 (fun _ _ q => q) (fun y hy hp => ?_)⟩
    rcases hA with q | q
    · obtain ⟨p1, p2, p3⟩ := hp
      rcases p3 with p3 | p3
      · omega
      · omega
    · obtain ⟨p1, p2, p3⟩ := hp
      rw [hT] at q p2
      have p2' : regP nc Φ S y := p2
      have q' : ¬ yieldP nc (tLo S) (tCe S) (bBs X).1 (tBel S) (tFar S) (bBs X).2.2.1 (bBs X).2.1 (bBs X).2.2.2 := q
      by_cases c1 : (bBs X).2.2.2 ≠ 0 ∨ 0 ≤ tFar S
      · left
        exact Classical.byContradiction (fun z => q' (Or.inl ⟨c1, z⟩))
      · right
        have c2 : (bBs X).2.2.2 = 0 := by omega
        have c3 : tFar S = -1 := by
          rcases w1.2.2.2.2.2.2.2.1 with z | ⟨f, z1, z2, z3⟩ <;> omega
        have c4 : ¬ lexZ (ylF (tLo S) (tCe S) (bBs X).1 (tBel S) (bBs X).2.2.1 (bBs X).2.1) (nc + 1) < 0 := fun z => q' (Or.inr ⟨c1, z⟩)
        have d1 := yl_no w1 w3 (h4.2.2.2.2.1 c2).2 c4
        have d2 := corner_leq w1 p1 w3 c3 y ((st_feas w1 w2 y).mpr p2')
        have e0 : bpV nc (bBs X) 0 = (bBs X).2.2.1 := by unfold bpV; rw [if_pos rfl]
        exact ⟨c2, leq_trans (by rw [e0]; exact h4.1.1) (by rw [cp_0]; exact hbel) hy.1.1 d1 d2⟩
  · rw [if_neg hA]
    have hsg2 : bSg X m ≠ 2 := fun q => hA (Or.inl q)
    have hyl : yldB (bTb X m) (bBs X) := Classical.byContradiction (fun q => hA (Or.inr q))
    rw [hT] at hyl
    have hyl' : yieldP nc (tLo S) (tCe S) (bBs X).1 (tBel S) (tFar S) (bBs X).2.2.1 (bBs X).2.1 (bBs X).2.2.2 := hyl
    have hspl : ∀ l, l < m → spB kd pa nc m X l = bSp X l := by
      intro l hl
      unfold spB
      split
      · rw [up_ne (by omega)]
      · rfl
    have hspm : spB kd pa nc m X m = spZ kd pa nc S := by
      unfold spB
      by_cases q : bSg X m = 0
      · rw [if_pos q, up_same, ← hS]
      · rw [if_neg q]
        rcases l5 with z | ⟨-, c, z1, z2⟩
        · exact absurd z q
        · rw [z1, z2]
    rw [hspm]
    by_cases hneg : spZ kd pa nc S < 0
    · rw [if_pos hneg]
      have hacc : bTb X m = (nc, S) := hT
      rw [hacc]
      refine ⟨m, g, BI_down hP hB (spB kd pa nc m X) hspl (accB (nc, S)) (acc_bst hP l2 l3 hneg) (fun y hy q => ?_) (fun y hy hp => ?_)⟩
      · have c0 : (bBs X).2.2.2 ≠ 2 := by
          intro z
          rcases hyl' with ⟨a, b⟩ | ⟨a, b⟩
          · exact b z
          · exact a (Or.inl (by omega))
        rcases q with q | ⟨q1, q2⟩
        · exact absurd q c0
        · rcases hyl' with ⟨a, b⟩ | ⟨a, b⟩
          · left
            show (if 0 ≤ tFar S then (2 : Int) else 0) = 2
            rw [if_pos (by omega)]
          · right
            refine ⟨by show (if 0 ≤ tFar S then (2 : Int) else 0) = 0; rw [if_neg (by omega)], ?_⟩
            rw [bp_acc]
            have d1 := yl_yes w1 w3 (h4.2.2.2.2.1 q1).2 b
            have e0 : bpV nc (bBs X) 0 = (bBs X).2.2.1 := by unfold bpV; rw [if_pos rfl]
            exact leq_trans (by rw [cp_0]; exact hbel) (by rw [e0]; exact h4.1.1) hy.1.1 d1 q2
      · obtain ⟨p1, p2, p3⟩ := hp
        rw [hacc] at p2
        have p2' : regP nc Φ S y := p2
        rcases w1.2.2.2.2.2.2.2.1 with z | ⟨f, z1, z2, z3⟩
        · right
          refine ⟨by show (if 0 ≤ tFar S then (2 : Int) else 0) = 0; rw [if_neg (by omega)], ?_⟩
          rw [bp_acc]
          exact corner_leq w1 p1 w3 z y ((st_feas w1 w2 y).mpr p2')
        · left
          show (if 0 ≤ tFar S then (2 : Int) else 0) = 2
          rw [if_pos (by omega)]
    · rw [if_neg hneg]
      obtain ⟨c, hc⟩ : ∃ c : Nat, spZ kd pa nc S = (c : Int) := ⟨(spZ kd pa nc S).toNat, by omega⟩
      rw [hc] at hspm
      obtain ⟨u1, u2, u3⟩ := wt_halves hP l2 l3 hc
      have hpos : 1 ≤ wtS kd pa nc S := pr_pos (wt_pos hP l2 l3)
      have hcn := (split_w hP l2 l3 hc).1
      have hsgm : bSg X m = 0 ∨ bSg X m = 1 := by
        rcases l5 with q | ⟨q | q, -⟩
        · exact Or.inl q
        · exact Or.inr q
        · exact absurd q hsg2
      -- the level's own place behind the step
      have hsg' : ∀ l, l < m → va_up (bSg X) m (bSg X m + 1) l = bSg X l := fun l hl => up_ne (by omega)
      have hlev' : levI nc co kd pa lo0 hi0 Φ (g m) (bTb X m) (spB kd pa nc m X m) (va_up (bSg X) m (bSg X m + 1) m) m := by
        rw [hspm, up_same, hT]
        exact ⟨rfl, l2, l3, l4, Or.inr ⟨by omega, c, rfl, hc⟩⟩
      have hpd0 : bSg X m = 0 → pdN kd pa nc (bTb X m) (bSp X m) (bSg X m) = 6 * wtS kd pa nc S - 3 := by
        intro q; unfold pdN; rw [if_pos q, hS]
      have hpd1 : bSg X m = 1 → pdN kd pa nc (bTb X m) (bSp X m) (bSg X m) = 2 + (6 * wtS kd pa nc (raiseT c (flZ S c + 1) S) - 3) := by
        intro q
        have e : bSp X m = (c : Int) := by
          have := hspm
          unfold spB at this
          rw [if_neg (by omega)] at this; exact this
        unfold pdN; rw [if_neg (by omega), if_pos q, e, Int.toNat_natCast, hT]
      have hpdn0 : bSg X m = 0 → pdN kd pa nc (bTb X m) (spB kd pa nc m X m) (va_up (bSg X) m (bSg X m + 1) m) = 2 + (6 * wtS kd pa nc (raiseT c (flZ S c + 1) S) - 3) := by
        intro q
        rw [hspm, up_same, q]
        unfold pdN; rw [if_neg (by omega), if_pos (by omega), Int.toNat_natCast, hT]
      have hpdn1 : bSg X m = 1 → pdN kd pa nc (bTb X m) (spB kd pa nc m X m) (va_up (bSg X) m (bSg X m + 1) m) = 1 := by
        intro q
        rw [up_same, q]
        unfold pdN; rw [if_neg (by omega), if_neg (by omega)]
      -- what a plan that waits here comes to
      have hcov : ∀ y, FP nc kd pa lo0 hi0 Φ y → pndP nc Φ (g m) (bTb X m) (bSp X m) (bSg X m) y → g m ∧ regP nc Φ S y ∧ rightP nc kd pa y ∧ (bSg X m = 1 → (flZ S c + 1) * y 0 ≤ y (1 + c)) := by
        intro y hy hp
        obtain ⟨p1, p2, p3⟩ := hp
        rw [hT] at p2 p3
        refine ⟨p1, p2, hy.2.2, fun q => ?_⟩
        have e : bSp X m = (c : Int) := by
          have := hspm
          unfold spB at this
          rw [if_neg (by omega)] at this; exact this
        rcases p3 with z | ⟨-, z⟩
        · omega
        · rw [e, Int.toNat_natCast] at z; exact z
      have hstay0 : ∀ y, bSg X m = 0 → g m → regP nc Φ S y → (flZ S c + 1) * y 0 ≤ y (1 + c) → pndP nc Φ (g m) (bTb X m) (spB kd pa nc m X m) (va_up (bSg X) m (bSg X m + 1) m) y := by
        intro y q1 q2 q3 q4
        rw [hspm, up_same, q1, hT]
        refine ⟨q2, q3, Or.inr ⟨by omega, ?_⟩⟩
        rw [Int.toNat_natCast]; exact q4
      have huN : ∀ c', c' < nc → 1 ≤ kd c' → tHi S c' ≠ NONEz := fun c' a b => (NI_room hP l2 l3 a b).2
      unfold entB
      by_cases h51 : 51 ≤ m + 1
      · rw [if_pos h51]
        refine ⟨m + 1, g, BI_stay hB (bTb X) (fun _ _ => rfl) (spB kd pa nc m X) (va_up (bSg X) m (bSg X m + 1)) hspl hsg' hlev' (fun y hy hp => ?_) ?_⟩
        · exfalso
          obtain ⟨p1, p2, p3, p4⟩ := hcov y hy hp
          have hd := l4 p1
          obtain ⟨a1, a2⟩ := halves hP l2 p1 l3 hc p2 p3
          have hup : (flZ S c + 1) * y 0 ≤ y (1 + c) → False := by
            intro q
            obtain ⟨b1, b2⟩ := a2 q
            have b3 := dm_pos (kd := kd) (pa := pa) (S := raiseT c (flZ S c + 1) S) huN b2
            have b4 : flZ S c + 1 ≤ tHi S c := by
              have b5 := (p2.2.1 c hcn).2.2 (split_w hP l2 l3 hc).2.2.1
              rcases (show flZ S c + 1 ≤ tHi S c ∨ tHi S c + 1 ≤ flZ S c + 1 by omega) with z | z
              · exact z
              · exfalso
                have b6 : (tHi S c + 1) * y 0 ≤ (flZ S c + 1) * y 0 := Int.mul_le_mul_of_nonneg_right z (Int.le_of_lt p2.1)
                have b7 := p2.1
                rw [Int.add_mul] at b6; omega
            have b8 := u3 b4
            omega
          rcases a1 with ⟨q1, q2, q3⟩ | q
          · have b1 := (u2 q2).2.2
            have hNl := (NI_low hP l2 l3 hc q2)
            have b3 := dm_pos (kd := kd) (pa := pa) (S := nwT kd pa nc c false S) (fun c' a b => by
              rw [hNl.2.1]
              by_cases e : c' = c
              · rw [e, up_same]; have := split_w hP l2 l3 hc; unfold NONEz; omega
              · rw [up_ne e]; exact huN c' a b) q3
            omega
          · exact hup q
        · rcases hsgm with q | q
          · rw [hpdn0 q, hpd0 q]; omega
          · rw [hpdn1 q, hpd1 q]; omega
      · rw [if_neg h51]
        have ehalf : halfB kd pa nc m ((m : Int), bTb X, spB kd pa nc m X, bSg X, bBs X) = nwT kd pa nc c (decide (bSg X m = 1)) S := by
          show nwT kd pa nc (spB kd pa nc m X m).toNat (decide (bSg X m = 1)) (bTb X m).2 = _
          rw [hspm, Int.toNat_natCast, ← hS]
        rw [ehalf]
        show ∃ n' g', BI nc co kd pa lo0 hi0 Φ (if bSg X m = 1 ∨ ¬ (kd (spB kd pa nc m X m).toNat = 2 ∧ (0 ≤ pa (spB kd pa nc m X m).toNat ∧ pa (spB kd pa nc m X m).toNat < (nc : Int)) ∧ 0 < tLo (bTb X m).2 (pa (spB kd pa nc m X m).toNat).toNat) then
            (if (descT (bTb X m).1 1000000 (nwT kd pa nc c (decide (bSg X m = 1)) S)).2 = true then ((m : Int) + 1, upT (bTb X) (m + 1) ((bTb X m).1, (descT (bTb X m).1 1000000 (nwT kd pa nc c (decide (bSg X m = 1)) S)).1), spB kd pa nc m X, va_up (va_up (bSg X) m (bSg X m + 1)) (m + 1) 0, bBs X)
             else ((m : Int), upT (bTb X) (m + 1) ((bTb X m).1, (descT (bTb X m).1 1000000 (nwT kd pa nc c (decide (bSg X m = 1)) S)).1), spB kd pa nc m X, va_up (bSg X) m (bSg X m + 1), bBs X))
            else ((m : Int), upT (bTb X) (m + 1) ((bTb X m).1, nwT kd pa nc c (decide (bSg X m = 1)) S), spB kd pa nc m X, va_up (bSg X) m (bSg X m + 1), bBs X)) n' g' fuel
        rw [hspm, Int.toNat_natCast, l1, ← hS]
        have hsg'' : ∀ l, l < m → va_up (va_up (bSg X) m (bSg X m + 1)) (m + 1) 0 l = bSg X l := fun l hl => by rw [up_ne (by omega)]; exact hsg' l hl
        have hsgk : va_up (va_up (bSg X) m (bSg X m + 1)) (m + 1) 0 m = va_up (bSg X) m (bSg X m + 1) m := up_ne (by omega)
        by_cases hq1 : bSg X m = 1
        · -- the upper half
          rw [if_pos (Or.inl hq1), decide_eq_true hq1]
          have eN : nwT kd pa nc c true S = raiseT c (flZ S c + 1) S := by unfold nwT; rw [if_pos rfl]
          rw [eN]
          have hNu := NI_up hP l2 l3 hc
          obtain ⟨d1, d2, d3, d4⟩ := NI_desc hNu
          by_cases hd : (descT nc 1000000 (raiseT c (flZ S c + 1) S)).2 = true
          · rw [if_pos hd]
            obtain ⟨f1, f2⟩ := wt_fix (kd := kd) (pa := pa) (nc := nc) d2
            refine ⟨m + 2, _, BI_up hB (by omega) (g m ∧ tTi S (1 + c) ≠ 2) (nc, (descT nc 1000000 (raiseT c (flZ S c + 1) S)).1) (spB kd pa nc m X) (va_up (va_up (bSg X) m (bSg X m + 1)) (m + 1) 0) hspl hsg'' (by rw [hsgk]; exact hlev') ⟨rfl, d1, d3 hd, ?_, Or.inl rfl⟩ up_same (fun y hy hp => ?_) ?_⟩
            · intro hg
              show dmS kd pa nc (descT nc 1000000 (raiseT c (flZ S c + 1) S)).1 + ((m + 1 : Nat) : Int) ≤ 50
              have e1 := (NI_room hP d1 (d3 hd) hcn (split_w hP l2 l3 hc).2.1).1
              rw [d2.2.2.1, d2.2.2.2.1] at e1
              have e2 : va_up (tLo S) c (flZ S c + 1) c ≤ tHi S c := e1
              rw [up_same] at e2
              have e3 := u3 e2
              have e4 := l4 hg.1
              rw [f2]; omega
            · right
              obtain ⟨p1, p2, p3, p4⟩ := hcov y hy hp
              obtain ⟨b1, b2⟩ := (halves hP l2 p1 l3 hc p2 p3).2 (p4 hq1)
              exact ⟨⟨p1, b1⟩, (reg_fix d2 y).mpr b2⟩
            · rw [hsgk, hpdn1 hq1, hpd1 hq1]
              show 1 + (6 * wtS kd pa nc (descT nc 1000000 (raiseT c (flZ S c + 1) S)).1 - 3) + 1 ≤ _
              rw [f1]; omega
          · rw [if_neg hd]
            have hd2 : (descT nc 1000000 (raiseT c (flZ S c + 1) S)).2 = false := by simpa using hd
            refine ⟨m + 1, g, BI_stay hB _ (fun l hl => upT_ne (by omega)) (spB kd pa nc m X) (va_up (bSg X) m (bSg X m + 1)) hspl hsg' hlev' (fun y hy hp => ?_) ?_⟩
            · exfalso
              obtain ⟨p1, p2, p3, p4⟩ := hcov y hy hp
              obtain ⟨b1, b2⟩ := (halves hP l2 p1 l3 hc p2 p3).2 (p4 hq1)
              exact d4 hd2 ⟨p1, b1⟩ y b2
            · rw [hpdn1 hq1, hpd1 hq1]; omega
        · -- the lower half
          have hq0 : bSg X m = 0 := by omega
          rw [decide_eq_false hq1]
          by_cases hok : kd c = 2 ∧ (0 ≤ pa c ∧ pa c < (nc : Int)) ∧ 0 < tLo S (pa c).toNat
          · rw [if_neg (by rintro (z | z); exact hq1 z; exact z hok)]
            refine ⟨m + 1, g, BI_stay hB _ (fun l hl => upT_ne (by omega)) (spB kd pa nc m X) (va_up (bSg X) m (bSg X m + 1)) hspl hsg' hlev' (fun y hy hp => ?_) ?_⟩
            · obtain ⟨p1, p2, p3, p4⟩ := hcov y hy hp
              rcases (halves hP l2 p1 l3 hc p2 p3).1 with ⟨z1, z2, z3⟩ | z
              · have := z2 ⟨hok.1, hok.2.1⟩; omega
              · exact hstay0 y hq0 p1 p2 z
            · rw [hpdn0 hq0, hpd0 hq0]; omega
          · rw [if_pos (Or.inr hok)]
            have hok2 : holdsP kd pa nc c → tLo S (pa c).toNat ≤ 0 := by
              intro hh
              rcases (show tLo S (pa c).toNat ≤ 0 ∨ 0 < tLo S (pa c).toNat by omega) with z | z
              · exact z
              · exact absurd ⟨hh.1, hh.2, z⟩ hok
            obtain ⟨n1, -⟩ := NI_low hP l2 l3 hc hok2
            obtain ⟨d1, d2, d3, d4⟩ := NI_desc n1
            obtain ⟨v1, v2, v3⟩ := u2 hok2
            by_cases hd : (descT nc 1000000 (nwT kd pa nc c false S)).2 = true
            · rw [if_pos hd]
              obtain ⟨f1, f2⟩ := wt_fix (kd := kd) (pa := pa) (nc := nc) d2
              have hposL : 1 ≤ wtS kd pa nc (descT nc 1000000 (nwT kd pa nc c false S)).1 := pr_pos (wt_pos hP d1 (d3 hd))
              refine ⟨m + 2, _, BI_up hB (by omega) (g m) (nc, (descT nc 1000000 (nwT kd pa nc c false S)).1) (spB kd pa nc m X) (va_up (va_up (bSg X) m (bSg X m + 1)) (m + 1) 0) hspl hsg'' (by rw [hsgk]; exact hlev') ⟨rfl, d1, d3 hd, ?_, Or.inl rfl⟩ up_same (fun y hy hp => ?_) ?_⟩
              · intro hg
                show dmS kd pa nc (descT nc 1000000 (nwT kd pa nc c false S)).1 + ((m + 1 : Nat) : Int) ≤ 50
                have e4 := l4 hg
                rw [f2]; omega
              · obtain ⟨p1, p2, p3, p4⟩ := hcov y hy hp
                rcases (halves hP l2 p1 l3 hc p2 p3).1 with ⟨z1, z2, z3⟩ | z
                · exact Or.inr ⟨p1, (reg_fix d2 y).mpr z3⟩
                · left; rw [hsgk]; exact hstay0 y hq0 p1 p2 z
              · rw [hsgk, hpdn0 hq0, hpd0 hq0]
                show 2 + (6 * wtS kd pa nc (raiseT c (flZ S c + 1) S) - 3) + (6 * wtS kd pa nc (descT nc 1000000 (nwT kd pa nc c false S)).1 - 3) + 1 ≤ _
                rw [f1] at hposL ⊢
                omega
            · rw [if_neg hd]
              have hd2 : (descT nc 1000000 (nwT kd pa nc c false S)).2 = false := by simpa using hd
              refine ⟨m + 1, g, BI_stay hB _ (fun l hl => upT_ne (by omega)) (spB kd pa nc m X) (va_up (bSg X) m (bSg X m + 1)) hspl hsg' hlev' (fun y hy hp => ?_) ?_⟩
              · obtain ⟨p1, p2, p3, p4⟩ := hcov y hy hp
                rcases (halves hP l2 p1 l3 hc p2 p3).1 with ⟨z1, z2, z3⟩ | z
                · exact absurd z3 (d4 hd2 p1 y)
                · exact hstay0 y hq0 p1 p2 z
              · rw [hpdn0 hq0, hpd0 hq0]; omega
