-- ===== the tables of a search: a pool =====
def poolE (cA : Nat → ClassId) (ad : Nat → Nat → Nat) (tb : Nat → Nat × TS) (ex : Nat → Bool) : Nat → va_W
  | 0 => []
  | n + 1 => poolE cA ad tb ex n ++ (if ex n = true then [] else wTS cA (ad n) (tb n).1 (tb n).2)
theorem pool_cong {cA : Nat → ClassId} {ad ad' : Nat → Nat → Nat} {tb tb' : Nat → Nat × TS} {ex ex' : Nat → Bool} : ∀ {n : Nat}, (∀ j, j < n → ex j = ex' j ∧ (ex j = false → ad j = ad' j ∧ tb j = tb' j)) → poolE cA ad tb ex n = poolE cA ad' tb' ex' n
  | 0, _ => rfl
  | n + 1, h => by
    obtain ⟨h1, h2⟩ := h n (by omega)
    show poolE cA ad tb ex n ++ (if ex n = true then [] else wTS cA (ad n) (tb n).1 (tb n).2) = poolE cA ad' tb' ex' n ++ (if ex' n = true then [] else wTS cA (ad' n) (tb' n).1 (tb' n).2)
    rw [pool_cong (fun j hj => h j (by omega)), ← h1]
    rcases he : ex n with _ | _
    · obtain ⟨e1, e2⟩ := h2 he
      rw [if_neg (by decide), if_neg (by decide), e1, e2]
    · rw [if_pos rfl, if_pos rfl]
theorem pool_pick {cA : Nat → ClassId} {ad : Nat → Nat → Nat} {tb : Nat → Nat × TS} {ex : Nat → Bool} {i : Nat} (hx : ex i = false) : ∀ {n : Nat}, i < n → (poolE cA ad tb ex n).Perm (wTS cA (ad i) (tb i).1 (tb i).2 ++ poolE cA ad tb (fun j => if j = i then true else ex j) n)
  | 0, h => absurd h (Nat.not_lt_zero i)
  | n + 1, h => by
    show (poolE cA ad tb ex n ++ (if ex n = true then [] else wTS cA (ad n) (tb n).1 (tb n).2)).Perm (wTS cA (ad i) (tb i).1 (tb i).2 ++ (poolE cA ad tb (fun j => if j = i then true else ex j) n ++ (if (if n = i then true else ex n) = true then [] else wTS cA (ad n) (tb n).1 (tb n).2)))
    by_cases e : n = i
    · subst e
      rw [if_pos rfl, if_pos rfl, if_neg (by rw [hx]; decide), List.append_nil]
      rw [pool_cong (ex' := fun j => if j = n then true else ex j) (ad' := ad) (tb' := tb) (fun j hj => ⟨by rw [if_neg (by omega)], fun _ => ⟨rfl, rfl⟩⟩)]
      exact List.perm_append_comm
    · rw [if_neg e]
      have ih := pool_pick (cA := cA) (ad := ad) (tb := tb) hx (n := n) (by omega)
      have := ih.append_right (if ex n = true then [] else wTS cA (ad n) (tb n).1 (tb n).2)
      rw [List.append_assoc] at this
      exact this
/-- a table of the pool ahead of the others -/
abbrev frE (cA : Nat → ClassId) (ad : Nat → Nat → Nat) (tb : Nat → Nat × TS) (i k : Nat) : va_W := poolE cA ad tb (fun j => if j = i then true else false) k
abbrev frE2 (cA : Nat → ClassId) (ad : Nat → Nat → Nat) (tb : Nat → Nat × TS) (i k : Nat) : va_W := poolE cA ad tb (fun j => if j = i + 1 then true else if j = i then true else false) k
theorem pool_1 {cA : Nat → ClassId} {ad : Nat → Nat → Nat} {tb : Nat → Nat × TS} {i k : Nat} (h : i < k) (X : va_W) : (X ++ poolE cA ad tb (fun _ => false) k).Perm (X ++ wTS cA (ad i) (tb i).1 (tb i).2 ++ frE cA ad tb i k) := by
  rw [List.append_assoc]
  exact (pool_pick rfl h).append_left X
theorem fr_2 {cA : Nat → ClassId} {ad : Nat → Nat → Nat} {tb : Nat → Nat × TS} {i k : Nat} (h : i + 1 < k) : (frE cA ad tb i k).Perm (wTS cA (ad (i + 1)) (tb (i + 1)).1 (tb (i + 1)).2 ++ frE2 cA ad tb i k) := pool_pick (by rw [if_neg (by omega)]) h
-- ===== what a level's table keeps, as the calls want it =====
theorem half_tab {gd : Prop} {nc : Nat} {co kd pa lo0 hi0 : Nat → Int} {Φ : (Nat → Int) → Prop} {S : TS} (hP : colsOk nc kd pa lo0 hi0) (h : NI gd nc co kd lo0 hi0 Φ S) (hl : dcLn S < 0) {c : Nat} (hs : spZ kd pa nc S = (c : Int)) (up : Bool) : ∃ (g : Prop) (W : Nat → Nat → Int) (B : Nat → Nat → Int) (s : Int), tabI g nc W (nwT kd pa nc c up S) B s := by
  rcases up with _ | _
  · by_cases hok : holdsP kd pa nc c → tLo S (pa c).toNat ≤ 0
    · obtain ⟨⟨⟨W, B, s, k, -⟩, -⟩, -⟩ := NI_low hP h hl hs hok
      exact ⟨_, W, B, s, k⟩
    · have hh : holdsP kd pa nc c := Classical.byContradiction (fun q => hok (fun z => absurd z q))
      have hlp : ¬ tLo S (pa c).toNat ≤ 0 := fun q => hok (fun _ => q)
      obtain ⟨w1, w2, w3, w4, w5, w6, w7, w8, w9, w10, w11⟩ := split_w hP h hl hs
      obtain ⟨⟨W, B, s, h1, h2, h3⟩, -⟩ := h
      obtain ⟨W1, k1, k2, k3⟩ := lower_ok h1 h2 w1 (high := flZ S c) w3 w7 (by omega)
      have eN : nwT kd pa nc c false S = lowerT c (flZ S c) S := by
        unfold nwT
        rw [if_neg (by simp), if_pos (show kd c = 2 ∧ (0 ≤ pa c ∧ pa c < (nc : Int)) from hh)]
        unfold holdT
        rw [if_pos]
        show 0 < tLo S (pa c).toNat
        omega
      exact ⟨_, W1, B, s, by rw [eN]; exact k1⟩
  · have eN : nwT kd pa nc c true S = raiseT c (flZ S c + 1) S := by unfold nwT; rw [if_pos rfl]
    obtain ⟨⟨W, B, s, k, -⟩, -⟩ := NI_up hP h hl hs
    exact ⟨_, W, B, s, by rw [eN]; exact k⟩
/-- the invariant under which a half descends -/
def GdT (nc : Nat) (X : TS) : Prop := ∃ (g : Prop) (W : Nat → Nat → Int) (B : Nat → Nat → Int) (s : Int), tabI g nc W X B s
theorem Gd_bnd {nc : Nat} (X : TS) (h : GdT nc X) : bndT nc X := by
  obtain ⟨g, W, B, s, h⟩ := h
  exact h.2.2.2.2.2.2.2.2.2.2.2
theorem Gd_turn {nc : Nat} (X : TS) (h : GdT nc X) (h1 : 0 ≤ dcLn X) (h2 : 0 ≤ dcK nc X) : GdT nc (turnT nc (dcLn X).toNat (dcK nc X).toNat X) := by
  obtain ⟨g, W, B, s, h⟩ := h
  exact ⟨g, W, _, _, tabI_turn h (line := (dcLn X).toNat) (k := (dcK nc X).toNat) (by omega) (by omega)⟩
theorem NI_facts {gd : Prop} {nc : Nat} {co kd pa lo0 hi0 : Nat → Int} {Φ : (Nat → Int) → Prop} {S : TS} (hP : colsOk nc kd pa lo0 hi0) (h : NI gd nc co kd lo0 hi0 Φ S) (hl : dcLn S < 0) :
    bndT nc S ∧ (∀ j, -20 ≤ tLo S j ∧ tLo S j ≤ 20) ∧ (∀ j, j < nc → 1 ≤ kd j → -100 ≤ flZ S j ∧ flZ S j ≤ 100) := by
  have hb := NI_bel h
  obtain ⟨⟨W, B, s, h1, h2, h3⟩, h4, h5, h6⟩ := h
  refine ⟨h1.2.2.2.2.2.2.2.2.2.2.2, h4, fun j hj hk => ?_⟩
  have hu0 := (hP.2.2.2.2.1 j hj hk).1
  obtain ⟨b4, b5, b6⟩ := (h5 j hj).2.1 hu0
  obtain ⟨v1, v2, v3⟩ := val_rng h1 h2 hl hj b4
  have hfl : tLo S j ≤ flZ S j ∧ flZ S j ≤ tHi S j := fl_rng hb v1 v2
  have := h4 j
  have hhi0 : hi0 j ≤ 20 := by
    rcases hP.2.2.2.1 j with e | e
    · exact absurd e hu0
    · exact e.2
  omega
theorem NI_split {gd : Prop} {nc : Nat} {co kd pa lo0 hi0 : Nat → Int} {Φ : (Nat → Int) → Prop} {S : TS} (hP : colsOk nc kd pa lo0 hi0) (h : NI gd nc co kd lo0 hi0 Φ S) (hl : dcLn S < 0) {c : Nat} (hs : spZ kd pa nc S = (c : Int)) :
    c < 5 ∧ (-99 ≤ flZ S c ∧ flZ S c ≤ 99) ∧ (-100 ≤ tHi S c ∧ tHi S c ≤ 100) ∧ (0 ≤ tGl S c ∧ tGl S c < tNl S) := by
  obtain ⟨w1, w2, w3, w4, w5, w6, w7, w8, w9, w10, w11⟩ := split_w hP h hl hs
  obtain ⟨⟨W, B, s, h1, h2, h3⟩, h4, h5, h6⟩ := h
  obtain ⟨g, g1, g2, g3, g4, g5⟩ := h2.1 c w1 w3
  have := hP.1
  refine ⟨by omega, by omega, by omega, by rw [g3]; omega⟩
