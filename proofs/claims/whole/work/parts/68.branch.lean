theorem pool_2 {cA : Nat → ClassId} {ad : Nat → Nat → Nat} {tb : Nat → Nat × TS} {i k : Nat} (h : i + 1 < k) (X : va_W) : (X ++ poolE cA ad tb (fun _ => false) k).Perm (X ++ wTS cA (ad i) (tb i).1 (tb i).2 ++ wTS cA (ad (i + 1)) (tb (i + 1)).1 (tb (i + 1)).2 ++ frE2 cA ad tb i k) := by
  refine (pool_1 (i := i) (by omega) X).trans ?_
  rw [List.append_assoc (X ++ wTS cA (ad i) (tb i).1 (tb i).2)]
  exact (fr_2 h).append_left _
theorem perm_bt (S P B T F : va_W) : (S ++ P ++ B ++ T ++ F).Perm ((B ++ T) ++ (S ++ P ++ F)) := by
  have h : (S ++ P ++ (B ++ T) ++ F).Perm ((B ++ T) ++ (S ++ P) ++ F) := (List.perm_append_comm (l₁ := S ++ P) (l₂ := B ++ T)).append_right F
  simp only [List.append_assoc] at h ⊢
  exact h
theorem perm_bt' (S P B T F : va_W) : ((S ++ P ++ F) ++ (B ++ T)).Perm (S ++ P ++ B ++ T ++ F) := by
  have h : ((S ++ P) ++ (F ++ (B ++ T))).Perm ((S ++ P) ++ ((B ++ T) ++ F)) := (List.perm_append_comm (l₁ := F) (l₂ := B ++ T)).append_left _
  simp only [List.append_assoc] at h ⊢
  exact h
theorem perm_e (S P B T F : va_W) : (S ++ P ++ B ++ T ++ F).Perm ((S ++ P ++ T) ++ (B ++ F)) := by
  have h : ((S ++ P) ++ ((B ++ T) ++ F)).Perm ((S ++ P) ++ ((T ++ B) ++ F)) := ((List.perm_append_comm (l₁ := B) (l₂ := T)).append_right F).append_left _
  simp only [List.append_assoc] at h ⊢
  exact h
theorem perm_e' (S P B T F : va_W) : ((B ++ F) ++ (S ++ P ++ T)).Perm (S ++ P ++ B ++ T ++ F) := by
  have h1 : ((B ++ F) ++ (S ++ P ++ T)).Perm ((S ++ P ++ T) ++ (B ++ F)) := List.perm_append_comm
  exact h1.trans (perm_e S P B T F).symm
theorem ent_eq {kd pa : Nat → Int} {nc L n1 c : Nat} {X : BX} {S : TS} (h51 : ¬ 51 ≤ L + 1) (hT : bTb X L = (n1, S)) (hsp : bSp X L = (c : Int)) :
    entB kd pa nc L X = (if (bSg X L = 1 ∨ ¬ (kd c = 2 ∧ (0 ≤ pa c ∧ pa c < (nc : Int)) ∧ 0 < S.2.2.1 (pa c).toNat)) ∧ (descT n1 1000000 (nwT kd pa nc c (decide (bSg X L = 1)) S)).2 = true then (L : Int) + 1 else (L : Int), upT (bTb X) (L + 1) (n1, if bSg X L = 1 ∨ ¬ (kd c = 2 ∧ (0 ≤ pa c ∧ pa c < (nc : Int)) ∧ 0 < S.2.2.1 (pa c).toNat) then (descT n1 1000000 (nwT kd pa nc c (decide (bSg X L = 1)) S)).1 else nwT kd pa nc c (decide (bSg X L = 1)) S), bSp X,
      if (bSg X L = 1 ∨ ¬ (kd c = 2 ∧ (0 ≤ pa c ∧ pa c < (nc : Int)) ∧ 0 < S.2.2.1 (pa c).toNat)) ∧ (descT n1 1000000 (nwT kd pa nc c (decide (bSg X L = 1)) S)).2 = true then va_up (va_up (bSg X) L (bSg X L + 1)) (L + 1) 0 else va_up (bSg X) L (bSg X L + 1), bBs X) := by
  unfold entB
  rw [if_neg h51]
  have e1 : halfB kd pa nc L X = nwT kd pa nc c (decide (bSg X L = 1)) S := by
    show nwT kd pa nc (bSp X L).toNat (decide (bSg X L = 1)) (bTb X L).2 = _
    rw [hT, hsp, Int.toNat_natCast]
  rw [e1, hT, hsp, Int.toNat_natCast]
  by_cases ok : bSg X L = 1 ∨ ¬ (kd c = 2 ∧ (0 ≤ pa c ∧ pa c < (nc : Int)) ∧ 0 < S.2.2.1 (pa c).toNat)
  · rw [if_pos (show bSg X L = 1 ∨ ¬ (kd c = 2 ∧ (0 ≤ pa c ∧ pa c < (nc : Int)) ∧ 0 < tLo S (pa c).toNat) from ok), if_pos ok]
    by_cases hd : (descT n1 1000000 (nwT kd pa nc c (decide (bSg X L = 1)) S)).2 = true
    · rw [if_pos hd, if_pos ⟨ok, hd⟩, if_pos ⟨ok, hd⟩]
    · rw [if_neg hd, if_neg (fun q => hd q.2), if_neg (fun q => hd q.2)]
  · rw [if_neg (show ¬ (bSg X L = 1 ∨ ¬ (kd c = 2 ∧ (0 ≤ pa c ∧ pa c < (nc : Int)) ∧ 0 < tLo S (pa c).toNat)) from ok), if_neg ok, if_neg (fun q => ok q.1), if_neg (fun q => ok q.1)]

set_option maxHeartbeats 4000000 in
set_option maxRecDepth 100000 in
theorem kX4_branch (l : Launch) (D : va_G) (cA : Nat → ClassId) (s : Nat → Nat) (a : Nat → Nat) (a_kd a_lo a_hi a_co a_pa a_rk a_nu a_ct a_sa : Nat → Int) (a_nc a_nr : Nat) (b : Nat → Nat) (X0 : BX) (k0 : Nat) (ad0 : Nat → Nat → Nat) (tb0 : Nat → Option Nat) (co lo0 hi0 : Nat → Int) (Φ : (Nat → Int) → Prop) (hP : colsOk a_nc a_kd a_pa lo0 hi0) (qpa : ∀ j, a_pa j = -2000000005 ∨ (0 ≤ a_pa j ∧ a_pa j < 5)) (hk1 : 1 ≤ k0) (hk51 : k0 ≤ 51) (ht1 : ∀ j, j < k0 → tb0 j = some (ad0 j 0)) (ht2 : ∀ j, k0 ≤ j → j < 51 → tb0 j = none) (g0 : Nat → Prop) (hBI0 : BI a_nc co a_kd a_pa lo0 hi0 Φ (0, bTb X0, bSp X0, va_up (bSg X0) 0 0, bBs X0) 1 g0 1000000) :
    CT l yX4_branch wsX4_branch ({ frames := 5, cells := 357, slots := 7956, locals := 130 }) D cA [.ref (s 0), .ref (a 0), .ref (b 0)] (wS cA s tb0 (bSp X0) (bSg X0) ++ wP cA a a_kd a_lo a_hi a_co a_pa a_rk a_nu a_ct a_sa ((a_nc : Nat) : Int) ((a_nr : Nat) : Int) ++ wB cA b (bBs X0).1 (bBs X0).2.1 (bBs X0).2.2.1 (bBs X0).2.2.2 ++ poolE cA ad0 (bTb X0) (fun _ => false) k0) (fun ov ow => ov = none ∧ ∃ (k : Nat) (ad : Nat → Nat → Nat) (tbf : Nat → Option Nat), k0 ≤ k ∧ k ≤ 51 ∧ (∀ j, j < k → tbf j = some (ad j 0)) ∧ (∀ j, k ≤ j → j < 51 → tbf j = none) ∧ (∀ j, j < k0 → ad j = ad0 j) ∧ ow = wS cA s tbf (bSp (runB a_kd a_pa a_nc 1000000 (0, bTb X0, bSp X0, va_up (bSg X0) 0 0, bBs X0))) (bSg (runB a_kd a_pa a_nc 1000000 (0, bTb X0, bSp X0, va_up (bSg X0) 0 0, bBs X0))) ++ wP cA a a_kd a_lo a_hi a_co a_pa a_rk a_nu a_ct a_sa ((a_nc : Nat) : Int) ((a_nr : Nat) : Int) ++ wB cA b (bBs (runB a_kd a_pa a_nc 1000000 (0, bTb X0, bSp X0, va_up (bSg X0) 0 0, bBs X0))).1 (bBs (runB a_kd a_pa a_nc 1000000 (0, bTb X0, bSp X0, va_up (bSg X0) 0 0, bBs X0))).2.1 (bBs (runB a_kd a_pa a_nc 1000000 (0, bTb X0, bSp X0, va_up (bSg X0) 0 0, bBs X0))).2.2.1 (bBs (runB a_kd a_pa a_nc 1000000 (0, bTb X0, bSp X0, va_up (bSg X0) 0 0, bBs X0))).2.2.2 ++ poolE cA ad (bTb (runB a_kd a_pa a_nc 1000000 (0, bTb X0, bSp X0, va_up (bSg X0) 0 0, bBs X0))) (fun _ => false) k) 357 7956 := by
  refine CT.mk (cc := cX4_branch) (maxL := 6) (ret := none) (by decide +kernel) rfl (Nat.le_of_ble_eq_true rfl) ?_
  intro p_ e_ s_ m_ b_ me_ c_ A F hnm hA
  have hV := @IM_P D s_ A
  have iX4 : ∀ w ∈ u_ws RX4 TX4 3, w ∈ wsX4_branch := by decide +kernel
  have qnc : a_nc ≤ 5 := hP.1
  have qkd := hP.2.1
  have lp12 : ∀ (f n : Nat) (X : BX) (nn : Nat) (g : Nat → Prop) (k : Nat) (ad : Nat → Nat → Nat) (tbf : Nat → Option Nat), n ≤ 1000000 → runB a_kd a_pa a_nc (1000000 - n) X = runB a_kd a_pa a_nc 1000000 (0, bTb X0, bSp X0, va_up (bSg X0) 0 0, bBs X0) → BI a_nc co a_kd a_pa lo0 hi0 Φ X nn g (1000000 - n) → k0 ≤ k → k ≤ 51 → nn ≤ k → (∀ j, j < k → tbf j = some (ad j 0)) → (∀ j, k ≤ j → j < 51 → tbf j = none) → (∀ j, j < k0 → ad j = ad0 j) → 1000000 - n < f → GW p_ l e_ (headSpec wsX4_branch ({ frames := 5, cells := 357, slots := 7956, locals := 130 })).room s_ m_ ([.ref (s 0), .ref (a 0), .ref (b 0)]).toArray b_ me_ c_ (MQ b_ (Qm D (fun ov ow => ov = none ∧ ∃ (k : Nat) (ad : Nat → Nat → Nat) (tbf : Nat → Option Nat), k0 ≤ k ∧ k ≤ 51 ∧ (∀ j, j < k → tbf j = some (ad j 0)) ∧ (∀ j, k ≤ j → j < 51 → tbf j = none) ∧ (∀ j, j < k0 → ad j = ad0 j) ∧ ow = wS cA s tbf (bSp (runB a_kd a_pa a_nc 1000000 (0, bTb X0, bSp X0, va_up (bSg X0) 0 0, bBs X0))) (bSg (runB a_kd a_pa a_nc 1000000 (0, bTb X0, bSp X0, va_up (bSg X0) 0 0, bBs X0))) ++ wP cA a a_kd a_lo a_hi a_co a_pa a_rk a_nu a_ct a_sa ((a_nc : Nat) : Int) ((a_nr : Nat) : Int) ++ wB cA b (bBs (runB a_kd a_pa a_nc 1000000 (0, bTb X0, bSp X0, va_up (bSg X0) 0 0, bBs X0))).1 (bBs (runB a_kd a_pa a_nc 1000000 (0, bTb X0, bSp X0, va_up (bSg X0) 0 0, bBs X0))).2.1 (bBs (runB a_kd a_pa a_nc 1000000 (0, bTb X0, bSp X0, va_up (bSg X0) 0 0, bBs X0))).2.2.1 (bBs (runB a_kd a_pa a_nc 1000000 (0, bTb X0, bSp X0, va_up (bSg X0) 0 0, bBs X0))).2.2.2 ++ poolE cA ad (bTb (runB a_kd a_pa a_nc 1000000 (0, bTb X0, bSp X0, va_up (bSg X0) 0 0, bBs X0))) (fun _ => false) k) A) ([.ref (s 0), .ref (a 0), .ref (b 0)]).toArray s_ 357 7956 A) (IM D s_ A) 6 (7 * (k - k0)) (156 * (k - k0)) (wS cA s tbf (bSp X) (bSg X) ++ wP cA a a_kd a_lo a_hi a_co a_pa a_rk a_nu a_ct a_sa ((a_nc : Nat) : Int) ((a_nr : Nat) : Int) ++ wB cA b (bBs X).1 (bBs X).2.1 (bBs X).2.2.1 (bBs X).2.2.2 ++ poolE cA ad (bTb X) (fun _ => false) k) ([(0, .ref (s 0)), (1, .ref (a 0)), (2, .ref (b 0)), (3, iv (bLv X)), (4, iv (((n : Nat) : Int)))]) [] 12 := by
    intro f
    induction f with
    | zero => intros; omega
    | succ f ih =>
      intro n X nn g k ad tbf hn hrun hB hk0 hk hnk hx1 hx2 hx3 hmu
      have hlvl : bLv X = (nn : Int) - 1 := hB.1
      have hnn : nn ≤ 51 := hB.2.1
      refine g_iload F 4 rfl dX4_branch_12 ?_
      refine g_ldc F (1000000) (by decide) (List.mem_of_getElem? (i := 2) rfl) dX4_branch_14 ?_
      refine g_icmp_ge F (tgt := 111) dX4_branch_16 (by decide) ⟨by omega, by omega⟩ ⟨by decide, by decide⟩ (fun c1 => ?_) (fun c1 => ?_)
      · have e : runB a_kd a_pa a_nc (1000000 - n) X = X := by rw [show 1000000 - n = 0 by omega]; rfl
        rw [e] at hrun
        subst hrun
        exact g_vret F rfl (by omega) (by omega) ⟨rfl, k, ad, tbf, hk0, hk, hx1, hx2, hx3, rfl⟩ dX4_branch_111
      · refine g_iload_n F 3 rfl rfl dX4_branch_19 ?_
        refine g_if_lt F (tgt := 111) dX4_branch_20 (by decide) ⟨by omega, by omega⟩ (fun c2 => ?_) (fun c2 => ?_)
        · have e : runB a_kd a_pa a_nc (1000000 - n) X = X := by
            rw [show 1000000 - n = (1000000 - (n + 1)) + 1 by omega]
            show (if bLv X < 0 then X else _) = X
            rw [if_pos c2]
          rw [e] at hrun
          subst hrun
          exact g_vret F rfl (by omega) (by omega) ⟨rfl, k, ad, tbf, hk0, hk, hx1, hx2, hx3, rfl⟩ dX4_branch_111
        · obtain ⟨m, rfl⟩ : ∃ m, nn = m + 1 := ⟨nn - 1, by omega⟩
          have hm : bLv X = (m : Int) := by omega
          have hrun2 : runB a_kd a_pa a_nc (1000000 - (n + 1)) (stepB a_kd a_pa a_nc m X) = runB a_kd a_pa a_nc 1000000 (0, bTb X0, bSp X0, va_up (bSg X0) 0 0, bBs X0) := by
            rw [← hrun, show 1000000 - n = (1000000 - (n + 1)) + 1 by omega]
            show _ = (if bLv X < 0 then X else runB a_kd a_pa a_nc (1000000 - (n + 1)) (stepB a_kd a_pa a_nc (bLv X).toNat X))
            rw [if_neg c2, hm, Int.toNat_natCast]
          have hB1 := hB
          rw [show 1000000 - n = (1000000 - (n + 1)) + 1 by omega] at hB1
          obtain ⟨n', g', hB2⟩ := BI_step hP hB1
          obtain ⟨l1, l2, l3, l4, l5⟩ := hB.2.2.1 m (by omega)
          obtain ⟨S, hS⟩ : ∃ S, S = (bTb X m).2 := ⟨_, rfl⟩
          have hT : bTb X m = (a_nc, S) := by rw [hS, ← l1]
          rw [← hS] at l2 l3 l5
          obtain ⟨⟨f1, f2, f3, f4, f5, f6, f7, f8⟩, f9, f10⟩ := NI_facts hP l2 l3
          have hbst := hB.2.2.2.1
          have hsgr : 0 ≤ bSg X m ∧ bSg X m ≤ 2 := by rcases l5 with q | ⟨q | q, -⟩ <;> omega
          have hbo : 0 ≤ (bBs X).2.2.2 ∧ (bBs X).2.2.2 ≤ 3 := by rcases hbst.2.2.2.1 with q | q | q <;> omega
          have at105 : ∀ (X' : BX) (n1 : Nat) (g1 : Nat → Prop) (k' : Nat) (ad' : Nat → Nat → Nat) (tbf' : Nat → Option Nat), runB a_kd a_pa a_nc (1000000 - (n + 1)) X' = runB a_kd a_pa a_nc 1000000 (0, bTb X0, bSp X0, va_up (bSg X0) 0 0, bBs X0) → BI a_nc co a_kd a_pa lo0 hi0 Φ X' n1 g1 (1000000 - (n + 1)) → k0 ≤ k' → k' ≤ 51 → n1 ≤ k' → (∀ j, j < k' → tbf' j = some (ad' j 0)) → (∀ j, k' ≤ j → j < 51 → tbf' j = none) → (∀ j, j < k0 → ad' j = ad0 j) → GW p_ l e_ (headSpec wsX4_branch ({ frames := 5, cells := 357, slots := 7956, locals := 130 })).room s_ m_ ([.ref (s 0), .ref (a 0), .ref (b 0)]).toArray b_ me_ c_ (MQ b_ (Qm D (fun ov ow => ov = none ∧ ∃ (k : Nat) (ad : Nat → Nat → Nat) (tbf : Nat → Option Nat), k0 ≤ k ∧ k ≤ 51 ∧ (∀ j, j < k → tbf j = some (ad j 0)) ∧ (∀ j, k ≤ j → j < 51 → tbf j = none) ∧ (∀ j, j < k0 → ad j = ad0 j) ∧ ow = wS cA s tbf (bSp (runB a_kd a_pa a_nc 1000000 (0, bTb X0, bSp X0, va_up (bSg X0) 0 0, bBs X0))) (bSg (runB a_kd a_pa a_nc 1000000 (0, bTb X0, bSp X0, va_up (bSg X0) 0 0, bBs X0))) ++ wP cA a a_kd a_lo a_hi a_co a_pa a_rk a_nu a_ct a_sa ((a_nc : Nat) : Int) ((a_nr : Nat) : Int) ++ wB cA b (bBs (runB a_kd a_pa a_nc 1000000 (0, bTb X0, bSp X0, va_up (bSg X0) 0 0, bBs X0))).1 (bBs (runB a_kd a_pa a_nc 1000000 (0, bTb X0, bSp X0, va_up (bSg X0) 0 0, bBs X0))).2.1 (bBs (runB a_kd a_pa a_nc 1000000 (0, bTb X0, bSp X0, va_up (bSg X0) 0 0, bBs X0))).2.2.1 (bBs (runB a_kd a_pa a_nc 1000000 (0, bTb X0, bSp X0, va_up (bSg X0) 0 0, bBs X0))).2.2.2 ++ poolE cA ad (bTb (runB a_kd a_pa a_nc 1000000 (0, bTb X0, bSp X0, va_up (bSg X0) 0 0, bBs X0))) (fun _ => false) k) A) ([.ref (s 0), .ref (a 0), .ref (b 0)]).toArray s_ 357 7956 A) (IM D s_ A) 6 (7 * (k' - k0)) (156 * (k' - k0)) (wS cA s tbf' (bSp X') (bSg X') ++ wP cA a a_kd a_lo a_hi a_co a_pa a_rk a_nu a_ct a_sa ((a_nc : Nat) : Int) ((a_nr : Nat) : Int) ++ wB cA b (bBs X').1 (bBs X').2.1 (bBs X').2.2.1 (bBs X').2.2.2 ++ poolE cA ad' (bTb X') (fun _ => false) k') ([(0, .ref (s 0)), (1, .ref (a 0)), (2, .ref (b 0)), (3, iv (bLv X')), (4, iv (((n : Nat) : Int)))]) [] 105 := by
            intro X' n1 g1 k' ad' tbf' r1 r2 r3 r4 r5 r6 r7 r8
            refine g_iinc F 4 rfl ([(4, iv (((n : Nat) : Int) + 1)), (0, .ref (s 0)), (1, .ref (a 0)), (2, .ref (b 0)), (3, iv (bLv X'))]) rfl (by decide) dX4_branch_105 ?_
            refine g_goto F (tgt := 12) dX4_branch_108 (by decide) ?_
            refine g_lsub ([(0, .ref (s 0)), (1, .ref (a 0)), (2, .ref (b 0)), (3, iv (bLv X')), (4, iv (((n : Nat) : Int) + 1))]) [1, 2, 3, 4, 0] rfl ?_
            exact ih (n + 1) X' n1 g1 k' ad' tbf' (by omega) r1 r2 r3 r4 r5 r6 r7 r8 (by omega)
          refine g_perm (wS cA s tbf (bSp X) (bSg X) ++ wP cA a a_kd a_lo a_hi a_co a_pa a_rk a_nu a_ct a_sa ((a_nc : Nat) : Int) ((a_nr : Nat) : Int) ++ wB cA b (bBs X).1 (bBs X).2.1 (bBs X).2.2.1 (bBs X).2.2.2 ++ wTS cA (ad m) a_nc S ++ frE cA ad (bTb X) m k) (by have h := pool_1 (cA := cA) (ad := ad) (tb := bTb X) (show m < k by omega) (wS cA s tbf (bSp X) (bSg X) ++ wP cA a a_kd a_lo a_hi a_co a_pa a_rk a_nu a_ct a_sa ((a_nc : Nat) : Int) ((a_nr : Nat) : Int) ++ wB cA b (bBs X).1 (bBs X).2.1 (bBs X).2.2.1 (bBs X).2.2.2); rw [hT] at h; exact h) ?_
          refine g_eq (lv' := [(0, .ref (s 0)), (1, .ref (a 0)), (2, .ref (b 0)), (3, iv (((m : Nat) : Int))), (4, iv (((n : Nat) : Int)))]) rfl (by rw [hm]) rfl ?_
          refine g_aload_n F 0 rfl rfl dX4_branch_23 ?_
          refine g_iload_n F 3 rfl rfl dX4_branch_24 ?_
          refine g_callRV F hV (As := [iv (((m : Nat) : Int))]) (rest := []) (kX4_tableAt_has l D cA s tbf (bSp X) (bSg X) m (ad m 0) (by omega) (hx1 m (by omega))) (cwV 1 F.2.2.2.2.1 gX4_branch_X4_tableAt rfl rfl rfl (by decide +kernel) ⟨(Nat.le_of_ble_eq_true rfl), (Nat.le_of_ble_eq_true rfl)⟩) rfl rfl (q0 := 0) rfl [0, 1, 2, 3] rfl rfl rfl (Nat.le_of_ble_eq_true rfl) ⟨by show 7 * (k - k0) ≤ 357; omega, by show 156 * (k - k0) ≤ 7956; omega⟩ dX4_branch_25 (fun v hv => ?_)
          subst hv
          refine g_eq (st' := [.ref (ad m 0)]) rfl rfl rfl ?_
          refine g_astore F ([(5, .ref (ad m 0)), (0, .ref (s 0)), (1, .ref (a 0)), (2, .ref (b 0)), (3, iv (((m : Nat) : Int))), (4, iv (((n : Nat) : Int)))]) rfl (by decide) dX4_branch_28 ?_
          have down : stepB a_kd a_pa a_nc m X = ((m : Int) - 1, bTb X, bSp X, bSg X, bBs X) → GW p_ l e_ (headSpec wsX4_branch ({ frames := 5, cells := 357, slots := 7956, locals := 130 })).room s_ m_ ([.ref (s 0), .ref (a 0), .ref (b 0)]).toArray b_ me_ c_ (MQ b_ (Qm D (fun ov ow => ov = none ∧ ∃ (k : Nat) (ad : Nat → Nat → Nat) (tbf : Nat → Option Nat), k0 ≤ k ∧ k ≤ 51 ∧ (∀ j, j < k → tbf j = some (ad j 0)) ∧ (∀ j, k ≤ j → j < 51 → tbf j = none) ∧ (∀ j, j < k0 → ad j = ad0 j) ∧ ow = wS cA s tbf (bSp (runB a_kd a_pa a_nc 1000000 (0, bTb X0, bSp X0, va_up (bSg X0) 0 0, bBs X0))) (bSg (runB a_kd a_pa a_nc 1000000 (0, bTb X0, bSp X0, va_up (bSg X0) 0 0, bBs X0))) ++ wP cA a a_kd a_lo a_hi a_co a_pa a_rk a_nu a_ct a_sa ((a_nc : Nat) : Int) ((a_nr : Nat) : Int) ++ wB cA b (bBs (runB a_kd a_pa a_nc 1000000 (0, bTb X0, bSp X0, va_up (bSg X0) 0 0, bBs X0))).1 (bBs (runB a_kd a_pa a_nc 1000000 (0, bTb X0, bSp X0, va_up (bSg X0) 0 0, bBs X0))).2.1 (bBs (runB a_kd a_pa a_nc 1000000 (0, bTb X0, bSp X0, va_up (bSg X0) 0 0, bBs X0))).2.2.1 (bBs (runB a_kd a_pa a_nc 1000000 (0, bTb X0, bSp X0, va_up (bSg X0) 0 0, bBs X0))).2.2.2 ++ poolE cA ad (bTb (runB a_kd a_pa a_nc 1000000 (0, bTb X0, bSp X0, va_up (bSg X0) 0 0, bBs X0))) (fun _ => false) k) A) ([.ref (s 0), .ref (a 0), .ref (b 0)]).toArray s_ 357 7956 A) (IM D s_ A) 6 (7 * (k - k0)) (156 * (k - k0)) (wS cA s tbf (bSp X) (bSg X) ++ wP cA a a_kd a_lo a_hi a_co a_pa a_rk a_nu a_ct a_sa ((a_nc : Nat) : Int) ((a_nr : Nat) : Int) ++ wB cA b (bBs X).1 (bBs X).2.1 (bBs X).2.2.1 (bBs X).2.2.2 ++ wTS cA (ad m) a_nc S ++ frE cA ad (bTb X) m k) ([(5, .ref (ad m 0)), (0, .ref (s 0)), (1, .ref (a 0)), (2, .ref (b 0)), (3, iv (((m : Nat) : Int))), (4, iv (((n : Nat) : Int)))]) [] 49 := by
            intro hst
            rw [hst] at hrun2 hB2
            have hlv : (m : Int) - 1 = (n' : Int) - 1 := hB2.1
            refine g_iinc F 4 rfl ([(3, iv (((m : Nat) : Int) + (-1))), (5, .ref (ad m 0)), (0, .ref (s 0)), (1, .ref (a 0)), (2, .ref (b 0)), (4, iv (((n : Nat) : Int)))]) rfl (by decide) dX4_branch_49 ?_
            refine g_goto F (tgt := 105) dX4_branch_52 (by decide) ?_
            refine g_lsub ([(0, .ref (s 0)), (1, .ref (a 0)), (2, .ref (b 0)), (3, iv (((m : Nat) : Int) + (-1))), (4, iv (((n : Nat) : Int)))]) [2, 3, 4, 0, 5] rfl ?_
            refine g_perm (wS cA s tbf (bSp X) (bSg X) ++ wP cA a a_kd a_lo a_hi a_co a_pa a_rk a_nu a_ct a_sa ((a_nc : Nat) : Int) ((a_nr : Nat) : Int) ++ wB cA b (bBs X).1 (bBs X).2.1 (bBs X).2.2.1 (bBs X).2.2.2 ++ poolE cA ad (bTb X) (fun _ => false) k) (by have h := pool_1 (cA := cA) (ad := ad) (tb := bTb X) (show m < k by omega) (wS cA s tbf (bSp X) (bSg X) ++ wP cA a a_kd a_lo a_hi a_co a_pa a_rk a_nu a_ct a_sa ((a_nc : Nat) : Int) ((a_nr : Nat) : Int) ++ wB cA b (bBs X).1 (bBs X).2.1 (bBs X).2.2.1 (bBs X).2.2.2); rw [hT] at h; exact h.symm) ?_
            exact at105 ((m : Int) - 1, bTb X, bSp X, bSg X, bBs X) n' g' k ad tbf hrun2 hB2 hk0 hk (by omega) hx1 hx2 hx3
          refine g_aload_n F 1 rfl rfl dX4_branch_30 ?_
          refine g_get F hV iX4 0 rfl rfl 2 (by decide) (List.mem_of_getElem? (i := 1) rfl) rfl dX4_branch_31 ?_
          refine g_iload_n F 4 rfl rfl dX4_branch_34 ?_
          refine g_iald F hV 3 rfl m rfl (by omega) (by decide) dX4_branch_35 ?_
          refine g_iconst F dX4_branch_36 ?_
          refine g_icmp_eq F (tgt := 49) dX4_branch_37 (by decide) ⟨by omega, by omega⟩ ⟨by decide, by decide⟩ (fun c3 => ?_) (fun c3 => ?_)
          · exact down (by unfold stepB; rw [if_pos (Or.inl c3)])
          · refine g_aload_n F 3 rfl rfl dX4_branch_40 ?_
            refine g_aload F 0 rfl dX4_branch_41 ?_
            refine g_callRV F hV (As := [.ref (ad m 0)]) (rest := []) (kX0_mayYieldTo l D cA b (bBs X).1 (bBs X).2.1 (bBs X).2.2.1 (bBs X).2.2.2 (ad m) (S).1 (S).2.1 (S).2.2.1 (S).2.2.2.1 (S).2.2.2.2.1 (S).2.2.2.2.2.1 a_nc (S).2.2.2.2.2.2.1 (S).2.2.2.2.2.2.2.1 (S).2.2.2.2.2.2.2.2 qnc f8 f9 f4 f5 hbst.1 hbst.2.1 hbst.2.2.1 hbo) (cwV 1 F.2.2.2.2.1 gX4_branch_X0_mayYieldTo rfl rfl rfl (by decide +kernel) ⟨(Nat.le_of_ble_eq_true rfl), (Nat.le_of_ble_eq_true rfl)⟩) rfl rfl (q0 := 0) rfl [14, 15, 16, 17, 18, 19, 20, 21, 22] rfl rfl rfl (Nat.le_of_ble_eq_true rfl) ⟨by show 7 * (k - k0) ≤ 357; omega, by show 156 * (k - k0) ≤ 7956; omega⟩ dX4_branch_43 (fun v hv => ?_)
            subst hv
            refine g_eq (st' := [iv (if yieldP a_nc S.2.2.1 S.1 (bBs X).1 S.2.2.2.2.2.2.2.1 S.2.2.2.2.2.2.2.2 (bBs X).2.2.1 (bBs X).2.1 (bBs X).2.2.2 then 1 else 0)]) rfl rfl rfl ?_
            refine g_ifb_ne F (tgt := 55) dX4_branch_46 (by decide) (fun c4 => ?_) (fun c4 => ?_)
            · -- it may yield
              have hyl : yldB (bTb X m) (bBs X) := by rw [hT]; exact c4
              have hnot : ¬ (bSg X m = 2 ∨ ¬ yldB (bTb X m) (bBs X)) := by rintro (q | q); exact c3 q; exact q hyl
              have at77 : GW p_ l e_ (headSpec wsX4_branch ({ frames := 5, cells := 357, slots := 7956, locals := 130 })).room s_ m_ ([.ref (s 0), .ref (a 0), .ref (b 0)]).toArray b_ me_ c_ (MQ b_ (Qm D (fun ov ow => ov = none ∧ ∃ (k : Nat) (ad : Nat → Nat → Nat) (tbf : Nat → Option Nat), k0 ≤ k ∧ k ≤ 51 ∧ (∀ j, j < k → tbf j = some (ad j 0)) ∧ (∀ j, k ≤ j → j < 51 → tbf j = none) ∧ (∀ j, j < k0 → ad j = ad0 j) ∧ ow = wS cA s tbf (bSp (runB a_kd a_pa a_nc 1000000 (0, bTb X0, bSp X0, va_up (bSg X0) 0 0, bBs X0))) (bSg (runB a_kd a_pa a_nc 1000000 (0, bTb X0, bSp X0, va_up (bSg X0) 0 0, bBs X0))) ++ wP cA a a_kd a_lo a_hi a_co a_pa a_rk a_nu a_ct a_sa ((a_nc : Nat) : Int) ((a_nr : Nat) : Int) ++ wB cA b (bBs (runB a_kd a_pa a_nc 1000000 (0, bTb X0, bSp X0, va_up (bSg X0) 0 0, bBs X0))).1 (bBs (runB a_kd a_pa a_nc 1000000 (0, bTb X0, bSp X0, va_up (bSg X0) 0 0, bBs X0))).2.1 (bBs (runB a_kd a_pa a_nc 1000000 (0, bTb X0, bSp X0, va_up (bSg X0) 0 0, bBs X0))).2.2.1 (bBs (runB a_kd a_pa a_nc 1000000 (0, bTb X0, bSp X0, va_up (bSg X0) 0 0, bBs X0))).2.2.2 ++ poolE cA ad (bTb (runB a_kd a_pa a_nc 1000000 (0, bTb X0, bSp X0, va_up (bSg X0) 0 0, bBs X0))) (fun _ => false) k) A) ([.ref (s 0), .ref (a 0), .ref (b 0)]).toArray s_ 357 7956 A) (IM D s_ A) 6 (7 * (k - k0)) (156 * (k - k0)) (wS cA s tbf (spB a_kd a_pa a_nc m X) (bSg X) ++ wP cA a a_kd a_lo a_hi a_co a_pa a_rk a_nu a_ct a_sa ((a_nc : Nat) : Int) ((a_nr : Nat) : Int) ++ wB cA b (bBs X).1 (bBs X).2.1 (bBs X).2.2.1 (bBs X).2.2.2 ++ wTS cA (ad m) a_nc S ++ frE cA ad (bTb X) m k) ([(5, .ref (ad m 0)), (0, .ref (s 0)), (1, .ref (a 0)), (2, .ref (b 0)), (3, iv (((m : Nat) : Int))), (4, iv (((n : Nat) : Int)))]) [] 77 := by
                refine g_aload_n F 1 rfl rfl dX4_branch_77 ?_
                refine g_get F hV iX4 0 rfl rfl 1 (by decide) (List.mem_of_getElem? (i := 3) rfl) rfl dX4_branch_78 ?_
                refine g_iload_n F 4 rfl rfl dX4_branch_81 ?_
                refine g_iald F hV 2 rfl m rfl (by omega) (by decide) dX4_branch_82 ?_
                have hspm : spB a_kd a_pa a_nc m X m = spZ a_kd a_pa a_nc S := by
                  unfold spB
                  by_cases q : bSg X m = 0
                  · rw [if_pos q, up_same, hT]
                  · rw [if_neg q]
                    rcases l5 with z | ⟨-, c, z1, z2⟩
                    · exact absurd z q
                    · rw [z1, z2]
                have hspr : -1 ≤ spZ a_kd a_pa a_nc S ∧ spZ a_kd a_pa a_nc S < (a_nc : Int) := split_rng a_kd a_pa (tLo S) (tCe S) (tBel S) (tFar S) a_nc
                refine g_eq (st' := [iv (spZ a_kd a_pa a_nc S)]) rfl rfl (by rw [hspm]) ?_
                refine g_if_ge F (tgt := 98) dX4_branch_83 (by decide) ⟨by omega, by omega⟩ (fun c5 => ?_) (fun c5 => ?_)
                · -- into a half
                  obtain ⟨cN, hcN⟩ : ∃ cN : Nat, spZ a_kd a_pa a_nc S = (cN : Int) := ⟨(spZ a_kd a_pa a_nc S).toNat, by omega⟩
                  have hspc : spB a_kd a_pa a_nc m X m = (cN : Int) := by rw [hspm, hcN]
                  obtain ⟨d1, d2, d3, d4⟩ := NI_split hP l2 l3 hcN
                  have hst : stepB a_kd a_pa a_nc m X = entB a_kd a_pa a_nc m ((m : Int), bTb X, spB a_kd a_pa a_nc m X, bSg X, bBs X) := by
                    unfold stepB
                    rw [if_neg hnot, if_neg (by rw [hspm]; omega)]
                  have hsg01 : 0 ≤ bSg X m ∧ bSg X m ≤ 1 := by omega
                  refine g_aload_n F 1 rfl rfl dX4_branch_98 ?_
                  refine g_aload_n F 2 rfl rfl dX4_branch_99 ?_
                  refine g_iload_n F 4 rfl rfl dX4_branch_100 ?_
                  by_cases h51 : 51 ≤ m + 1
                  · have hX' : stepB a_kd a_pa a_nc m X = ((m : Int), bTb X, spB a_kd a_pa a_nc m X, va_up (bSg X) m (bSg X m + 1), bBs X) := by
                      rw [hst]; unfold entB; rw [if_pos h51]
                    rw [hX'] at hrun2 hB2
                    have hlv : (m : Int) = (n' : Int) - 1 := hB2.1
                    refine g_callVP F (As := [.ref (a 0), iv (((m : Nat) : Int))]) (rest := []) (wr := wB cA b (bBs X).1 (bBs X).2.1 (bBs X).2.2.1 (bBs X).2.2.2 ++ wTS cA (ad m) a_nc S ++ frE cA ad (bTb X) m k) (kX4_enter_full l D cA s tbf (spB a_kd a_pa a_nc m X) (bSg X) a a_kd a_lo a_hi a_co a_pa a_rk a_nu a_ct a_sa a_nc a_nr m (by omega) h51 hsg01) (cwV 2 F.2.2.2.2.1 gX4_branch_X4_enter rfl rfl rfl (by decide +kernel) ⟨(Nat.le_of_ble_eq_true rfl), (Nat.le_of_ble_eq_true rfl)⟩) rfl rfl (q0 := 0) rfl (by simp only [List.append_assoc]; exact List.Perm.refl _) rfl rfl (Nat.le_of_ble_eq_true rfl) ⟨by show 7 * (k - k0) + 0 ≤ 357; omega, by show 156 * (k - k0) + 0 ≤ 7956; omega⟩ hA dX4_branch_101 (fun v w hv => ?_)
                    obtain ⟨hv, hw⟩ := hv
                    subst hv
                    subst hw
                    refine g_eq (st' := [iv (((m : Nat) : Int))]) rfl rfl rfl ?_
                    refine g_istore_n F ([(3, iv (((m : Nat) : Int))), (5, .ref (ad m 0)), (0, .ref (s 0)), (1, .ref (a 0)), (2, .ref (b 0)), (4, iv (((n : Nat) : Int)))]) rfl rfl (by decide) dX4_branch_104 ?_
                    refine g_lsub ([(0, .ref (s 0)), (1, .ref (a 0)), (2, .ref (b 0)), (3, iv (((m : Nat) : Int))), (4, iv (((n : Nat) : Int)))]) [2, 3, 4, 0, 5] rfl ?_
                    refine g_perm (wS cA s tbf (spB a_kd a_pa a_nc m X) (va_up (bSg X) m (bSg X m + 1)) ++ wP cA a a_kd a_lo a_hi a_co a_pa a_rk a_nu a_ct a_sa ((a_nc : Nat) : Int) ((a_nr : Nat) : Int) ++ wB cA b (bBs X).1 (bBs X).2.1 (bBs X).2.2.1 (bBs X).2.2.2 ++ poolE cA ad (bTb X) (fun _ => false) k) ?_ ?_
                    · refine List.perm_append_comm.trans ?_
                      have h := pool_1 (cA := cA) (ad := ad) (tb := bTb X) (show m < k by omega) (wS cA s tbf (spB a_kd a_pa a_nc m X) (va_up (bSg X) m (bSg X m + 1)) ++ wP cA a a_kd a_lo a_hi a_co a_pa a_rk a_nu a_ct a_sa ((a_nc : Nat) : Int) ((a_nr : Nat) : Int) ++ wB cA b (bBs X).1 (bBs X).2.1 (bBs X).2.2.1 (bBs X).2.2.2)
                      rw [hT] at h
                      simp only [List.append_assoc] at h ⊢
                      exact h.symm
                    · exact at105 ((m : Int), bTb X, spB a_kd a_pa a_nc m X, va_up (bSg X) m (bSg X m + 1), bBs X) n' g' k ad tbf hrun2 hB2 hk0 hk (by omega) hx1 hx2 hx3
                  · have hX' : stepB a_kd a_pa a_nc m X = ((if (bSg X m = 1 ∨ ¬ (a_kd cN = 2 ∧ (0 ≤ a_pa cN ∧ a_pa cN < (a_nc : Int)) ∧ 0 < S.2.2.1 (a_pa cN).toNat)) ∧ (descT a_nc 1000000 (nwT a_kd a_pa a_nc cN (decide (bSg X m = 1)) S)).2 = true then (m : Int) + 1 else (m : Int)), upT (bTb X) (m + 1) (a_nc, (if (bSg X m = 1 ∨ ¬ (a_kd cN = 2 ∧ (0 ≤ a_pa cN ∧ a_pa cN < (a_nc : Int)) ∧ 0 < S.2.2.1 (a_pa cN).toNat)) then (descT a_nc 1000000 (nwT a_kd a_pa a_nc cN (decide (bSg X m = 1)) S)).1 else nwT a_kd a_pa a_nc cN (decide (bSg X m = 1)) S)), (spB a_kd a_pa a_nc m X), (if (bSg X m = 1 ∨ ¬ (a_kd cN = 2 ∧ (0 ≤ a_pa cN ∧ a_pa cN < (a_nc : Int)) ∧ 0 < S.2.2.1 (a_pa cN).toNat)) ∧ (descT a_nc 1000000 (nwT a_kd a_pa a_nc cN (decide (bSg X m = 1)) S)).2 = true then va_up (va_up (bSg X) m (bSg X m + 1)) (m + 1) 0 else va_up (bSg X) m (bSg X m + 1)), bBs X) := by
                      rw [hst]; exact ent_eq (X := ((m : Int), bTb X, spB a_kd a_pa a_nc m X, bSg X, bBs X)) h51 hT hspc
                    rw [hX'] at hrun2 hB2
                    have hlv : (if (bSg X m = 1 ∨ ¬ (a_kd cN = 2 ∧ (0 ≤ a_pa cN ∧ a_pa cN < (a_nc : Int)) ∧ 0 < S.2.2.1 (a_pa cN).toNat)) ∧ (descT a_nc 1000000 (nwT a_kd a_pa a_nc cN (decide (bSg X m = 1)) S)).2 = true then (m : Int) + 1 else (m : Int)) = (n' : Int) - 1 := hB2.1
                    have hlv2 : n' ≤ m + 2 := by
                      by_cases q : (bSg X m = 1 ∨ ¬ (a_kd cN = 2 ∧ (0 ≤ a_pa cN ∧ a_pa cN < (a_nc : Int)) ∧ 0 < S.2.2.1 (a_pa cN).toNat)) ∧ (descT a_nc 1000000 (nwT a_kd a_pa a_nc cN (decide (bSg X m = 1)) S)).2 = true
                      · rw [if_pos q] at hlv; omega
                      · rw [if_neg q] at hlv; omega
                    by_cases hmk : m + 1 < k
                    · refine g_perm (wS cA s tbf (spB a_kd a_pa a_nc m X) (bSg X) ++ wP cA a a_kd a_lo a_hi a_co a_pa a_rk a_nu a_ct a_sa ((a_nc : Nat) : Int) ((a_nr : Nat) : Int) ++ wB cA b (bBs X).1 (bBs X).2.1 (bBs X).2.2.1 (bBs X).2.2.2 ++ (wTS cA (ad m) a_nc S ++ wTS cA (ad (m + 1)) (bTb X (m + 1)).1 (bTb X (m + 1)).2) ++ frE2 cA ad (bTb X) m k) (by
                        have h := (fr_2 (cA := cA) (ad := ad) (tb := bTb X) hmk).append_left (wS cA s tbf (spB a_kd a_pa a_nc m X) (bSg X) ++ wP cA a a_kd a_lo a_hi a_co a_pa a_rk a_nu a_ct a_sa ((a_nc : Nat) : Int) ((a_nr : Nat) : Int) ++ wB cA b (bBs X).1 (bBs X).2.1 (bBs X).2.2.1 (bBs X).2.2.2 ++ wTS cA (ad m) a_nc S)
                        simp only [List.append_assoc] at h ⊢
                        exact h) ?_
                      refine g_callVP F (As := [.ref (a 0), iv (((m : Nat) : Int))]) (rest := []) (wr := wB cA b (bBs X).1 (bBs X).2.1 (bBs X).2.2.1 (bBs X).2.2.2 ++ frE2 cA ad (bTb X) m k) (kX4_enter_has l D cA s tbf (spB a_kd a_pa a_nc m X) (bSg X) a a_kd a_lo a_hi a_co a_pa a_rk a_nu a_ct a_sa a_nc a_nr (ad m) (S).1 (S).2.1 (S).2.2.1 (S).2.2.2.1 (S).2.2.2.2.1 (S).2.2.2.2.2.1 a_nc (S).2.2.2.2.2.2.1 (S).2.2.2.2.2.2.2.1 (S).2.2.2.2.2.2.2.2 (ad (m + 1)) ((bTb X (m + 1)).2).1 ((bTb X (m + 1)).2).2.1 ((bTb X (m + 1)).2).2.2.1 ((bTb X (m + 1)).2).2.2.2.1 ((bTb X (m + 1)).2).2.2.2.2.1 ((bTb X (m + 1)).2).2.2.2.2.2.1 (bTb X (m + 1)).1 ((bTb X (m + 1)).2).2.2.2.2.2.2.1 ((bTb X (m + 1)).2).2.2.2.2.2.2.2.1 ((bTb X (m + 1)).2).2.2.2.2.2.2.2.2 m cN (by omega) (hx1 m (by omega)) hspc hsg01 f6 d1 qnc qkd qpa f9 f4 f5 f1 d2 d3 d4 (GdT a_nc) (half_tab hP l2 l3 hcN _) Gd_bnd Gd_turn (hx1 (m + 1) hmk)) (cwV 2 F.2.2.2.2.1 gX4_branch_X4_enter rfl rfl rfl (by decide +kernel) ⟨(Nat.le_of_ble_eq_true rfl), (Nat.le_of_ble_eq_true rfl)⟩) rfl rfl (q0 := 0) rfl (by
                        have h := perm_e (wS cA s tbf (spB a_kd a_pa a_nc m X) (bSg X)) (wP cA a a_kd a_lo a_hi a_co a_pa a_rk a_nu a_ct a_sa ((a_nc : Nat) : Int) ((a_nr : Nat) : Int)) (wB cA b (bBs X).1 (bBs X).2.1 (bBs X).2.2.1 (bBs X).2.2.2) (wTS cA (ad m) a_nc S ++ wTS cA (ad (m + 1)) (bTb X (m + 1)).1 (bTb X (m + 1)).2) (frE2 cA ad (bTb X) m k)
                        simp only [List.append_assoc] at h ⊢
                        exact h) rfl rfl (Nat.le_of_ble_eq_true rfl) ⟨by show 7 * (k - k0) + 0 ≤ 357; omega, by show 156 * (k - k0) + 0 ≤ 7956; omega⟩ hA dX4_branch_101 (fun v w hv => ?_)
                      obtain ⟨hv, hw⟩ := hv
                      subst hv
                      subst hw
                      refine g_eq (st' := [iv (if (bSg X m = 1 ∨ ¬ (a_kd cN = 2 ∧ (0 ≤ a_pa cN ∧ a_pa cN < (a_nc : Int)) ∧ 0 < S.2.2.1 (a_pa cN).toNat)) ∧ (descT a_nc 1000000 (nwT a_kd a_pa a_nc cN (decide (bSg X m = 1)) S)).2 = true then (m : Int) + 1 else (m : Int))]) rfl rfl rfl ?_
                      refine g_istore_n F ([(3, iv (if (bSg X m = 1 ∨ ¬ (a_kd cN = 2 ∧ (0 ≤ a_pa cN ∧ a_pa cN < (a_nc : Int)) ∧ 0 < S.2.2.1 (a_pa cN).toNat)) ∧ (descT a_nc 1000000 (nwT a_kd a_pa a_nc cN (decide (bSg X m = 1)) S)).2 = true then (m : Int) + 1 else (m : Int))), (5, .ref (ad m 0)), (0, .ref (s 0)), (1, .ref (a 0)), (2, .ref (b 0)), (4, iv (((n : Nat) : Int)))]) rfl rfl (by decide) dX4_branch_104 ?_
                      refine g_lsub ([(0, .ref (s 0)), (1, .ref (a 0)), (2, .ref (b 0)), (3, iv ((if (bSg X m = 1 ∨ ¬ (a_kd cN = 2 ∧ (0 ≤ a_pa cN ∧ a_pa cN < (a_nc : Int)) ∧ 0 < S.2.2.1 (a_pa cN).toNat)) ∧ (descT a_nc 1000000 (nwT a_kd a_pa a_nc cN (decide (bSg X m = 1)) S)).2 = true then (m : Int) + 1 else (m : Int)))), (4, iv (((n : Nat) : Int)))]) [2, 3, 4, 0, 5] rfl ?_
                      refine g_perm (wS cA s tbf (spB a_kd a_pa a_nc m X) (if (bSg X m = 1 ∨ ¬ (a_kd cN = 2 ∧ (0 ≤ a_pa cN ∧ a_pa cN < (a_nc : Int)) ∧ 0 < S.2.2.1 (a_pa cN).toNat)) ∧ (descT a_nc 1000000 (nwT a_kd a_pa a_nc cN (decide (bSg X m = 1)) S)).2 = true then va_up (va_up (bSg X) m (bSg X m + 1)) (m + 1) 0 else va_up (bSg X) m (bSg X m + 1)) ++ wP cA a a_kd a_lo a_hi a_co a_pa a_rk a_nu a_ct a_sa ((a_nc : Nat) : Int) ((a_nr : Nat) : Int) ++ wB cA b (bBs X).1 (bBs X).2.1 (bBs X).2.2.1 (bBs X).2.2.2 ++ poolE cA ad (upT (bTb X) (m + 1) (a_nc, (if (bSg X m = 1 ∨ ¬ (a_kd cN = 2 ∧ (0 ≤ a_pa cN ∧ a_pa cN < (a_nc : Int)) ∧ 0 < S.2.2.1 (a_pa cN).toNat)) then (descT a_nc 1000000 (nwT a_kd a_pa a_nc cN (decide (bSg X m = 1)) S)).1 else nwT a_kd a_pa a_nc cN (decide (bSg X m = 1)) S))) (fun _ => false) k) ?_ ?_
                      · have h1 := perm_e' (wS cA s tbf (spB a_kd a_pa a_nc m X) (if (bSg X m = 1 ∨ ¬ (a_kd cN = 2 ∧ (0 ≤ a_pa cN ∧ a_pa cN < (a_nc : Int)) ∧ 0 < S.2.2.1 (a_pa cN).toNat)) ∧ (descT a_nc 1000000 (nwT a_kd a_pa a_nc cN (decide (bSg X m = 1)) S)).2 = true then va_up (va_up (bSg X) m (bSg X m + 1)) (m + 1) 0 else va_up (bSg X) m (bSg X m + 1))) (wP cA a a_kd a_lo a_hi a_co a_pa a_rk a_nu a_ct a_sa ((a_nc : Nat) : Int) ((a_nr : Nat) : Int)) (wB cA b (bBs X).1 (bBs X).2.1 (bBs X).2.2.1 (bBs X).2.2.2) (wTS cA (ad m) a_nc S ++ wTS cA (ad (m + 1)) a_nc (if (bSg X m = 1 ∨ ¬ (a_kd cN = 2 ∧ (0 ≤ a_pa cN ∧ a_pa cN < (a_nc : Int)) ∧ 0 < S.2.2.1 (a_pa cN).toNat)) then (descT a_nc 1000000 (nwT a_kd a_pa a_nc cN (decide (bSg X m = 1)) S)).1 else nwT a_kd a_pa a_nc cN (decide (bSg X m = 1)) S)) (frE2 cA ad (bTb X) m k)
                        have h := pool_2 (cA := cA) (ad := ad) (tb := upT (bTb X) (m + 1) (a_nc, (if (bSg X m = 1 ∨ ¬ (a_kd cN = 2 ∧ (0 ≤ a_pa cN ∧ a_pa cN < (a_nc : Int)) ∧ 0 < S.2.2.1 (a_pa cN).toNat)) then (descT a_nc 1000000 (nwT a_kd a_pa a_nc cN (decide (bSg X m = 1)) S)).1 else nwT a_kd a_pa a_nc cN (decide (bSg X m = 1)) S))) hmk (wS cA s tbf (spB a_kd a_pa a_nc m X) (if (bSg X m = 1 ∨ ¬ (a_kd cN = 2 ∧ (0 ≤ a_pa cN ∧ a_pa cN < (a_nc : Int)) ∧ 0 < S.2.2.1 (a_pa cN).toNat)) ∧ (descT a_nc 1000000 (nwT a_kd a_pa a_nc cN (decide (bSg X m = 1)) S)).2 = true then va_up (va_up (bSg X) m (bSg X m + 1)) (m + 1) 0 else va_up (bSg X) m (bSg X m + 1)) ++ wP cA a a_kd a_lo a_hi a_co a_pa a_rk a_nu a_ct a_sa ((a_nc : Nat) : Int) ((a_nr : Nat) : Int) ++ wB cA b (bBs X).1 (bBs X).2.1 (bBs X).2.2.1 (bBs X).2.2.2)
                        have e9 : frE2 cA ad (upT (bTb X) (m + 1) (a_nc, (if (bSg X m = 1 ∨ ¬ (a_kd cN = 2 ∧ (0 ≤ a_pa cN ∧ a_pa cN < (a_nc : Int)) ∧ 0 < S.2.2.1 (a_pa cN).toNat)) then (descT a_nc 1000000 (nwT a_kd a_pa a_nc cN (decide (bSg X m = 1)) S)).1 else nwT a_kd a_pa a_nc cN (decide (bSg X m = 1)) S))) m k = frE2 cA ad (bTb X) m k := pool_cong (fun j hj => ⟨rfl, fun q => ⟨rfl, upT_ne (by intro e; rw [if_pos e] at q; cases q)⟩⟩)
                        rw [e9, upT_ne (show m ≠ m + 1 by omega), upT_eq, hT] at h
                        simp only [List.append_assoc] at h1 h ⊢
                        exact h1.trans h.symm
                      · exact at105 ((if (bSg X m = 1 ∨ ¬ (a_kd cN = 2 ∧ (0 ≤ a_pa cN ∧ a_pa cN < (a_nc : Int)) ∧ 0 < S.2.2.1 (a_pa cN).toNat)) ∧ (descT a_nc 1000000 (nwT a_kd a_pa a_nc cN (decide (bSg X m = 1)) S)).2 = true then (m : Int) + 1 else (m : Int)), upT (bTb X) (m + 1) (a_nc, (if (bSg X m = 1 ∨ ¬ (a_kd cN = 2 ∧ (0 ≤ a_pa cN ∧ a_pa cN < (a_nc : Int)) ∧ 0 < S.2.2.1 (a_pa cN).toNat)) then (descT a_nc 1000000 (nwT a_kd a_pa a_nc cN (decide (bSg X m = 1)) S)).1 else nwT a_kd a_pa a_nc cN (decide (bSg X m = 1)) S)), (spB a_kd a_pa a_nc m X), (if (bSg X m = 1 ∨ ¬ (a_kd cN = 2 ∧ (0 ≤ a_pa cN ∧ a_pa cN < (a_nc : Int)) ∧ 0 < S.2.2.1 (a_pa cN).toNat)) ∧ (descT a_nc 1000000 (nwT a_kd a_pa a_nc cN (decide (bSg X m = 1)) S)).2 = true then va_up (va_up (bSg X) m (bSg X m + 1)) (m + 1) 0 else va_up (bSg X) m (bSg X m + 1)), bBs X) n' g' k ad tbf hrun2 hB2 hk0 hk (by omega) hx1 hx2 hx3
                    · have hke : k = m + 1 := by omega
                      refine g_callVP F (As := [.ref (a 0), iv (((m : Nat) : Int))]) (rest := []) (wr := wB cA b (bBs X).1 (bBs X).2.1 (bBs X).2.2.1 (bBs X).2.2.2 ++ frE cA ad (bTb X) m k) (kX4_enter_new l D cA s tbf (spB a_kd a_pa a_nc m X) (bSg X) a a_kd a_lo a_hi a_co a_pa a_rk a_nu a_ct a_sa a_nc a_nr (ad m) (S).1 (S).2.1 (S).2.2.1 (S).2.2.2.1 (S).2.2.2.2.1 (S).2.2.2.2.2.1 a_nc (S).2.2.2.2.2.2.1 (S).2.2.2.2.2.2.2.1 (S).2.2.2.2.2.2.2.2 m cN (by omega) (hx1 m (by omega)) hspc hsg01 f6 d1 qnc qkd qpa f9 f4 f5 f1 d2 d3 d4 (GdT a_nc) (half_tab hP l2 l3 hcN _) Gd_bnd Gd_turn (hx2 (m + 1) (by omega) (by omega))) (cwV 2 F.2.2.2.2.1 gX4_branch_X4_enter rfl rfl rfl (by decide +kernel) ⟨(Nat.le_of_ble_eq_true rfl), (Nat.le_of_ble_eq_true rfl)⟩) rfl rfl (q0 := 0) rfl (perm_e (wS cA s tbf (spB a_kd a_pa a_nc m X) (bSg X)) (wP cA a a_kd a_lo a_hi a_co a_pa a_rk a_nu a_ct a_sa ((a_nc : Nat) : Int) ((a_nr : Nat) : Int)) (wB cA b (bBs X).1 (bBs X).2.1 (bBs X).2.2.1 (bBs X).2.2.2) (wTS cA (ad m) a_nc S) (frE cA ad (bTb X) m k)) rfl rfl (Nat.le_of_ble_eq_true rfl) ⟨by show 7 * (k - k0) + 7 ≤ 357; omega, by show 156 * (k - k0) + 156 ≤ 7956; omega⟩ hA dX4_branch_101 (fun v w hv => ?_)
                      obtain ⟨u, hv, hw⟩ := hv
                      subst hv
                      subst hw
                      refine g_eq (st' := [iv (if (bSg X m = 1 ∨ ¬ (a_kd cN = 2 ∧ (0 ≤ a_pa cN ∧ a_pa cN < (a_nc : Int)) ∧ 0 < S.2.2.1 (a_pa cN).toNat)) ∧ (descT a_nc 1000000 (nwT a_kd a_pa a_nc cN (decide (bSg X m = 1)) S)).2 = true then (m : Int) + 1 else (m : Int))]) rfl rfl rfl ?_
                      refine g_istore_n F ([(3, iv (if (bSg X m = 1 ∨ ¬ (a_kd cN = 2 ∧ (0 ≤ a_pa cN ∧ a_pa cN < (a_nc : Int)) ∧ 0 < S.2.2.1 (a_pa cN).toNat)) ∧ (descT a_nc 1000000 (nwT a_kd a_pa a_nc cN (decide (bSg X m = 1)) S)).2 = true then (m : Int) + 1 else (m : Int))), (5, .ref (ad m 0)), (0, .ref (s 0)), (1, .ref (a 0)), (2, .ref (b 0)), (4, iv (((n : Nat) : Int)))]) rfl rfl (by decide) dX4_branch_104 ?_
                      refine g_lsub ([(0, .ref (s 0)), (1, .ref (a 0)), (2, .ref (b 0)), (3, iv ((if (bSg X m = 1 ∨ ¬ (a_kd cN = 2 ∧ (0 ≤ a_pa cN ∧ a_pa cN < (a_nc : Int)) ∧ 0 < S.2.2.1 (a_pa cN).toNat)) ∧ (descT a_nc 1000000 (nwT a_kd a_pa a_nc cN (decide (bSg X m = 1)) S)).2 = true then (m : Int) + 1 else (m : Int)))), (4, iv (((n : Nat) : Int)))]) [2, 3, 4, 0, 5] rfl ?_
                      refine g_perm (wS cA s (va_up tbf (m + 1) (some (u 0))) (spB a_kd a_pa a_nc m X) (if (bSg X m = 1 ∨ ¬ (a_kd cN = 2 ∧ (0 ≤ a_pa cN ∧ a_pa cN < (a_nc : Int)) ∧ 0 < S.2.2.1 (a_pa cN).toNat)) ∧ (descT a_nc 1000000 (nwT a_kd a_pa a_nc cN (decide (bSg X m = 1)) S)).2 = true then va_up (va_up (bSg X) m (bSg X m + 1)) (m + 1) 0 else va_up (bSg X) m (bSg X m + 1)) ++ wP cA a a_kd a_lo a_hi a_co a_pa a_rk a_nu a_ct a_sa ((a_nc : Nat) : Int) ((a_nr : Nat) : Int) ++ wB cA b (bBs X).1 (bBs X).2.1 (bBs X).2.2.1 (bBs X).2.2.2 ++ poolE cA (fun j => if j = m + 1 then u else ad j) (upT (bTb X) (m + 1) (a_nc, (if (bSg X m = 1 ∨ ¬ (a_kd cN = 2 ∧ (0 ≤ a_pa cN ∧ a_pa cN < (a_nc : Int)) ∧ 0 < S.2.2.1 (a_pa cN).toNat)) then (descT a_nc 1000000 (nwT a_kd a_pa a_nc cN (decide (bSg X m = 1)) S)).1 else nwT a_kd a_pa a_nc cN (decide (bSg X m = 1)) S))) (fun _ => false) (k + 1)) ?_ ?_
                      · have h1 := perm_e' (wS cA s (va_up tbf (m + 1) (some (u 0))) (spB a_kd a_pa a_nc m X) (if (bSg X m = 1 ∨ ¬ (a_kd cN = 2 ∧ (0 ≤ a_pa cN ∧ a_pa cN < (a_nc : Int)) ∧ 0 < S.2.2.1 (a_pa cN).toNat)) ∧ (descT a_nc 1000000 (nwT a_kd a_pa a_nc cN (decide (bSg X m = 1)) S)).2 = true then va_up (va_up (bSg X) m (bSg X m + 1)) (m + 1) 0 else va_up (bSg X) m (bSg X m + 1))) (wP cA a a_kd a_lo a_hi a_co a_pa a_rk a_nu a_ct a_sa ((a_nc : Nat) : Int) ((a_nr : Nat) : Int)) (wB cA b (bBs X).1 (bBs X).2.1 (bBs X).2.2.1 (bBs X).2.2.2) (wTS cA (ad m) a_nc S ++ wTS cA u a_nc (if (bSg X m = 1 ∨ ¬ (a_kd cN = 2 ∧ (0 ≤ a_pa cN ∧ a_pa cN < (a_nc : Int)) ∧ 0 < S.2.2.1 (a_pa cN).toNat)) then (descT a_nc 1000000 (nwT a_kd a_pa a_nc cN (decide (bSg X m = 1)) S)).1 else nwT a_kd a_pa a_nc cN (decide (bSg X m = 1)) S)) (frE cA ad (bTb X) m k)
                        have e1 : poolE cA (fun j => if j = m + 1 then u else ad j) (upT (bTb X) (m + 1) (a_nc, (if (bSg X m = 1 ∨ ¬ (a_kd cN = 2 ∧ (0 ≤ a_pa cN ∧ a_pa cN < (a_nc : Int)) ∧ 0 < S.2.2.1 (a_pa cN).toNat)) then (descT a_nc 1000000 (nwT a_kd a_pa a_nc cN (decide (bSg X m = 1)) S)).1 else nwT a_kd a_pa a_nc cN (decide (bSg X m = 1)) S))) (fun _ => false) (k + 1) = poolE cA ad (bTb X) (fun _ => false) k ++ wTS cA u a_nc (if (bSg X m = 1 ∨ ¬ (a_kd cN = 2 ∧ (0 ≤ a_pa cN ∧ a_pa cN < (a_nc : Int)) ∧ 0 < S.2.2.1 (a_pa cN).toNat)) then (descT a_nc 1000000 (nwT a_kd a_pa a_nc cN (decide (bSg X m = 1)) S)).1 else nwT a_kd a_pa a_nc cN (decide (bSg X m = 1)) S) := by
                          show poolE cA (fun j => if j = m + 1 then u else ad j) (upT (bTb X) (m + 1) (a_nc, (if (bSg X m = 1 ∨ ¬ (a_kd cN = 2 ∧ (0 ≤ a_pa cN ∧ a_pa cN < (a_nc : Int)) ∧ 0 < S.2.2.1 (a_pa cN).toNat)) then (descT a_nc 1000000 (nwT a_kd a_pa a_nc cN (decide (bSg X m = 1)) S)).1 else nwT a_kd a_pa a_nc cN (decide (bSg X m = 1)) S))) (fun _ => false) k ++ wTS cA (if k = m + 1 then u else ad k) (upT (bTb X) (m + 1) (a_nc, (if (bSg X m = 1 ∨ ¬ (a_kd cN = 2 ∧ (0 ≤ a_pa cN ∧ a_pa cN < (a_nc : Int)) ∧ 0 < S.2.2.1 (a_pa cN).toNat)) then (descT a_nc 1000000 (nwT a_kd a_pa a_nc cN (decide (bSg X m = 1)) S)).1 else nwT a_kd a_pa a_nc cN (decide (bSg X m = 1)) S)) k).1 (upT (bTb X) (m + 1) (a_nc, (if (bSg X m = 1 ∨ ¬ (a_kd cN = 2 ∧ (0 ≤ a_pa cN ∧ a_pa cN < (a_nc : Int)) ∧ 0 < S.2.2.1 (a_pa cN).toNat)) then (descT a_nc 1000000 (nwT a_kd a_pa a_nc cN (decide (bSg X m = 1)) S)).1 else nwT a_kd a_pa a_nc cN (decide (bSg X m = 1)) S)) k).2 = _
                          rw [if_pos hke, hke, upT_eq]
                          congr 1
                          exact pool_cong (fun j hj => ⟨rfl, fun _ => ⟨if_neg (by omega), upT_ne (by omega)⟩⟩)
                        rw [e1]
                        have h := (pool_1 (cA := cA) (ad := ad) (tb := bTb X) (show m < k by omega) (wS cA s (va_up tbf (m + 1) (some (u 0))) (spB a_kd a_pa a_nc m X) (if (bSg X m = 1 ∨ ¬ (a_kd cN = 2 ∧ (0 ≤ a_pa cN ∧ a_pa cN < (a_nc : Int)) ∧ 0 < S.2.2.1 (a_pa cN).toNat)) ∧ (descT a_nc 1000000 (nwT a_kd a_pa a_nc cN (decide (bSg X m = 1)) S)).2 = true then va_up (va_up (bSg X) m (bSg X m + 1)) (m + 1) 0 else va_up (bSg X) m (bSg X m + 1)) ++ wP cA a a_kd a_lo a_hi a_co a_pa a_rk a_nu a_ct a_sa ((a_nc : Nat) : Int) ((a_nr : Nat) : Int) ++ wB cA b (bBs X).1 (bBs X).2.1 (bBs X).2.2.1 (bBs X).2.2.2)).append_right (wTS cA u a_nc (if (bSg X m = 1 ∨ ¬ (a_kd cN = 2 ∧ (0 ≤ a_pa cN ∧ a_pa cN < (a_nc : Int)) ∧ 0 < S.2.2.1 (a_pa cN).toNat)) then (descT a_nc 1000000 (nwT a_kd a_pa a_nc cN (decide (bSg X m = 1)) S)).1 else nwT a_kd a_pa a_nc cN (decide (bSg X m = 1)) S))
                        rw [hT] at h
                        have h3 : ((wTS cA (ad m) a_nc S ++ wTS cA u a_nc (if (bSg X m = 1 ∨ ¬ (a_kd cN = 2 ∧ (0 ≤ a_pa cN ∧ a_pa cN < (a_nc : Int)) ∧ 0 < S.2.2.1 (a_pa cN).toNat)) then (descT a_nc 1000000 (nwT a_kd a_pa a_nc cN (decide (bSg X m = 1)) S)).1 else nwT a_kd a_pa a_nc cN (decide (bSg X m = 1)) S)) ++ frE cA ad (bTb X) m k).Perm ((wTS cA (ad m) a_nc S ++ frE cA ad (bTb X) m k) ++ wTS cA u a_nc (if (bSg X m = 1 ∨ ¬ (a_kd cN = 2 ∧ (0 ≤ a_pa cN ∧ a_pa cN < (a_nc : Int)) ∧ 0 < S.2.2.1 (a_pa cN).toNat)) then (descT a_nc 1000000 (nwT a_kd a_pa a_nc cN (decide (bSg X m = 1)) S)).1 else nwT a_kd a_pa a_nc cN (decide (bSg X m = 1)) S)) := by
                          rw [List.append_assoc, List.append_assoc]
                          exact List.perm_append_comm.append_left _
                        have h4 := h3.append_left (wS cA s (va_up tbf (m + 1) (some (u 0))) (spB a_kd a_pa a_nc m X) (if (bSg X m = 1 ∨ ¬ (a_kd cN = 2 ∧ (0 ≤ a_pa cN ∧ a_pa cN < (a_nc : Int)) ∧ 0 < S.2.2.1 (a_pa cN).toNat)) ∧ (descT a_nc 1000000 (nwT a_kd a_pa a_nc cN (decide (bSg X m = 1)) S)).2 = true then va_up (va_up (bSg X) m (bSg X m + 1)) (m + 1) 0 else va_up (bSg X) m (bSg X m + 1)) ++ wP cA a a_kd a_lo a_hi a_co a_pa a_rk a_nu a_ct a_sa ((a_nc : Nat) : Int) ((a_nr : Nat) : Int) ++ wB cA b (bBs X).1 (bBs X).2.1 (bBs X).2.2.1 (bBs X).2.2.2)
                        simp only [List.append_assoc] at h1 h h4 ⊢
                        exact (h1.trans h4).trans h.symm
                      · have hkk : 7 * (k - k0) + 7 = 7 * (k + 1 - k0) := by omega
                        have hks : 156 * (k - k0) + 156 = 156 * (k + 1 - k0) := by omega
                        rw [hkk, hks]
                        exact at105 ((if (bSg X m = 1 ∨ ¬ (a_kd cN = 2 ∧ (0 ≤ a_pa cN ∧ a_pa cN < (a_nc : Int)) ∧ 0 < S.2.2.1 (a_pa cN).toNat)) ∧ (descT a_nc 1000000 (nwT a_kd a_pa a_nc cN (decide (bSg X m = 1)) S)).2 = true then (m : Int) + 1 else (m : Int)), upT (bTb X) (m + 1) (a_nc, (if (bSg X m = 1 ∨ ¬ (a_kd cN = 2 ∧ (0 ≤ a_pa cN ∧ a_pa cN < (a_nc : Int)) ∧ 0 < S.2.2.1 (a_pa cN).toNat)) then (descT a_nc 1000000 (nwT a_kd a_pa a_nc cN (decide (bSg X m = 1)) S)).1 else nwT a_kd a_pa a_nc cN (decide (bSg X m = 1)) S)), (spB a_kd a_pa a_nc m X), (if (bSg X m = 1 ∨ ¬ (a_kd cN = 2 ∧ (0 ≤ a_pa cN ∧ a_pa cN < (a_nc : Int)) ∧ 0 < S.2.2.1 (a_pa cN).toNat)) ∧ (descT a_nc 1000000 (nwT a_kd a_pa a_nc cN (decide (bSg X m = 1)) S)).2 = true then va_up (va_up (bSg X) m (bSg X m + 1)) (m + 1) 0 else va_up (bSg X) m (bSg X m + 1)), bBs X) n' g' (k + 1) (fun j => if j = m + 1 then u else ad j) (va_up tbf (m + 1) (some (u 0))) hrun2 hB2 (by omega) (by omega) (by omega) (fun j hj => by
                          unfold va_up
                          by_cases e : j = m + 1
                          · rw [if_pos e, if_pos e]
                          · rw [if_neg e, if_neg e]; exact hx1 j (by omega)) (fun j h1 h2 => by
                          unfold va_up
                          rw [if_neg (by omega)]; exact hx2 j (by omega) h2) (fun j hj => by
                          rw [if_neg (by omega)]; exact hx3 j hj)
                · -- a plan to keep
                  have hX' : stepB a_kd a_pa a_nc m X = ((m : Int) - 1, bTb X, spB a_kd a_pa a_nc m X, bSg X, accB (a_nc, S)) := by
                    unfold stepB
                    rw [if_neg hnot, if_pos (by rw [hspm]; omega), hT]
                  rw [hX'] at hrun2 hB2
                  have hlv : (m : Int) - 1 = (n' : Int) - 1 := hB2.1
                  refine g_aload_n F 3 rfl rfl dX4_branch_86 ?_
                  refine g_aload F 0 rfl dX4_branch_87 ?_
                  refine g_callVP F (As := [.ref (ad m 0)]) (rest := []) (wr := wS cA s tbf (spB a_kd a_pa a_nc m X) (bSg X) ++ wP cA a a_kd a_lo a_hi a_co a_pa a_rk a_nu a_ct a_sa ((a_nc : Nat) : Int) ((a_nr : Nat) : Int) ++ frE cA ad (bTb X) m k) (kX0_accept l D cA b (bBs X).1 (bBs X).2.1 (bBs X).2.2.1 (bBs X).2.2.2 (ad m) (S).1 (S).2.1 (S).2.2.1 (S).2.2.2.1 (S).2.2.2.2.1 (S).2.2.2.2.2.1 a_nc (S).2.2.2.2.2.2.1 (S).2.2.2.2.2.2.2.1 (S).2.2.2.2.2.2.2.2 qnc f8 f9) (cwV 1 F.2.2.2.2.1 gX4_branch_X0_accept rfl rfl rfl (by decide +kernel) ⟨(Nat.le_of_ble_eq_true rfl), (Nat.le_of_ble_eq_true rfl)⟩) rfl rfl (q0 := 0) rfl (perm_bt (wS cA s tbf (spB a_kd a_pa a_nc m X) (bSg X)) (wP cA a a_kd a_lo a_hi a_co a_pa a_rk a_nu a_ct a_sa ((a_nc : Nat) : Int) ((a_nr : Nat) : Int)) (wB cA b (bBs X).1 (bBs X).2.1 (bBs X).2.2.1 (bBs X).2.2.2) (wTS cA (ad m) a_nc S) (frE cA ad (bTb X) m k)) rfl rfl (Nat.le_of_ble_eq_true rfl) ⟨by show 7 * (k - k0) + 0 ≤ 357; omega, by show 156 * (k - k0) + 0 ≤ 7956; omega⟩ hA dX4_branch_89 (fun v w hv => ?_)
                  obtain ⟨hv, hw⟩ := hv
                  subst hv
                  subst hw
                  refine g_eq (st' := []) rfl rfl rfl ?_
                  refine g_iinc F 4 rfl ([(3, iv (((m : Nat) : Int) + (-1))), (5, .ref (ad m 0)), (0, .ref (s 0)), (1, .ref (a 0)), (2, .ref (b 0)), (4, iv (((n : Nat) : Int)))]) rfl (by decide) dX4_branch_92 ?_
                  refine g_goto F (tgt := 105) dX4_branch_95 (by decide) ?_
                  refine g_lsub ([(0, .ref (s 0)), (1, .ref (a 0)), (2, .ref (b 0)), (3, iv (((m : Nat) : Int) + (-1))), (4, iv (((n : Nat) : Int)))]) [2, 3, 4, 0, 5] rfl ?_
                  refine g_perm (wS cA s tbf (spB a_kd a_pa a_nc m X) (bSg X) ++ wP cA a a_kd a_lo a_hi a_co a_pa a_rk a_nu a_ct a_sa ((a_nc : Nat) : Int) ((a_nr : Nat) : Int) ++ wB cA b (accB (a_nc, S)).1 (accB (a_nc, S)).2.1 (accB (a_nc, S)).2.2.1 (accB (a_nc, S)).2.2.2 ++ poolE cA ad (bTb X) (fun _ => false) k) ?_ ?_
                  · have h1 := perm_bt' (wS cA s tbf (spB a_kd a_pa a_nc m X) (bSg X)) (wP cA a a_kd a_lo a_hi a_co a_pa a_rk a_nu a_ct a_sa ((a_nc : Nat) : Int) ((a_nr : Nat) : Int)) (wB cA b (accB (a_nc, S)).1 (accB (a_nc, S)).2.1 (accB (a_nc, S)).2.2.1 (accB (a_nc, S)).2.2.2) (wTS cA (ad m) a_nc S) (frE cA ad (bTb X) m k)
                    have h := pool_1 (cA := cA) (ad := ad) (tb := bTb X) (show m < k by omega) (wS cA s tbf (spB a_kd a_pa a_nc m X) (bSg X) ++ wP cA a a_kd a_lo a_hi a_co a_pa a_rk a_nu a_ct a_sa ((a_nc : Nat) : Int) ((a_nr : Nat) : Int) ++ wB cA b (accB (a_nc, S)).1 (accB (a_nc, S)).2.1 (accB (a_nc, S)).2.2.1 (accB (a_nc, S)).2.2.2)
                    rw [hT] at h
                    exact h1.trans h.symm
                  · exact at105 ((m : Int) - 1, bTb X, spB a_kd a_pa a_nc m X, bSg X, accB (a_nc, S)) n' g' k ad tbf hrun2 hB2 hk0 hk (by omega) hx1 hx2 hx3
              refine g_aload_n F 1 rfl rfl dX4_branch_55 ?_
              refine g_get F hV iX4 0 rfl rfl 2 (by decide) (List.mem_of_getElem? (i := 1) rfl) rfl dX4_branch_56 ?_
              refine g_iload_n F 4 rfl rfl dX4_branch_59 ?_
              refine g_iald F hV 3 rfl m rfl (by omega) (by decide) dX4_branch_60 ?_
              refine g_if_ne F (tgt := 77) dX4_branch_61 (by decide) ⟨by omega, by omega⟩ (fun c6 => ?_) (fun c6 => ?_)
              · have e : spB a_kd a_pa a_nc m X = bSp X := by unfold spB; rw [if_neg c6]
                rw [e] at at77
                exact at77
              · have e : spB a_kd a_pa a_nc m X = va_up (bSp X) m (spZ a_kd a_pa a_nc S) := by unfold spB; rw [if_pos c6, hT]
                rw [e] at at77
                refine g_aload_n F 1 rfl rfl dX4_branch_64 ?_
                refine g_get F hV iX4 0 rfl rfl 1 (by decide) (List.mem_of_getElem? (i := 3) rfl) rfl dX4_branch_65 ?_
                refine g_iload_n F 4 rfl rfl dX4_branch_68 ?_
                refine g_aload_n F 1 rfl rfl dX4_branch_69 ?_
                refine g_aload_n F 2 rfl rfl dX4_branch_70 ?_
                refine g_aload F 0 rfl dX4_branch_71 ?_
                refine g_callRV F hV (As := [.ref (a 0), .ref (ad m 0)]) (rest := [iv (((m : Nat) : Int)), .ref (s 2)]) (kX4_columnToSplit l D cA s tbf (bSp X) (bSg X) a a_kd a_lo a_hi a_co a_pa a_rk a_nu a_ct a_sa a_nc a_nr (ad m) (S).1 (S).2.1 (S).2.2.1 (S).2.2.2.1 (S).2.2.2.2.1 (S).2.2.2.2.2.1 a_nc (S).2.2.2.2.2.2.1 (S).2.2.2.2.2.2.2.1 (S).2.2.2.2.2.2.2.2 qnc qkd qpa f9 f8 f3 f4 f5 f10) (cwV 2 F.2.2.2.2.1 gX4_branch_X4_columnToSplit rfl rfl rfl (by decide +kernel) ⟨(Nat.le_of_ble_eq_true rfl), (Nat.le_of_ble_eq_true rfl)⟩) rfl rfl (q0 := 0) rfl [0, 1, 2, 3, 4, 5, 6, 7, 8, 9, 10, 11, 12, 13, 16, 17, 18, 19, 20, 21, 22] rfl rfl rfl (Nat.le_of_ble_eq_true rfl) ⟨by show 7 * (k - k0) ≤ 357; omega, by show 156 * (k - k0) ≤ 7956; omega⟩ dX4_branch_73 (fun v hv => ?_)
                subst hv
                refine g_eq (st' := [iv (spZ a_kd a_pa a_nc S), iv (((m : Nat) : Int)), .ref (s 2)]) rfl rfl rfl ?_
                refine g_iast F 2 rfl m rfl (by omega) (by decide) (wS cA s tbf (va_up (bSp X) m (spZ a_kd a_pa a_nc S)) (bSg X) ++ wP cA a a_kd a_lo a_hi a_co a_pa a_rk a_nu a_ct a_sa ((a_nc : Nat) : Int) ((a_nr : Nat) : Int) ++ wB cA b (bBs X).1 (bBs X).2.1 (bBs X).2.2.1 (bBs X).2.2.2 ++ wTS cA (ad m) a_nc S ++ frE cA ad (bTb X) m k) rfl dX4_branch_76 ?_
                exact at77
            · exact down (by unfold stepB; rw [if_pos (Or.inr (by rw [hT]; exact c4))])
  refine g_lsub ([(0, .ref (s 0)), (1, .ref (a 0)), (2, .ref (b 0))]) [0, 1, 2] rfl ?_
  refine g_iconst F dX4_branch_0 ?_
  refine g_istore_n F ([(3, iv (0)), (0, .ref (s 0)), (1, .ref (a 0)), (2, .ref (b 0))]) rfl rfl (by decide) dX4_branch_1 ?_
  refine g_aload_n F 1 rfl rfl dX4_branch_2 ?_
  refine g_get F hV iX4 0 rfl rfl 2 (by decide) (List.mem_of_getElem? (i := 1) rfl) rfl dX4_branch_3 ?_
  refine g_iconst F dX4_branch_6 ?_
  refine g_iconst F dX4_branch_7 ?_
  refine g_iast F 3 rfl 0 rfl (by decide) (by decide) (wS cA s tb0 (bSp X0) (va_up (bSg X0) 0 0) ++ wP cA a a_kd a_lo a_hi a_co a_pa a_rk a_nu a_ct a_sa ((a_nc : Nat) : Int) ((a_nr : Nat) : Int) ++ wB cA b (bBs X0).1 (bBs X0).2.1 (bBs X0).2.2.1 (bBs X0).2.2.2 ++ poolE cA ad0 (bTb X0) (fun _ => false) k0) rfl dX4_branch_8 ?_
  refine g_iconst F dX4_branch_9 ?_
  refine g_istore F ([(4, iv (0)), (3, iv (0)), (0, .ref (s 0)), (1, .ref (a 0)), (2, .ref (b 0))]) rfl (by decide) dX4_branch_10 ?_
  refine g_lsub ([(0, .ref (s 0)), (1, .ref (a 0)), (2, .ref (b 0)), (3, iv (0)), (4, iv (0))]) [2, 3, 4, 1, 0] rfl ?_
  have hgo := lp12 1000001 0 (0, bTb X0, bSp X0, va_up (bSg X0) 0 0, bBs X0) 1 g0 k0 ad0 tb0 (by omega) rfl hBI0 (by omega) hk51 hk1 ht1 ht2 (fun _ _ => rfl) (by omega)
  rw [show 7 * (k0 - k0) = 0 by omega, show 156 * (k0 - k0) = 0 by omega] at hgo
  exact hgo
