abbrev subN (m C : Nat) : Prop := m ^^^ (m &&& C) = 0
/-- the least set of rows at war: by size, then by number -/
def quarP (pe : Nat → Prop) (C n : Nat) : Prop :=
  (pe C ∧ n = 0) ∨ (¬ pe C ∧ n = 0 ∧ ∀ m, 1 ≤ m → m < 128 → subN m C → pe m) ∨
  (¬ pe C ∧ 1 ≤ n ∧ n < 128 ∧ subN n C ∧ ¬ pe n ∧ ∀ m, 1 ≤ m → m < 128 → subN m C → (bitsN m < bitsN n ∨ (bitsN m = bitsN n ∧ m < n)) → pe m)
theorem bits_7 (n : Nat) : bitsN n ≤ 7 := by unfold bitsN; omega
theorem bits_1 {n : Nat} (h : 1 ≤ n) (h2 : n < 128) : 1 ≤ bitsN n := by
  have key : ∀ n : Fin 128, 1 ≤ n.val → 1 ≤ bitsN n.val := by decide +kernel
  exact key ⟨n, h2⟩ h

set_option maxHeartbeats 4000000 in
set_option maxRecDepth 100000 in
theorem kX3_smallest (l : Launch) (D : va_G) (cA : Nat → ClassId) (q t : Nat → Nat) (pl pc : Nat → Int) (S : TS) (n1 : Nat) (a : Nat → Nat) (a_kd a_lo a_hi a_co a_pa a_rk a_nu a_ct a_sa : Nat → Int) (a_nc a_nr : Nat) (hP : colsOk a_nc a_kd a_pa a_lo a_hi) (hco : ∀ j, -9 ≤ a_co j ∧ a_co j ≤ 9) (hR : rowsOk a_nr a_rk a_nu a_ct a_sa) (hS : staleT S) (hz : ∀ n, pc n = 0 ∨ pc n = 1) :
    CT l yX3_smallest wsX3_smallest ({ frames := 5, cells := 0, slots := 0, locals := 130 }) D cA [.ref (q 0), .ref (a 0)] (wQ cA q (t 0) pl pc ++ wTS cA t n1 (S) ++ wP cA a a_kd a_lo a_hi a_co a_pa a_rk a_nu a_ct a_sa ((a_nc : Nat) : Int) ((a_nr : Nat) : Int)) (fun ov ow => ∃ (S' : TS) (pl' pc' : Nat → Int) (n : Nat), ov = some (iv ((n : Nat) : Int)) ∧ quarP (peaceP a_rk a_nu a_sa a_lo a_hi a_nc a_nr) (setZ a_ct a_nr) n ∧ staleT S' ∧ (∀ n, pc' n = 0 ∨ pc' n = 1) ∧ ow = wQ cA q (t 0) pl' pc' ++ wTS cA t a_nc (S') ++ wP cA a a_kd a_lo a_hi a_co a_pa a_rk a_nu a_ct a_sa ((a_nc : Nat) : Int) ((a_nr : Nat) : Int)) 0 0 := by
  refine CT.mk (cc := cX3_smallest) (maxL := 6) (ret := (some .int)) (by decide +kernel) rfl (Nat.le_of_ble_eq_true rfl) ?_
  intro p_ e_ s_ m_ b_ me_ c_ A F hnm hA
  have hV := @IM_P D s_ A
  have iX3 : ∀ w ∈ u_ws RX3 TX3 3, w ∈ wsX3_smallest := by decide +kernel
  obtain ⟨hnr, hrk, hnu, hsa, hct⟩ := id hR
  have hcs : setZ a_ct a_nr < 128 := Nat.lt_of_lt_of_le (setZ_lt a_ct a_nr) (Nat.pow_le_pow_right (n := 2) (by decide) hnr)
  have lp40 : ¬ peaceP a_rk a_nu a_sa a_lo a_hi a_nc a_nr (setZ a_ct a_nr) → ∀ (g k : Nat) (S : TS) (pl pc : Nat → Int), 1 ≤ k → k ≤ 8 → staleT S → (∀ n, pc n = 0 ∨ pc n = 1) → (∀ n, n < 128 → pc n = 1 → peaceP a_rk a_nu a_sa a_lo a_hi a_nc a_nr n) → (∀ m, 1 ≤ m → m < 128 → subN m (setZ a_ct a_nr) → bitsN m < k → peaceP a_rk a_nu a_sa a_lo a_hi a_nc a_nr m) → 8 - k < g → GW p_ l e_ (headSpec wsX3_smallest ({ frames := 5, cells := 0, slots := 0, locals := 130 })).room s_ m_ ([.ref (q 0), .ref (a 0)]).toArray b_ me_ c_ (MQ b_ (Qm D (fun ov ow => ∃ (S' : TS) (pl' pc' : Nat → Int) (n : Nat), ov = some (iv ((n : Nat) : Int)) ∧ quarP (peaceP a_rk a_nu a_sa a_lo a_hi a_nc a_nr) (setZ a_ct a_nr) n ∧ staleT S' ∧ (∀ n, pc' n = 0 ∨ pc' n = 1) ∧ ow = wQ cA q (t 0) pl' pc' ++ wTS cA t a_nc (S') ++ wP cA a a_kd a_lo a_hi a_co a_pa a_rk a_nu a_ct a_sa ((a_nc : Nat) : Int) ((a_nr : Nat) : Int)) A) ([.ref (q 0), .ref (a 0)]).toArray s_ 0 0 A) (IM D s_ A) 6 0 0 (wQ cA q (t 0) pl pc ++ wTS cA t a_nc (S) ++ wP cA a a_kd a_lo a_hi a_co a_pa a_rk a_nu a_ct a_sa ((a_nc : Nat) : Int) ((a_nr : Nat) : Int)) ([(3, iv (((k : Nat) : Int))), (2, iv (((setZ a_ct a_nr : Nat) : Int))), (0, .ref (q 0)), (1, .ref (a 0))]) [] 40 := by
    intro hwar g
    induction g with
    | zero => intros; omega
    | succ g ih =>
      intro k S pl pc hk1 hk8 hS hz hpc hdone hmu
      refine g_iload_n F 0 rfl rfl dX3_smallest_40 ?_
      refine g_bipush F dX3_smallest_41 (by decide) ?_
      refine g_icmp_gt F (tgt := 122) dX3_smallest_43 (by decide) ⟨by omega, by omega⟩ ⟨by decide, by decide⟩ (fun c1 => ?_) (fun c1 => ?_)
      · refine g_iconst F dX3_smallest_122 ?_
        exact g_zret F rfl rfl (by decide) (by decide) ⟨S, pl, pc, 0, rfl, Or.inr (Or.inl ⟨hwar, rfl, fun m h1 h2 h3 => hdone m h1 h2 h3 (by have := bits_7 m; omega)⟩), hS, hz, rfl⟩ dX3_smallest_123
      · have lp49 : ∀ (f s : Nat) (S : TS) (pl pc : Nat → Int), 1 ≤ s → s ≤ 128 → staleT S → (∀ n, pc n = 0 ∨ pc n = 1) → (∀ n, n < 128 → pc n = 1 → peaceP a_rk a_nu a_sa a_lo a_hi a_nc a_nr n) → (∀ m, 1 ≤ m → m < 128 → subN m (setZ a_ct a_nr) → (bitsN m < k ∨ (bitsN m = k ∧ m < s)) → peaceP a_rk a_nu a_sa a_lo a_hi a_nc a_nr m) → 128 - s < f → GW p_ l e_ (headSpec wsX3_smallest ({ frames := 5, cells := 0, slots := 0, locals := 130 })).room s_ m_ ([.ref (q 0), .ref (a 0)]).toArray b_ me_ c_ (MQ b_ (Qm D (fun ov ow => ∃ (S' : TS) (pl' pc' : Nat → Int) (n : Nat), ov = some (iv ((n : Nat) : Int)) ∧ quarP (peaceP a_rk a_nu a_sa a_lo a_hi a_nc a_nr) (setZ a_ct a_nr) n ∧ staleT S' ∧ (∀ n, pc' n = 0 ∨ pc' n = 1) ∧ ow = wQ cA q (t 0) pl' pc' ++ wTS cA t a_nc (S') ++ wP cA a a_kd a_lo a_hi a_co a_pa a_rk a_nu a_ct a_sa ((a_nc : Nat) : Int) ((a_nr : Nat) : Int)) A) ([.ref (q 0), .ref (a 0)]).toArray s_ 0 0 A) (IM D s_ A) 6 0 0 (wQ cA q (t 0) pl pc ++ wTS cA t a_nc (S) ++ wP cA a a_kd a_lo a_hi a_co a_pa a_rk a_nu a_ct a_sa ((a_nc : Nat) : Int) ((a_nr : Nat) : Int)) ([(4, iv (((s : Nat) : Int))), (3, iv (((k : Nat) : Int))), (2, iv (((setZ a_ct a_nr : Nat) : Int))), (0, .ref (q 0)), (1, .ref (a 0))]) [] 49 := by
          intro f
          induction f with
          | zero => intros; omega
          | succ f ih2 =>
            intro s S pl pc hs1 hs8 hS hz hpc hdone hmu2
            refine g_iload F 0 rfl dX3_smallest_49 ?_
            refine g_sipush F dX3_smallest_51 (by decide) ?_
            refine g_icmp_ge F (tgt := 116) dX3_smallest_54 (by decide) ⟨by omega, by omega⟩ ⟨by decide, by decide⟩ (fun c2 => ?_) (fun c2 => ?_)
            · refine g_iinc F 1 rfl ([(3, iv (((k : Nat) : Int) + 1)), (4, iv (((s : Nat) : Int))), (2, iv (((setZ a_ct a_nr : Nat) : Int))), (0, .ref (q 0)), (1, .ref (a 0))]) rfl (by decide) dX3_smallest_116 ?_
              refine g_goto F (tgt := 40) dX3_smallest_119 (by decide) ?_
              refine g_lsub ([(3, iv (((k : Nat) : Int) + 1)), (2, iv (((setZ a_ct a_nr : Nat) : Int))), (0, .ref (q 0)), (1, .ref (a 0))]) [0, 2, 3, 4] rfl ?_
              exact ih (k + 1) S pl pc (by omega) (by omega) hS hz hpc (fun m h1 h2 h3 h4 => hdone m h1 h2 h3 (by omega)) (by omega)
            · have at110 : ∀ (S : TS) (pl pc : Nat → Int), staleT S → (∀ n, pc n = 0 ∨ pc n = 1) → (∀ n, n < 128 → pc n = 1 → peaceP a_rk a_nu a_sa a_lo a_hi a_nc a_nr n) → (subN s (setZ a_ct a_nr) → bitsN s = k → peaceP a_rk a_nu a_sa a_lo a_hi a_nc a_nr s) → GW p_ l e_ (headSpec wsX3_smallest ({ frames := 5, cells := 0, slots := 0, locals := 130 })).room s_ m_ ([.ref (q 0), .ref (a 0)]).toArray b_ me_ c_ (MQ b_ (Qm D (fun ov ow => ∃ (S' : TS) (pl' pc' : Nat → Int) (n : Nat), ov = some (iv ((n : Nat) : Int)) ∧ quarP (peaceP a_rk a_nu a_sa a_lo a_hi a_nc a_nr) (setZ a_ct a_nr) n ∧ staleT S' ∧ (∀ n, pc' n = 0 ∨ pc' n = 1) ∧ ow = wQ cA q (t 0) pl' pc' ++ wTS cA t a_nc (S') ++ wP cA a a_kd a_lo a_hi a_co a_pa a_rk a_nu a_ct a_sa ((a_nc : Nat) : Int) ((a_nr : Nat) : Int)) A) ([.ref (q 0), .ref (a 0)]).toArray s_ 0 0 A) (IM D s_ A) 6 0 0 (wQ cA q (t 0) pl pc ++ wTS cA t a_nc (S) ++ wP cA a a_kd a_lo a_hi a_co a_pa a_rk a_nu a_ct a_sa ((a_nc : Nat) : Int) ((a_nr : Nat) : Int)) ([(4, iv (((s : Nat) : Int))), (3, iv (((k : Nat) : Int))), (2, iv (((setZ a_ct a_nr : Nat) : Int))), (0, .ref (q 0)), (1, .ref (a 0))]) [] 110 := by
                intro S pl pc hS hz hpc hs
                refine g_iinc F 0 rfl ([(4, iv (((s : Nat) : Int) + 1)), (3, iv (((k : Nat) : Int))), (2, iv (((setZ a_ct a_nr : Nat) : Int))), (0, .ref (q 0)), (1, .ref (a 0))]) rfl (by decide) dX3_smallest_110 ?_
                refine g_goto F (tgt := 49) dX3_smallest_113 (by decide) ?_
                exact ih2 (s + 1) S pl pc (by omega) (by omega) hS hz hpc (fun m h1 h2 h3 h4 => by
                  rcases (show (bitsN m < k ∨ (bitsN m = k ∧ m < s)) ∨ (m = s ∧ bitsN m = k) by omega) with w | ⟨w1, w2⟩
                  · exact hdone m h1 h2 h3 w
                  · subst w1; exact hs h3 w2) (by omega)
              have at80 : ∀ z : Nat, (z = 0 ∧ ¬ (subN s (setZ a_ct a_nr) ∧ bitsN s = k)) ∨ (z = 1 ∧ subN s (setZ a_ct a_nr) ∧ bitsN s = k) → GW p_ l e_ (headSpec wsX3_smallest ({ frames := 5, cells := 0, slots := 0, locals := 130 })).room s_ m_ ([.ref (q 0), .ref (a 0)]).toArray b_ me_ c_ (MQ b_ (Qm D (fun ov ow => ∃ (S' : TS) (pl' pc' : Nat → Int) (n : Nat), ov = some (iv ((n : Nat) : Int)) ∧ quarP (peaceP a_rk a_nu a_sa a_lo a_hi a_nc a_nr) (setZ a_ct a_nr) n ∧ staleT S' ∧ (∀ n, pc' n = 0 ∨ pc' n = 1) ∧ ow = wQ cA q (t 0) pl' pc' ++ wTS cA t a_nc (S') ++ wP cA a a_kd a_lo a_hi a_co a_pa a_rk a_nu a_ct a_sa ((a_nc : Nat) : Int) ((a_nr : Nat) : Int)) A) ([.ref (q 0), .ref (a 0)]).toArray s_ 0 0 A) (IM D s_ A) 6 0 0 (wQ cA q (t 0) pl pc ++ wTS cA t a_nc (S) ++ wP cA a a_kd a_lo a_hi a_co a_pa a_rk a_nu a_ct a_sa ((a_nc : Nat) : Int) ((a_nr : Nat) : Int)) ([(4, iv (((s : Nat) : Int))), (3, iv (((k : Nat) : Int))), (2, iv (((setZ a_ct a_nr : Nat) : Int))), (0, .ref (q 0)), (1, .ref (a 0))]) [iv (((z : Nat) : Int))] 80 := by
                intro z hzz
                refine g_istore F ([(5, iv (((z : Nat) : Int))), (4, iv (((s : Nat) : Int))), (3, iv (((k : Nat) : Int))), (2, iv (((setZ a_ct a_nr : Nat) : Int))), (0, .ref (q 0)), (1, .ref (a 0))]) rfl (by decide) dX3_smallest_80 ?_
                refine g_iload F 0 rfl dX3_smallest_82 ?_
                refine g_if_eq F (tgt := 110) dX3_smallest_84 (by decide) ⟨by omega, by omega⟩ (fun c3 => ?_) (fun c3 => ?_)
                · refine g_lsub ([(4, iv (((s : Nat) : Int))), (3, iv (((k : Nat) : Int))), (2, iv (((setZ a_ct a_nr : Nat) : Int))), (0, .ref (q 0)), (1, .ref (a 0))]) [1, 2, 3, 4, 5] rfl ?_
                  exact at110 S pl pc hS hz hpc (fun h1 h2 => by rcases hzz with w | w; exact absurd ⟨h1, h2⟩ w.2; omega)
                · have hsb : subN s (setZ a_ct a_nr) ∧ bitsN s = k := by rcases hzz with w | w; omega; exact w.2
                  refine g_aload_n F 4 rfl rfl dX3_smallest_87 ?_
                  refine g_get F hV iX3 0 rfl rfl 2 (by decide) (List.mem_of_getElem? (i := 1) rfl) rfl dX3_smallest_88 ?_
                  refine g_iload F 1 rfl dX3_smallest_91 ?_
                  refine g_zald F hV 2 rfl s rfl (by omega) (by decide) dX3_smallest_93 ?_
                  have hzs := hz s
                  refine g_if_ne F (tgt := 110) dX3_smallest_94 (by decide) ⟨by omega, by omega⟩ (fun c4 => ?_) (fun c4 => ?_)
                  · refine g_lsub ([(4, iv (((s : Nat) : Int))), (3, iv (((k : Nat) : Int))), (2, iv (((setZ a_ct a_nr : Nat) : Int))), (0, .ref (q 0)), (1, .ref (a 0))]) [1, 2, 3, 4, 5] rfl ?_
                    exact at110 S pl pc hS hz hpc (fun _ _ => hpc s (by omega) (by omega))
                  · refine g_aload_n F 4 rfl rfl dX3_smallest_97 ?_
                    refine g_aload_n F 5 rfl rfl dX3_smallest_98 ?_
                    refine g_iload F 1 rfl dX3_smallest_99 ?_
                    refine g_callVP F (As := [.ref (a 0), iv ((s : Nat) : Int)]) (rest := []) (wr := []) (kX3_makesPeace l D cA q t pl pc S a_nc a a_kd a_lo a_hi a_co a_pa a_rk a_nu a_ct a_sa a_nc a_nr s (by omega) hP hco hR hS hz hpc) (cwV 2 F.2.2.2.2.1 gX3_smallest_X3_makesPeace rfl rfl rfl (by decide +kernel) ⟨(Nat.le_of_ble_eq_true rfl), (Nat.le_of_ble_eq_true rfl)⟩) rfl rfl (q0 := 0) rfl (by rw [List.append_nil]) rfl rfl (Nat.le_of_ble_eq_true rfl) ⟨(Nat.le_of_ble_eq_true rfl), (Nat.le_of_ble_eq_true rfl)⟩ hA dX3_smallest_101 (fun v w hv => ?_)
                    obtain ⟨S2, pl2, pc2, hv, hS2, hz2, hpc2, hw⟩ := hv
                    subst hv
                    subst hw
                    refine g_eq (st' := [iv (@ite Int (peaceP a_rk a_nu a_sa a_lo a_hi a_nc a_nr s) (Classical.propDecidable _) 1 0)]) rfl rfl rfl ?_
                    refine g_ifb_ne F (tgt := 110) dX3_smallest_104 (by decide) (fun c5 => ?_) (fun c5 => ?_)
                    · refine g_lsub ([(4, iv (((s : Nat) : Int))), (3, iv (((k : Nat) : Int))), (2, iv (((setZ a_ct a_nr : Nat) : Int))), (0, .ref (q 0)), (1, .ref (a 0))]) [1, 2, 3, 4, 5] rfl ?_
                      exact at110 S2 pl2 pc2 hS2 hz2 hpc2 (fun _ _ => c5)
                    · refine g_iload F 1 rfl dX3_smallest_107 ?_
                      exact g_zret F rfl rfl (by decide) (by decide) ⟨S2, pl2, pc2, s, rfl, Or.inr (Or.inr ⟨hwar, hs1, by omega, hsb.1, c5, fun m h1 h2 h3 h4 => hdone m h1 h2 h3 (by rw [hsb.2] at h4; exact h4)⟩), hS2, hz2, rfl⟩ dX3_smallest_109
              refine g_iload F 0 rfl dX3_smallest_57 ?_
              refine g_iload_n F 2 rfl rfl dX3_smallest_59 ?_
              refine g_iconst F dX3_smallest_60 ?_
              refine g_andnot F (a := s) (b := setZ a_ct a_nr) rfl rfl (by omega) (by omega) dX3_smallest_61 dX3_smallest_62 ?_
              have hax : s ^^^ (s &&& setZ a_ct a_nr) < 128 := Nat.xor_lt_two_pow (n := 7) (by omega) (Nat.lt_of_le_of_lt Nat.and_le_left (by omega))
              refine g_if_ne F (tgt := 79) dX3_smallest_63 (by decide) ⟨by omega, by omega⟩ (fun c3 => ?_) (fun c3 => ?_)
              · refine g_iconst F dX3_smallest_79 ?_
                exact at80 0 (Or.inl ⟨rfl, fun w => c3 (by have := w.1; omega)⟩)
              · have hsub : subN s (setZ a_ct a_nr) := by show s ^^^ (s &&& setZ a_ct a_nr) = 0; omega
                refine g_iload F 0 rfl dX3_smallest_66 ?_
                refine g_callRS F hV (As := [iv (((s : Nat) : Int))]) (rest := []) (kJ6_bitCount_0f7a4 l D cA s (by omega)) (va_cwS 1 F.2.2.2.2.1 gX3_smallest_J6_bitCount_0f7a4 rfl rfl rfl (by decide +kernel) ⟨(Nat.le_of_ble_eq_true rfl), (Nat.le_of_ble_eq_true rfl)⟩) [] rfl rfl rfl (Nat.le_of_ble_eq_true rfl) ⟨(Nat.le_of_ble_eq_true rfl), (Nat.le_of_ble_eq_true rfl)⟩ dX3_smallest_68 (fun v hv => ?_)
                subst hv
                refine g_eq (st' := [iv (((bitsN s : Nat) : Int))]) rfl rfl rfl ?_
                refine g_iload_n F 1 rfl rfl dX3_smallest_71 ?_
                have hb7 := bits_7 s
                refine g_icmp_ne F (tgt := 79) dX3_smallest_72 (by decide) ⟨by omega, by omega⟩ ⟨by omega, by omega⟩ (fun c4 => ?_) (fun c4 => ?_)
                · refine g_iconst F dX3_smallest_79 ?_
                  exact at80 0 (Or.inl ⟨rfl, fun w => c4 (by rw [w.2])⟩)
                · refine g_iconst F dX3_smallest_75 ?_
                  refine g_goto F (tgt := 80) dX3_smallest_76 (by decide) ?_
                  exact at80 1 (Or.inr ⟨rfl, hsub, by omega⟩)
        refine g_iconst F dX3_smallest_46 ?_
        refine g_istore F ([(4, iv (((1 : Nat) : Int))), (3, iv (((k : Nat) : Int))), (2, iv (((setZ a_ct a_nr : Nat) : Int))), (0, .ref (q 0)), (1, .ref (a 0))]) rfl (by decide) dX3_smallest_47 ?_
        exact lp49 128 1 S pl pc (by omega) (by omega) hS hz hpc (fun m h1 h2 h3 h4 => hdone m h1 h2 h3 (by omega)) (by omega)
  have lp7 : ∀ (f i : Nat) (pc : Nat → Int), i ≤ 128 → (∀ n, pc n = 0 ∨ pc n = 1) → (∀ n, n < i → pc n = 0) → 128 - i < f → GW p_ l e_ (headSpec wsX3_smallest ({ frames := 5, cells := 0, slots := 0, locals := 130 })).room s_ m_ ([.ref (q 0), .ref (a 0)]).toArray b_ me_ c_ (MQ b_ (Qm D (fun ov ow => ∃ (S' : TS) (pl' pc' : Nat → Int) (n : Nat), ov = some (iv ((n : Nat) : Int)) ∧ quarP (peaceP a_rk a_nu a_sa a_lo a_hi a_nc a_nr) (setZ a_ct a_nr) n ∧ staleT S' ∧ (∀ n, pc' n = 0 ∨ pc' n = 1) ∧ ow = wQ cA q (t 0) pl' pc' ++ wTS cA t a_nc (S') ++ wP cA a a_kd a_lo a_hi a_co a_pa a_rk a_nu a_ct a_sa ((a_nc : Nat) : Int) ((a_nr : Nat) : Int)) A) ([.ref (q 0), .ref (a 0)]).toArray s_ 0 0 A) (IM D s_ A) 6 0 0 (wQ cA q (t 0) pl pc ++ wTS cA t n1 (S) ++ wP cA a a_kd a_lo a_hi a_co a_pa a_rk a_nu a_ct a_sa ((a_nc : Nat) : Int) ((a_nr : Nat) : Int)) ([(3, iv (((i : Nat) : Int))), (2, iv (((setZ a_ct a_nr : Nat) : Int))), (0, .ref (q 0)), (1, .ref (a 0))]) [] 7 := by
    intro f
    induction f with
    | zero => intros; omega
    | succ f ih =>
      intro i pc hi hz h0 hmu
      refine g_iload_n F 0 rfl rfl dX3_smallest_7 ?_
      refine g_sipush F dX3_smallest_8 (by decide) ?_
      refine g_icmp_ge F (tgt := 27) dX3_smallest_11 (by decide) ⟨by omega, by omega⟩ ⟨by decide, by decide⟩ (fun c1 => ?_) (fun c1 => ?_)
      · refine g_aload_n F 2 rfl rfl dX3_smallest_27 ?_
        refine g_aload_n F 3 rfl rfl dX3_smallest_28 ?_
        refine g_iload_n F 1 rfl rfl dX3_smallest_29 ?_
        refine g_callVP F (As := [.ref (a 0), iv ((setZ a_ct a_nr : Nat) : Int)]) (rest := []) (wr := []) (kX3_makesPeace l D cA q t pl pc S n1 a a_kd a_lo a_hi a_co a_pa a_rk a_nu a_ct a_sa a_nc a_nr (setZ a_ct a_nr) hcs hP hco hR hS hz (fun n hn w => by have := h0 n (by omega); omega)) (cwV 2 F.2.2.2.2.1 gX3_smallest_X3_makesPeace rfl rfl rfl (by decide +kernel) ⟨(Nat.le_of_ble_eq_true rfl), (Nat.le_of_ble_eq_true rfl)⟩) rfl rfl (q0 := 0) rfl (by rw [List.append_nil]) rfl rfl (Nat.le_of_ble_eq_true rfl) ⟨(Nat.le_of_ble_eq_true rfl), (Nat.le_of_ble_eq_true rfl)⟩ hA dX3_smallest_30 (fun v w hv => ?_)
        obtain ⟨S2, pl2, pc2, hv, hS2, hz2, hpc2, hw⟩ := hv
        subst hv
        subst hw
        refine g_eq (st' := [iv (@ite Int (peaceP a_rk a_nu a_sa a_lo a_hi a_nc a_nr (setZ a_ct a_nr)) (Classical.propDecidable _) 1 0)]) rfl rfl rfl ?_
        refine g_ifb_eq F (tgt := 38) dX3_smallest_33 (by decide) (fun c2 => ?_) (fun c2 => ?_)
        · refine g_iconst F dX3_smallest_38 ?_
          refine g_istore_n F ([(3, iv (((1 : Nat) : Int))), (2, iv (((setZ a_ct a_nr : Nat) : Int))), (0, .ref (q 0)), (1, .ref (a 0))]) rfl rfl (by decide) dX3_smallest_39 ?_
          exact lp40 c2 8 1 S2 pl2 pc2 (by omega) (by omega) hS2 hz2 hpc2 (fun m h1 h2 _ h4 => by have := bits_1 h1 h2; omega) (by omega)
        · refine g_iconst F dX3_smallest_36 ?_
          exact g_zret F rfl rfl (by decide) (by decide) ⟨S2, pl2, pc2, 0, rfl, Or.inl ⟨c2, rfl⟩, hS2, hz2, rfl⟩ dX3_smallest_37
      · refine g_aload_n F 2 rfl rfl dX3_smallest_14 ?_
        refine g_get F hV iX3 0 rfl rfl 2 (by decide) (List.mem_of_getElem? (i := 1) rfl) rfl dX3_smallest_15 ?_
        refine g_iload_n F 0 rfl rfl dX3_smallest_18 ?_
        refine g_iconst F dX3_smallest_19 ?_
        refine g_zast F 2 rfl i (Or.inl rfl) rfl (by omega) (by decide) (wQ cA q (t 0) pl (va_up pc i 0) ++ wTS cA t n1 (S) ++ wP cA a a_kd a_lo a_hi a_co a_pa a_rk a_nu a_ct a_sa ((a_nc : Nat) : Int) ((a_nr : Nat) : Int)) rfl dX3_smallest_20 ?_
        refine g_iinc F 0 rfl ([(3, iv (((i : Nat) : Int) + 1)), (2, iv (((setZ a_ct a_nr : Nat) : Int))), (0, .ref (q 0)), (1, .ref (a 0))]) rfl (by decide) dX3_smallest_21 ?_
        refine g_goto F (tgt := 7) dX3_smallest_24 (by decide) ?_
        exact ih (i + 1) (va_up pc i 0) (by omega) (fun n => by
          unfold va_up
          split
          · exact Or.inl rfl
          · exact hz n) (fun n hn => by
          unfold va_up
          split
          · rfl
          · exact h0 n (by omega)) (by omega)
  refine g_lsub ([(0, .ref (q 0)), (1, .ref (a 0))]) [0, 1] rfl ?_
  refine g_aload_n F 1 rfl rfl dX3_smallest_0 ?_
  refine g_callRV F hV (As := []) (rest := []) (kX2_countingSet l D cA a a_kd a_lo a_hi a_co a_pa a_rk a_nu a_ct a_sa a_nc a_nr hnr hct) (cwV 0 F.2.2.2.2.1 gX3_smallest_X2_countingSet rfl rfl rfl (by decide +kernel) ⟨(Nat.le_of_ble_eq_true rfl), (Nat.le_of_ble_eq_true rfl)⟩) rfl rfl (q0 := 0) rfl [10, 11, 12, 13, 14, 15, 16, 17, 18, 19] rfl rfl rfl (Nat.le_of_ble_eq_true rfl) ⟨(Nat.le_of_ble_eq_true rfl), (Nat.le_of_ble_eq_true rfl)⟩ dX3_smallest_1 (fun v hv => ?_)
  subst hv
  refine g_eq (st' := [iv (((setZ a_ct a_nr : Nat) : Int))]) rfl rfl rfl ?_
  refine g_istore_n F ([(2, iv (((setZ a_ct a_nr : Nat) : Int))), (0, .ref (q 0)), (1, .ref (a 0))]) rfl rfl (by decide) dX3_smallest_4 ?_
  refine g_iconst F dX3_smallest_5 ?_
  refine g_istore_n F ([(3, iv (((0 : Nat) : Int))), (2, iv (((setZ a_ct a_nr : Nat) : Int))), (0, .ref (q 0)), (1, .ref (a 0))]) rfl rfl (by decide) dX3_smallest_6 ?_
  exact lp7 129 0 pc (by omega) hz (fun n hn => absurd hn (Nat.not_lt_zero n)) (by omega)
