theorem fz_s {f : Nat → Bool} {n : Nat} : firstZ f (n + 1) < 0 ↔ (firstZ f n < 0 ∧ f n = false) := by
  have hr := firstZ_rng f n
  show (if firstZ f n = -1 then (if f n then (n : Int) else -1) else firstZ f n) < 0 ↔ _
  by_cases e : firstZ f n = -1
  · rw [if_pos e, e]
    rcases f n with _ | _
    · simp
    · simp
  · rw [if_neg e]
    constructor
    · intro z; omega
    · intro z; omega
set_option maxHeartbeats 4000000 in
set_option maxRecDepth 100000 in
theorem kX7_isLoose (l : Launch) (D : va_G) (cA : Nat → ClassId) (m : Nat → Nat) (m_nc : Nat) (m_nr : Nat) (m_ke : Int) (m_so : Int) (m_bu : Int) (m_bc : Int) (m_pu : Int) (m_qu : Int) (m_fs : Int) (m_cd : Int) (m_un : Int) (m_hb : Int) (m_pf : Int) (m_ef : Int) (m_kd : Nat → Int) (m_lo : Nat → Int) (m_hi : Nat → Int) (m_co : Nat → Int) (m_pa : Nat → Int) (m_rk : Nat → Int) (m_nu : Nat → Int) (m_ct : Nat → Int) (m_sa : Nat → Int) (m_pl : Nat → Int) (m_pr : Nat → Int) (qnc : m_nc ≤ 5) (qnr : m_nr ≤ 7) (hpl : ∀ j, -200000000000 ≤ m_pl j ∧ m_pl j ≤ 200000000000) (hpb : 0 < m_pu ∧ m_pu ≤ 8000000) (qsa : ∀ j, -9 ≤ m_sa j ∧ m_sa j ≤ 9) (qnu : ∀ j, -198 ≤ m_nu j ∧ m_nu j ≤ 198) (qrk : ∀ j, 0 ≤ m_rk j ∧ m_rk j ≤ 2) (qct : ∀ j, 0 ≤ m_ct j ∧ m_ct j ≤ 1) (qlo : ∀ j, -20 ≤ m_lo j ∧ m_lo j ≤ 20) (qhi : ∀ j, m_hi j = -2000000005 ∨ (-20 ≤ m_hi j ∧ m_hi j ≤ 20)) : CR l yX7_isLoose wsX7_isLoose ({ frames := 2, cells := 0, slots := 0, locals := 49 }) D cA [.ref (m 0)] (wMO cA m (((m_nc : Nat) : Int)) (((m_nr : Nat) : Int)) (m_ke) (m_so) (m_bu) (m_bc) (m_pu) (m_qu) (m_fs) (m_cd) (m_un) (m_hb) (m_pf) (m_ef) ++ wMP cA m (m_kd) (m_lo) (m_hi) (m_co) (m_pa) (m_rk) (m_nu) (m_ct) (m_sa) ++ wMH cA m (m_pl) (m_pr)) (fun ov => ov = some (iv (if firstZ (outB m_lo m_hi m_pl m_pu) m_nc < 0 ∧ firstZ (brkB m_rk m_nu m_ct m_sa m_pl m_pu m_nc) m_nr < 0 then 1 else 0))) := by
  refine CR.mk (cc := cX7_isLoose) (maxL := 3) (ret := (some .boolean)) (by decide +kernel) rfl (Nat.le_of_ble_eq_true rfl) ?_
  intro p_ e_ s_ m_ b_ me_ c_ F
  have hV := @IR_P D s_
  have iX7 : ∀ w ∈ u_ws RX7 TX7 38, w ∈ wsX7_isLoose := by decide +kernel
  refine g_lsub ([(0, .ref (m 0))]) [0] rfl ?_
  refine g_iconst F dX7_isLoose_0 ?_
  refine g_istore_n F ([(1, iv (1)), (0, .ref (m 0))]) rfl rfl (by decide) dX7_isLoose_1 ?_
  refine g_iconst F dX7_isLoose_2 ?_
  refine g_istore_n F ([(2, iv (0)), (1, iv (1)), (0, .ref (m 0))]) rfl rfl (by decide) dX7_isLoose_3 ?_
  have lp4 : ∀ (n : Nat) (c : Nat) (x : Int) (hc : c ≤ m_nc) (hx01 : x = 0 ∨ x = 1) (hx : x = 1 ↔ firstZ (outB m_lo m_hi m_pl m_pu) c < 0), m_nc - c < n → GW p_ l e_ (headSpec wsX7_isLoose ({ frames := 2, cells := 0, slots := 0, locals := 49 })).room s_ m_ ([.ref (m 0)]).toArray b_ me_ c_ (MQ b_ (Qr (fun ov => ov = some (iv (if firstZ (outB m_lo m_hi m_pl m_pu) m_nc < 0 ∧ firstZ (brkB m_rk m_nu m_ct m_sa m_pl m_pu m_nc) m_nr < 0 then 1 else 0)))) ([.ref (m 0)]).toArray s_ 0 0 (fun _ => False)) (IR D s_) 3 0 0 (wMO cA m (((m_nc : Nat) : Int)) (((m_nr : Nat) : Int)) (m_ke) (m_so) (m_bu) (m_bc) (m_pu) (m_qu) (m_fs) (m_cd) (m_un) (m_hb) (m_pf) (m_ef) ++ wMP cA m (m_kd) (m_lo) (m_hi) (m_co) (m_pa) (m_rk) (m_nu) (m_ct) (m_sa) ++ wMH cA m (m_pl) (m_pr)) ([(0, .ref (m 0)), (1, iv (x)), (2, iv (((c : Nat) : Int)))]) [] 4 := by
    intro n; induction n with
    | zero => intro c x; intros; omega
    | succ n ih4 =>
      intro c x hc hx01 hx hmu4
      refine g_iload_n F 2 rfl rfl dX7_isLoose_4 ?_
      refine g_aload_n F 0 rfl rfl dX7_isLoose_5 ?_
      refine g_get F hV iX7 0 rfl rfl 0 (by decide) (List.mem_of_getElem? (i := 1) rfl) rfl dX7_isLoose_6 ?_
      refine g_icmp_ge F (tgt := 36) dX7_isLoose_9 (by decide) ⟨by omega, by omega⟩ ⟨by omega, by omega⟩ (fun c_1 => ?_) (fun c_1 => ?_)
      · skip
        refine g_iconst F dX7_isLoose_36 ?_
        refine g_istore_n F ([(2, iv (0)), (0, .ref (m 0)), (1, iv (x))]) rfl rfl (by decide) dX7_isLoose_37 ?_
        have lp38 : ∀ (n : Nat) (r : Nat) (x2 : Int) (hr : r ≤ m_nr) (hy01 : x2 = 0 ∨ x2 = 1) (hy : x2 = 1 ↔ (firstZ (outB m_lo m_hi m_pl m_pu) m_nc < 0 ∧ firstZ (brkB m_rk m_nu m_ct m_sa m_pl m_pu m_nc) r < 0)), m_nr - r < n → GW p_ l e_ (headSpec wsX7_isLoose ({ frames := 2, cells := 0, slots := 0, locals := 49 })).room s_ m_ ([.ref (m 0)]).toArray b_ me_ c_ (MQ b_ (Qr (fun ov => ov = some (iv (if firstZ (outB m_lo m_hi m_pl m_pu) m_nc < 0 ∧ firstZ (brkB m_rk m_nu m_ct m_sa m_pl m_pu m_nc) m_nr < 0 then 1 else 0)))) ([.ref (m 0)]).toArray s_ 0 0 (fun _ => False)) (IR D s_) 3 0 0 (wMO cA m (((m_nc : Nat) : Int)) (((m_nr : Nat) : Int)) (m_ke) (m_so) (m_bu) (m_bc) (m_pu) (m_qu) (m_fs) (m_cd) (m_un) (m_hb) (m_pf) (m_ef) ++ wMP cA m (m_kd) (m_lo) (m_hi) (m_co) (m_pa) (m_rk) (m_nu) (m_ct) (m_sa) ++ wMH cA m (m_pl) (m_pr)) ([(0, .ref (m 0)), (1, iv (x2)), (2, iv (((r : Nat) : Int)))]) [] 38 := by
          intro n; induction n with
          | zero => intro r x2; intros; omega
          | succ n ih38 =>
            intro r x2 hr hy01 hy hmu38
            refine g_iload_n F 2 rfl rfl dX7_isLoose_38 ?_
            refine g_aload_n F 0 rfl rfl dX7_isLoose_39 ?_
            refine g_get F hV iX7 0 rfl rfl 6 (by decide) (List.mem_of_getElem? (i := 2) rfl) rfl dX7_isLoose_40 ?_
            refine g_icmp_ge F (tgt := 70) dX7_isLoose_43 (by decide) ⟨by omega, by omega⟩ ⟨by omega, by omega⟩ (fun c_2 => ?_) (fun c_2 => ?_)
            · skip
              refine g_iload_n F 1 rfl rfl dX7_isLoose_70 ?_
              exact g_zretR F rfl (nar_01 (by omega)) (congrArg (fun z => some (iv z)) (show (x2 : Int) = if firstZ (outB m_lo m_hi m_pl m_pu) m_nc < 0 ∧ firstZ (brkB m_rk m_nu m_ct m_sa m_pl m_pu m_nc) m_nr < 0 then 1 else 0 by rw [show r = m_nr by omega] at hy; rcases hy01 with z | z; (rw [z, if_neg (fun w => by have := hy.mpr w; omega)]); (rw [z, if_pos (hy.mp z)]))) dX7_isLoose_71
            · skip
              refine g_iload_n F 1 rfl rfl dX7_isLoose_46 ?_
              refine g_if_eq F (tgt := 62) dX7_isLoose_47 (by decide) ⟨by omega, by omega⟩ (fun c_3 => ?_) (fun c_3 => ?_)
              · skip
                refine g_iconst F dX7_isLoose_62 ?_
                refine g_istore_n F ([(1, iv (0)), (0, .ref (m 0)), (2, iv (((r : Nat) : Int)))]) rfl rfl (by decide) dX7_isLoose_63 ?_
                refine g_iinc F 2 rfl ([(2, iv ((((r : Nat) : Int)) + 1)), (1, iv (0)), (0, .ref (m 0))]) rfl (by decide) dX7_isLoose_64 ?_
                refine g_goto F (tgt := 38) dX7_isLoose_67 (by decide) ?_
                refine g_lsub ([(0, .ref (m 0)), (1, iv (0)), (2, iv ((((r : Nat) : Int)) + 1))]) [2, 1, 0] rfl ?_
                exact ih38 (r + 1) 0 (by omega) (by first | exact Or.inl rfl | exact Or.inr rfl) (by rw [fz_s, ← and_assoc, ← hy]; have e9 : brkB m_rk m_nu m_ct m_sa m_pl m_pu m_nc r = false ↔ ¬ (m_ct r = 1 ∧ ¬ keptP (m_rk r) (sumZ (fun j => m_sa (r * 5 + j) * m_pl j) m_nc) (m_nu r * m_pu)) := (by unfold brkB; rw [decide_eq_false_iff_not]); rw [e9]; first | exact ⟨fun _ => ⟨by omega, by assumption⟩, fun _ => rfl⟩ | exact ⟨fun z => absurd z (by decide), fun z => absurd z.2 (by assumption)⟩ | exact ⟨fun z => absurd z (by decide), fun z => absurd z.1 (by omega)⟩) (by omega)
              · skip
                refine g_aload_n F 0 rfl rfl dX7_isLoose_50 ?_
                refine g_iload_n F 2 rfl rfl dX7_isLoose_51 ?_
                refine g_callRV F hV (As := [iv (((r : Nat) : Int))]) (rest := []) (kX7_isKept l D cA m m_nc m_nr m_ke m_so m_bu m_bc m_pu m_qu m_fs m_cd m_un m_hb m_pf m_ef m_kd m_lo m_hi m_co m_pa m_rk m_nu m_ct m_sa m_pl m_pr r (by omega) (qnc) (hpl) (hpb) (qsa) (qnu) (qrk) (qct)) (cwV 1 F.2.2.2.2.1 gX7_isLoose_X7_isKept rfl rfl rfl (by decide +kernel) ⟨Nat.le_of_ble_eq_true rfl, Nat.le_of_ble_eq_true rfl⟩) rfl rfl (q0 := 0) rfl [0, 1, 2, 3, 4, 5, 6, 7, 8, 9, 10, 11] rfl rfl rfl (Nat.le_of_ble_eq_true rfl) ⟨Nat.le_of_ble_eq_true rfl, Nat.le_of_ble_eq_true rfl⟩ dX7_isLoose_52 (fun v hv => ?_)
                subst hv
                refine g_eq (st' := [iv (if ¬ (m_ct r = 1 ∧ ¬ keptP (m_rk r) (sumZ (fun j => m_sa (r * 5 + j) * m_pl j) m_nc) (m_nu r * m_pu)) then 1 else 0)]) rfl rfl rfl ?_
                refine g_ifb_eq F (tgt := 62) dX7_isLoose_55 (by decide) (fun c_4 => ?_) (fun c_4 => ?_)
                · skip
                  refine g_iconst F dX7_isLoose_62 ?_
                  refine g_istore_n F ([(1, iv (0)), (0, .ref (m 0)), (2, iv (((r : Nat) : Int)))]) rfl rfl (by decide) dX7_isLoose_63 ?_
                  refine g_iinc F 2 rfl ([(2, iv ((((r : Nat) : Int)) + 1)), (1, iv (0)), (0, .ref (m 0))]) rfl (by decide) dX7_isLoose_64 ?_
                  refine g_goto F (tgt := 38) dX7_isLoose_67 (by decide) ?_
                  refine g_lsub ([(0, .ref (m 0)), (1, iv (0)), (2, iv ((((r : Nat) : Int)) + 1))]) [2, 1, 0] rfl ?_
                  exact ih38 (r + 1) 0 (by omega) (by first | exact Or.inl rfl | exact Or.inr rfl) (by rw [fz_s, ← and_assoc, ← hy]; have e9 : brkB m_rk m_nu m_ct m_sa m_pl m_pu m_nc r = false ↔ ¬ (m_ct r = 1 ∧ ¬ keptP (m_rk r) (sumZ (fun j => m_sa (r * 5 + j) * m_pl j) m_nc) (m_nu r * m_pu)) := (by unfold brkB; rw [decide_eq_false_iff_not]); rw [e9]; first | exact ⟨fun _ => ⟨by omega, by assumption⟩, fun _ => rfl⟩ | exact ⟨fun z => absurd z (by decide), fun z => absurd z.2 (by assumption)⟩ | exact ⟨fun z => absurd z (by decide), fun z => absurd z.1 (by omega)⟩) (by omega)
                · skip
                  refine g_iconst F dX7_isLoose_58 ?_
                  refine g_goto F (tgt := 63) dX7_isLoose_59 (by decide) ?_
                  refine g_istore_n F ([(1, iv (1)), (0, .ref (m 0)), (2, iv (((r : Nat) : Int)))]) rfl rfl (by decide) dX7_isLoose_63 ?_
                  refine g_iinc F 2 rfl ([(2, iv ((((r : Nat) : Int)) + 1)), (1, iv (1)), (0, .ref (m 0))]) rfl (by decide) dX7_isLoose_64 ?_
                  refine g_goto F (tgt := 38) dX7_isLoose_67 (by decide) ?_
                  refine g_lsub ([(0, .ref (m 0)), (1, iv (1)), (2, iv ((((r : Nat) : Int)) + 1))]) [2, 1, 0] rfl ?_
                  exact ih38 (r + 1) 1 (by omega) (by first | exact Or.inl rfl | exact Or.inr rfl) (by rw [fz_s, ← and_assoc, ← hy]; have e9 : brkB m_rk m_nu m_ct m_sa m_pl m_pu m_nc r = false ↔ ¬ (m_ct r = 1 ∧ ¬ keptP (m_rk r) (sumZ (fun j => m_sa (r * 5 + j) * m_pl j) m_nc) (m_nu r * m_pu)) := (by unfold brkB; rw [decide_eq_false_iff_not]); rw [e9]; first | exact ⟨fun _ => ⟨by omega, by assumption⟩, fun _ => rfl⟩ | exact ⟨fun z => absurd z (by decide), fun z => absurd z.2 (by assumption)⟩ | exact ⟨fun z => absurd z (by decide), fun z => absurd z.1 (by omega)⟩) (by omega)
        refine g_lsub ([(0, .ref (m 0)), (1, iv (x)), (2, iv (0))]) [1, 2, 0] rfl ?_
        exact lp38 (_ + 1) 0 x (by omega) (hx01) (by rw [hx, show c = m_nc by omega]; exact ⟨fun z => ⟨z, by show (-1 : Int) < 0; decide⟩, fun z => z.1⟩) (Nat.lt_succ_self _)
      · skip
        refine g_iload_n F 1 rfl rfl dX7_isLoose_12 ?_
        refine g_if_eq F (tgt := 28) dX7_isLoose_13 (by decide) ⟨by omega, by omega⟩ (fun c_5 => ?_) (fun c_5 => ?_)
        · skip
          refine g_iconst F dX7_isLoose_28 ?_
          refine g_istore_n F ([(1, iv (0)), (0, .ref (m 0)), (2, iv (((c : Nat) : Int)))]) rfl rfl (by decide) dX7_isLoose_29 ?_
          refine g_iinc F 2 rfl ([(2, iv ((((c : Nat) : Int)) + 1)), (1, iv (0)), (0, .ref (m 0))]) rfl (by decide) dX7_isLoose_30 ?_
          refine g_goto F (tgt := 4) dX7_isLoose_33 (by decide) ?_
          refine g_lsub ([(0, .ref (m 0)), (1, iv (0)), (2, iv ((((c : Nat) : Int)) + 1))]) [2, 1, 0] rfl ?_
          exact ih4 (c + 1) 0 (by omega) (by first | exact Or.inl rfl | exact Or.inr rfl) (by rw [fz_s, ← hx]; have e9 : outB m_lo m_hi m_pl m_pu c = false ↔ inBP m_lo m_hi m_pl m_pu c := (by unfold outB; rw [decide_eq_false_iff_not, Decidable.not_not]); rw [e9]; first | exact ⟨fun _ => ⟨by omega, by assumption⟩, fun _ => rfl⟩ | exact ⟨fun z => absurd z (by decide), fun z => absurd z.2 (by assumption)⟩ | exact ⟨fun z => absurd z (by decide), fun z => absurd z.1 (by omega)⟩) (by omega)
        · skip
          refine g_aload_n F 0 rfl rfl dX7_isLoose_16 ?_
          refine g_iload_n F 2 rfl rfl dX7_isLoose_17 ?_
          refine g_callRV F hV (As := [iv (((c : Nat) : Int))]) (rest := []) (kX7_isWithin l D cA m m_nc m_nr m_ke m_so m_bu m_bc m_pu m_qu m_fs m_cd m_un m_hb m_pf m_ef m_kd m_lo m_hi m_co m_pa m_rk m_nu m_ct m_sa m_pl m_pr c (by omega) (hpl) (hpb) (qlo) (qhi)) (cwV 1 F.2.2.2.2.1 gX7_isLoose_X7_isWithin rfl rfl rfl (by decide +kernel) ⟨Nat.le_of_ble_eq_true rfl, Nat.le_of_ble_eq_true rfl⟩) rfl rfl (q0 := 0) rfl [0, 1, 2, 3, 4, 5, 6, 7, 8, 9, 10, 11] rfl rfl rfl (Nat.le_of_ble_eq_true rfl) ⟨Nat.le_of_ble_eq_true rfl, Nat.le_of_ble_eq_true rfl⟩ dX7_isLoose_18 (fun v hv => ?_)
          subst hv
          refine g_eq (st' := [iv (if inBP m_lo m_hi m_pl m_pu c then 1 else 0)]) rfl rfl rfl ?_
          refine g_ifb_eq F (tgt := 28) dX7_isLoose_21 (by decide) (fun c_6 => ?_) (fun c_6 => ?_)
          · skip
            refine g_iconst F dX7_isLoose_28 ?_
            refine g_istore_n F ([(1, iv (0)), (0, .ref (m 0)), (2, iv (((c : Nat) : Int)))]) rfl rfl (by decide) dX7_isLoose_29 ?_
            refine g_iinc F 2 rfl ([(2, iv ((((c : Nat) : Int)) + 1)), (1, iv (0)), (0, .ref (m 0))]) rfl (by decide) dX7_isLoose_30 ?_
            refine g_goto F (tgt := 4) dX7_isLoose_33 (by decide) ?_
            refine g_lsub ([(0, .ref (m 0)), (1, iv (0)), (2, iv ((((c : Nat) : Int)) + 1))]) [2, 1, 0] rfl ?_
            exact ih4 (c + 1) 0 (by omega) (by first | exact Or.inl rfl | exact Or.inr rfl) (by rw [fz_s, ← hx]; have e9 : outB m_lo m_hi m_pl m_pu c = false ↔ inBP m_lo m_hi m_pl m_pu c := (by unfold outB; rw [decide_eq_false_iff_not, Decidable.not_not]); rw [e9]; first | exact ⟨fun _ => ⟨by omega, by assumption⟩, fun _ => rfl⟩ | exact ⟨fun z => absurd z (by decide), fun z => absurd z.2 (by assumption)⟩ | exact ⟨fun z => absurd z (by decide), fun z => absurd z.1 (by omega)⟩) (by omega)
          · skip
            refine g_iconst F dX7_isLoose_24 ?_
            refine g_goto F (tgt := 29) dX7_isLoose_25 (by decide) ?_
            refine g_istore_n F ([(1, iv (1)), (0, .ref (m 0)), (2, iv (((c : Nat) : Int)))]) rfl rfl (by decide) dX7_isLoose_29 ?_
            refine g_iinc F 2 rfl ([(2, iv ((((c : Nat) : Int)) + 1)), (1, iv (1)), (0, .ref (m 0))]) rfl (by decide) dX7_isLoose_30 ?_
            refine g_goto F (tgt := 4) dX7_isLoose_33 (by decide) ?_
            refine g_lsub ([(0, .ref (m 0)), (1, iv (1)), (2, iv ((((c : Nat) : Int)) + 1))]) [2, 1, 0] rfl ?_
            exact ih4 (c + 1) 1 (by omega) (by first | exact Or.inl rfl | exact Or.inr rfl) (by rw [fz_s, ← hx]; have e9 : outB m_lo m_hi m_pl m_pu c = false ↔ inBP m_lo m_hi m_pl m_pu c := (by unfold outB; rw [decide_eq_false_iff_not, Decidable.not_not]); rw [e9]; first | exact ⟨fun _ => ⟨by omega, by assumption⟩, fun _ => rfl⟩ | exact ⟨fun z => absurd z (by decide), fun z => absurd z.2 (by assumption)⟩ | exact ⟨fun z => absurd z (by decide), fun z => absurd z.1 (by omega)⟩) (by omega)
  refine g_lsub ([(0, .ref (m 0)), (1, iv (1)), (2, iv (0))]) [2, 1, 0] rfl ?_
  exact lp4 (_ + 1) 0 1 (by omega) (Or.inr rfl) (⟨fun _ => by show (-1 : Int) < 0; decide, fun _ => rfl⟩) (Nat.lt_succ_self _)

set_option maxHeartbeats 4000000 in
set_option maxRecDepth 100000 in
theorem kX7_areSigns (l : Launch) (D : va_G) (cA : Nat → ClassId) (m : Nat → Nat) (m_nc : Nat) (m_nr : Nat) (m_ke : Int) (m_so : Int) (m_bu : Int) (m_bc : Int) (m_pu : Int) (m_qu : Int) (m_fs : Int) (m_cd : Int) (m_un : Int) (m_hb : Int) (m_pf : Int) (m_ef : Int) (m_kd : Nat → Int) (m_lo : Nat → Int) (m_hi : Nat → Int) (m_co : Nat → Int) (m_pa : Nat → Int) (m_rk : Nat → Int) (m_nu : Nat → Int) (m_ct : Nat → Int) (m_sa : Nat → Int) (m_pl : Nat → Int) (m_pr : Nat → Int) (qnr : m_nr ≤ 7) (hpr : ∀ j, -1000000 ≤ m_pr j ∧ m_pr j ≤ 1000000) (qrk : ∀ j, 0 ≤ m_rk j ∧ m_rk j ≤ 2) (qct : ∀ j, 0 ≤ m_ct j ∧ m_ct j ≤ 1) : CR l yX7_areSigns wsX7_areSigns ({ frames := 0, cells := 0, slots := 0, locals := 0 }) D cA [.ref (m 0)] (wMO cA m (((m_nc : Nat) : Int)) (((m_nr : Nat) : Int)) (m_ke) (m_so) (m_bu) (m_bc) (m_pu) (m_qu) (m_fs) (m_cd) (m_un) (m_hb) (m_pf) (m_ef) ++ wMP cA m (m_kd) (m_lo) (m_hi) (m_co) (m_pa) (m_rk) (m_nu) (m_ct) (m_sa) ++ wMH cA m (m_pl) (m_pr)) (fun ov => ov = some (iv (if firstZ (wpB m_rk m_ct m_pr) m_nr < 0 then 1 else 0))) := by
  refine CR.mk (cc := cX7_areSigns) (maxL := 3) (ret := (some .boolean)) (by decide +kernel) rfl (Nat.le_of_ble_eq_true rfl) ?_
  intro p_ e_ s_ m_ b_ me_ c_ F
  have hV := @IR_P D s_
  have iX7 : ∀ w ∈ u_ws RX7 TX7 38, w ∈ wsX7_areSigns := by decide +kernel
  refine g_lsub ([(0, .ref (m 0))]) [0] rfl ?_
  refine g_iconst F dX7_areSigns_0 ?_
  refine g_istore_n F ([(1, iv (1)), (0, .ref (m 0))]) rfl rfl (by decide) dX7_areSigns_1 ?_
  refine g_iconst F dX7_areSigns_2 ?_
  refine g_istore_n F ([(2, iv (0)), (1, iv (1)), (0, .ref (m 0))]) rfl rfl (by decide) dX7_areSigns_3 ?_
  have lp4 : ∀ (n : Nat) (r : Nat) (x : Int) (hr : r ≤ m_nr) (hx01 : x = 0 ∨ x = 1) (hx : x = 1 ↔ firstZ (wpB m_rk m_ct m_pr) r < 0), m_nr - r < n → GW p_ l e_ (headSpec wsX7_areSigns ({ frames := 0, cells := 0, slots := 0, locals := 0 })).room s_ m_ ([.ref (m 0)]).toArray b_ me_ c_ (MQ b_ (Qr (fun ov => ov = some (iv (if firstZ (wpB m_rk m_ct m_pr) m_nr < 0 then 1 else 0)))) ([.ref (m 0)]).toArray s_ 0 0 (fun _ => False)) (IR D s_) 3 0 0 (wMO cA m (((m_nc : Nat) : Int)) (((m_nr : Nat) : Int)) (m_ke) (m_so) (m_bu) (m_bc) (m_pu) (m_qu) (m_fs) (m_cd) (m_un) (m_hb) (m_pf) (m_ef) ++ wMP cA m (m_kd) (m_lo) (m_hi) (m_co) (m_pa) (m_rk) (m_nu) (m_ct) (m_sa) ++ wMH cA m (m_pl) (m_pr)) ([(0, .ref (m 0)), (1, iv (x)), (2, iv (((r : Nat) : Int)))]) [] 4 := by
    intro n; induction n with
    | zero => intro r x; intros; omega
    | succ n ih4 =>
      intro r x hr hx01 hx hmu4
      refine g_iload_n F 2 rfl rfl dX7_areSigns_4 ?_
      refine g_aload_n F 0 rfl rfl dX7_areSigns_5 ?_
      refine g_get F hV iX7 0 rfl rfl 6 (by decide) (List.mem_of_getElem? (i := 1) rfl) rfl dX7_areSigns_6 ?_
      refine g_icmp_ge F (tgt := 78) dX7_areSigns_9 (by decide) ⟨by omega, by omega⟩ ⟨by omega, by omega⟩ (fun c_1 => ?_) (fun c_1 => ?_)
      · skip
        refine g_iload_n F 1 rfl rfl dX7_areSigns_78 ?_
        exact g_zretR F rfl (nar_01 (by omega)) (congrArg (fun z => some (iv z)) (show (x : Int) = if firstZ (wpB m_rk m_ct m_pr) m_nr < 0 then 1 else 0 by rw [show r = m_nr by omega] at hx; rcases hx01 with z | z; (rw [z, if_neg (fun w => by have := hx.mpr w; omega)]); (rw [z, if_pos (hx.mp z)]))) dX7_areSigns_79
      · skip
        refine g_iload_n F 1 rfl rfl dX7_areSigns_12 ?_
        refine g_if_eq F (tgt := 70) dX7_areSigns_13 (by decide) ⟨by omega, by omega⟩ (fun c_2 => ?_) (fun c_2 => ?_)
        · skip
          refine g_iconst F dX7_areSigns_70 ?_
          refine g_istore_n F ([(1, iv (0)), (0, .ref (m 0)), (2, iv (((r : Nat) : Int)))]) rfl rfl (by decide) dX7_areSigns_71 ?_
          refine g_iinc F 2 rfl ([(2, iv ((((r : Nat) : Int)) + 1)), (1, iv (0)), (0, .ref (m 0))]) rfl (by decide) dX7_areSigns_72 ?_
          refine g_goto F (tgt := 4) dX7_areSigns_75 (by decide) ?_
          refine g_lsub ([(0, .ref (m 0)), (1, iv (0)), (2, iv ((((r : Nat) : Int)) + 1))]) [2, 1, 0] rfl ?_
          exact ih4 (r + 1) 0 (by omega) (by first | exact Or.inl rfl | exact Or.inr rfl) (by rw [fz_s, ← hx]; have e9 : wpB m_rk m_ct m_pr r = false ↔ ¬ (m_ct r = 1 ∧ ((0 < m_pr r ∧ m_rk r = 0) ∨ (m_pr r < 0 ∧ m_rk r = 1))) := (by unfold wpB; rw [decide_eq_false_iff_not]); rw [e9]; omega) (by omega)
        · skip
          refine g_aload_n F 0 rfl rfl dX7_areSigns_16 ?_
          refine g_get F hV iX7 0 rfl rfl 9 (by decide) (List.mem_of_getElem? (i := 2) rfl) rfl dX7_areSigns_17 ?_
          refine g_iload_n F 2 rfl rfl dX7_areSigns_20 ?_
          have r_3 := qct (r)
          refine g_zald F hV 8 rfl (r) (by omega) (by omega) (by decide) dX7_areSigns_21 ?_
          refine g_if_eq F (tgt := 66) dX7_areSigns_22 (by decide) ⟨by omega, by omega⟩ (fun c_4 => ?_) (fun c_4 => ?_)
          · skip
            refine g_iconst F dX7_areSigns_66 ?_
            refine g_goto F (tgt := 71) dX7_areSigns_67 (by decide) ?_
            refine g_istore_n F ([(1, iv (1)), (0, .ref (m 0)), (2, iv (((r : Nat) : Int)))]) rfl rfl (by decide) dX7_areSigns_71 ?_
            refine g_iinc F 2 rfl ([(2, iv ((((r : Nat) : Int)) + 1)), (1, iv (1)), (0, .ref (m 0))]) rfl (by decide) dX7_areSigns_72 ?_
            refine g_goto F (tgt := 4) dX7_areSigns_75 (by decide) ?_
            refine g_lsub ([(0, .ref (m 0)), (1, iv (1)), (2, iv ((((r : Nat) : Int)) + 1))]) [2, 1, 0] rfl ?_
            exact ih4 (r + 1) 1 (by omega) (by first | exact Or.inl rfl | exact Or.inr rfl) (by rw [fz_s, ← hx]; have e9 : wpB m_rk m_ct m_pr r = false ↔ ¬ (m_ct r = 1 ∧ ((0 < m_pr r ∧ m_rk r = 0) ∨ (m_pr r < 0 ∧ m_rk r = 1))) := (by unfold wpB; rw [decide_eq_false_iff_not]); rw [e9]; omega) (by omega)
          · skip
            refine g_aload_n F 0 rfl rfl dX7_areSigns_25 ?_
            refine g_get F hV iX7 0 rfl rfl 18 (by decide) (List.mem_of_getElem? (i := 3) rfl) rfl dX7_areSigns_26 ?_
            refine g_iload_n F 2 rfl rfl dX7_areSigns_29 ?_
            have r_5 := hpr (r)
            refine g_lald F hV 11 rfl (r) (by omega) (by omega) (by decide) dX7_areSigns_30 ?_
            refine g_lconst F (z := 0) dX7_areSigns_31 (by decide) ?_
            refine g_lcmp_le F (tgt := 45) dX7_areSigns_32 dX7_areSigns_33 (by decide) ⟨by omega, by omega⟩ ⟨by decide, by decide⟩ (fun c_6 => ?_) (fun c_6 => ?_)
            · skip
              refine g_aload_n F 0 rfl rfl dX7_areSigns_45 ?_
              refine g_get F hV iX7 0 rfl rfl 18 (by decide) (List.mem_of_getElem? (i := 3) rfl) rfl dX7_areSigns_46 ?_
              refine g_iload_n F 2 rfl rfl dX7_areSigns_49 ?_
              have r_7 := hpr (r)
              refine g_lald F hV 11 rfl (r) (by omega) (by omega) (by decide) dX7_areSigns_50 ?_
              refine g_lconst F (z := 0) dX7_areSigns_51 (by decide) ?_
              refine g_lcmp_ge F (tgt := 66) dX7_areSigns_52 dX7_areSigns_53 (by decide) ⟨by omega, by omega⟩ ⟨by decide, by decide⟩ (fun c_8 => ?_) (fun c_8 => ?_)
              · skip
                refine g_iconst F dX7_areSigns_66 ?_
                refine g_goto F (tgt := 71) dX7_areSigns_67 (by decide) ?_
                refine g_istore_n F ([(1, iv (1)), (0, .ref (m 0)), (2, iv (((r : Nat) : Int)))]) rfl rfl (by decide) dX7_areSigns_71 ?_
                refine g_iinc F 2 rfl ([(2, iv ((((r : Nat) : Int)) + 1)), (1, iv (1)), (0, .ref (m 0))]) rfl (by decide) dX7_areSigns_72 ?_
                refine g_goto F (tgt := 4) dX7_areSigns_75 (by decide) ?_
                refine g_lsub ([(0, .ref (m 0)), (1, iv (1)), (2, iv ((((r : Nat) : Int)) + 1))]) [2, 1, 0] rfl ?_
                exact ih4 (r + 1) 1 (by omega) (by first | exact Or.inl rfl | exact Or.inr rfl) (by rw [fz_s, ← hx]; have e9 : wpB m_rk m_ct m_pr r = false ↔ ¬ (m_ct r = 1 ∧ ((0 < m_pr r ∧ m_rk r = 0) ∨ (m_pr r < 0 ∧ m_rk r = 1))) := (by unfold wpB; rw [decide_eq_false_iff_not]); rw [e9]; omega) (by omega)
              · skip
                refine g_aload_n F 0 rfl rfl dX7_areSigns_56 ?_
                refine g_get F hV iX7 0 rfl rfl 7 (by decide) (List.mem_of_getElem? (i := 4) rfl) rfl dX7_areSigns_57 ?_
                refine g_iload_n F 2 rfl rfl dX7_areSigns_60 ?_
                have r_9 := qrk (r)
                refine g_iald F hV 6 rfl (r) (by omega) (by omega) (by decide) dX7_areSigns_61 ?_
                refine g_iconst F dX7_areSigns_62 ?_
                refine g_icmp_eq F (tgt := 70) dX7_areSigns_63 (by decide) ⟨by omega, by omega⟩ ⟨by decide, by decide⟩ (fun c_10 => ?_) (fun c_10 => ?_)
                · skip
                  refine g_iconst F dX7_areSigns_70 ?_
                  refine g_istore_n F ([(1, iv (0)), (0, .ref (m 0)), (2, iv (((r : Nat) : Int)))]) rfl rfl (by decide) dX7_areSigns_71 ?_
                  refine g_iinc F 2 rfl ([(2, iv ((((r : Nat) : Int)) + 1)), (1, iv (0)), (0, .ref (m 0))]) rfl (by decide) dX7_areSigns_72 ?_
                  refine g_goto F (tgt := 4) dX7_areSigns_75 (by decide) ?_
                  refine g_lsub ([(0, .ref (m 0)), (1, iv (0)), (2, iv ((((r : Nat) : Int)) + 1))]) [2, 1, 0] rfl ?_
                  exact ih4 (r + 1) 0 (by omega) (by first | exact Or.inl rfl | exact Or.inr rfl) (by rw [fz_s, ← hx]; have e9 : wpB m_rk m_ct m_pr r = false ↔ ¬ (m_ct r = 1 ∧ ((0 < m_pr r ∧ m_rk r = 0) ∨ (m_pr r < 0 ∧ m_rk r = 1))) := (by unfold wpB; rw [decide_eq_false_iff_not]); rw [e9]; omega) (by omega)
                · skip
                  refine g_iconst F dX7_areSigns_66 ?_
                  refine g_goto F (tgt := 71) dX7_areSigns_67 (by decide) ?_
                  refine g_istore_n F ([(1, iv (1)), (0, .ref (m 0)), (2, iv (((r : Nat) : Int)))]) rfl rfl (by decide) dX7_areSigns_71 ?_
                  refine g_iinc F 2 rfl ([(2, iv ((((r : Nat) : Int)) + 1)), (1, iv (1)), (0, .ref (m 0))]) rfl (by decide) dX7_areSigns_72 ?_
                  refine g_goto F (tgt := 4) dX7_areSigns_75 (by decide) ?_
                  refine g_lsub ([(0, .ref (m 0)), (1, iv (1)), (2, iv ((((r : Nat) : Int)) + 1))]) [2, 1, 0] rfl ?_
                  exact ih4 (r + 1) 1 (by omega) (by first | exact Or.inl rfl | exact Or.inr rfl) (by rw [fz_s, ← hx]; have e9 : wpB m_rk m_ct m_pr r = false ↔ ¬ (m_ct r = 1 ∧ ((0 < m_pr r ∧ m_rk r = 0) ∨ (m_pr r < 0 ∧ m_rk r = 1))) := (by unfold wpB; rw [decide_eq_false_iff_not]); rw [e9]; omega) (by omega)
            · skip
              refine g_aload_n F 0 rfl rfl dX7_areSigns_36 ?_
              refine g_get F hV iX7 0 rfl rfl 7 (by decide) (List.mem_of_getElem? (i := 4) rfl) rfl dX7_areSigns_37 ?_
              refine g_iload_n F 2 rfl rfl dX7_areSigns_40 ?_
              have r_11 := qrk (r)
              refine g_iald F hV 6 rfl (r) (by omega) (by omega) (by decide) dX7_areSigns_41 ?_
              refine g_if_eq F (tgt := 70) dX7_areSigns_42 (by decide) ⟨by omega, by omega⟩ (fun c_12 => ?_) (fun c_12 => ?_)
              · skip
                refine g_iconst F dX7_areSigns_70 ?_
                refine g_istore_n F ([(1, iv (0)), (0, .ref (m 0)), (2, iv (((r : Nat) : Int)))]) rfl rfl (by decide) dX7_areSigns_71 ?_
                refine g_iinc F 2 rfl ([(2, iv ((((r : Nat) : Int)) + 1)), (1, iv (0)), (0, .ref (m 0))]) rfl (by decide) dX7_areSigns_72 ?_
                refine g_goto F (tgt := 4) dX7_areSigns_75 (by decide) ?_
                refine g_lsub ([(0, .ref (m 0)), (1, iv (0)), (2, iv ((((r : Nat) : Int)) + 1))]) [2, 1, 0] rfl ?_
                exact ih4 (r + 1) 0 (by omega) (by first | exact Or.inl rfl | exact Or.inr rfl) (by rw [fz_s, ← hx]; have e9 : wpB m_rk m_ct m_pr r = false ↔ ¬ (m_ct r = 1 ∧ ((0 < m_pr r ∧ m_rk r = 0) ∨ (m_pr r < 0 ∧ m_rk r = 1))) := (by unfold wpB; rw [decide_eq_false_iff_not]); rw [e9]; omega) (by omega)
              · skip
                refine g_aload_n F 0 rfl rfl dX7_areSigns_45 ?_
                refine g_get F hV iX7 0 rfl rfl 18 (by decide) (List.mem_of_getElem? (i := 3) rfl) rfl dX7_areSigns_46 ?_
                refine g_iload_n F 2 rfl rfl dX7_areSigns_49 ?_
                have r_13 := hpr (r)
                refine g_lald F hV 11 rfl (r) (by omega) (by omega) (by decide) dX7_areSigns_50 ?_
                refine g_lconst F (z := 0) dX7_areSigns_51 (by decide) ?_
                refine g_lcmp_ge F (tgt := 66) dX7_areSigns_52 dX7_areSigns_53 (by decide) ⟨by omega, by omega⟩ ⟨by decide, by decide⟩ (fun c_14 => ?_) (fun c_14 => ?_)
                · skip
                  refine g_iconst F dX7_areSigns_66 ?_
                  refine g_goto F (tgt := 71) dX7_areSigns_67 (by decide) ?_
                  refine g_istore_n F ([(1, iv (1)), (0, .ref (m 0)), (2, iv (((r : Nat) : Int)))]) rfl rfl (by decide) dX7_areSigns_71 ?_
                  refine g_iinc F 2 rfl ([(2, iv ((((r : Nat) : Int)) + 1)), (1, iv (1)), (0, .ref (m 0))]) rfl (by decide) dX7_areSigns_72 ?_
                  refine g_goto F (tgt := 4) dX7_areSigns_75 (by decide) ?_
                  refine g_lsub ([(0, .ref (m 0)), (1, iv (1)), (2, iv ((((r : Nat) : Int)) + 1))]) [2, 1, 0] rfl ?_
                  exact ih4 (r + 1) 1 (by omega) (by first | exact Or.inl rfl | exact Or.inr rfl) (by rw [fz_s, ← hx]; have e9 : wpB m_rk m_ct m_pr r = false ↔ ¬ (m_ct r = 1 ∧ ((0 < m_pr r ∧ m_rk r = 0) ∨ (m_pr r < 0 ∧ m_rk r = 1))) := (by unfold wpB; rw [decide_eq_false_iff_not]); rw [e9]; omega) (by omega)
                · skip
                  refine g_aload_n F 0 rfl rfl dX7_areSigns_56 ?_
                  refine g_get F hV iX7 0 rfl rfl 7 (by decide) (List.mem_of_getElem? (i := 4) rfl) rfl dX7_areSigns_57 ?_
                  refine g_iload_n F 2 rfl rfl dX7_areSigns_60 ?_
                  have r_15 := qrk (r)
                  refine g_iald F hV 6 rfl (r) (by omega) (by omega) (by decide) dX7_areSigns_61 ?_
                  refine g_iconst F dX7_areSigns_62 ?_
                  refine g_icmp_eq F (tgt := 70) dX7_areSigns_63 (by decide) ⟨by omega, by omega⟩ ⟨by decide, by decide⟩ (fun c_16 => ?_) (fun c_16 => ?_)
                  · skip
                    refine g_iconst F dX7_areSigns_70 ?_
                    refine g_istore_n F ([(1, iv (0)), (0, .ref (m 0)), (2, iv (((r : Nat) : Int)))]) rfl rfl (by decide) dX7_areSigns_71 ?_
                    refine g_iinc F 2 rfl ([(2, iv ((((r : Nat) : Int)) + 1)), (1, iv (0)), (0, .ref (m 0))]) rfl (by decide) dX7_areSigns_72 ?_
                    refine g_goto F (tgt := 4) dX7_areSigns_75 (by decide) ?_
                    refine g_lsub ([(0, .ref (m 0)), (1, iv (0)), (2, iv ((((r : Nat) : Int)) + 1))]) [2, 1, 0] rfl ?_
                    exact ih4 (r + 1) 0 (by omega) (by first | exact Or.inl rfl | exact Or.inr rfl) (by rw [fz_s, ← hx]; have e9 : wpB m_rk m_ct m_pr r = false ↔ ¬ (m_ct r = 1 ∧ ((0 < m_pr r ∧ m_rk r = 0) ∨ (m_pr r < 0 ∧ m_rk r = 1))) := (by unfold wpB; rw [decide_eq_false_iff_not]); rw [e9]; omega) (by omega)
                  · skip
                    refine g_iconst F dX7_areSigns_66 ?_
                    refine g_goto F (tgt := 71) dX7_areSigns_67 (by decide) ?_
                    refine g_istore_n F ([(1, iv (1)), (0, .ref (m 0)), (2, iv (((r : Nat) : Int)))]) rfl rfl (by decide) dX7_areSigns_71 ?_
                    refine g_iinc F 2 rfl ([(2, iv ((((r : Nat) : Int)) + 1)), (1, iv (1)), (0, .ref (m 0))]) rfl (by decide) dX7_areSigns_72 ?_
                    refine g_goto F (tgt := 4) dX7_areSigns_75 (by decide) ?_
                    refine g_lsub ([(0, .ref (m 0)), (1, iv (1)), (2, iv ((((r : Nat) : Int)) + 1))]) [2, 1, 0] rfl ?_
                    exact ih4 (r + 1) 1 (by omega) (by first | exact Or.inl rfl | exact Or.inr rfl) (by rw [fz_s, ← hx]; have e9 : wpB m_rk m_ct m_pr r = false ↔ ¬ (m_ct r = 1 ∧ ((0 < m_pr r ∧ m_rk r = 0) ∨ (m_pr r < 0 ∧ m_rk r = 1))) := (by unfold wpB; rw [decide_eq_false_iff_not]); rw [e9]; omega) (by omega)
  refine g_lsub ([(0, .ref (m 0)), (1, iv (1)), (2, iv (0))]) [2, 1, 0] rfl ?_
  exact lp4 (_ + 1) 0 1 (by omega) (Or.inr rfl) (⟨fun _ => by show (-1 : Int) < 0; decide, fun _ => rfl⟩) (Nat.lt_succ_self _)

set_option maxHeartbeats 4000000 in
set_option maxRecDepth 100000 in
theorem kX7_isLeftWell (l : Launch) (D : va_G) (cA : Nat → ClassId) (m : Nat → Nat) (m_nc : Nat) (m_nr : Nat) (m_ke : Int) (m_so : Int) (m_bu : Int) (m_bc : Int) (m_pu : Int) (m_qu : Int) (m_fs : Int) (m_cd : Int) (m_un : Int) (m_hb : Int) (m_pf : Int) (m_ef : Int) (m_kd : Nat → Int) (m_lo : Nat → Int) (m_hi : Nat → Int) (m_co : Nat → Int) (m_pa : Nat → Int) (m_rk : Nat → Int) (m_nu : Nat → Int) (m_ct : Nat → Int) (m_sa : Nat → Int) (m_pl : Nat → Int) (m_pr : Nat → Int) (c : Nat) (hc : c < 5) (qnr : m_nr ≤ 7) (hpl : ∀ j, -200000000000 ≤ m_pl j ∧ m_pl j ≤ 200000000000) (hpb : 0 < m_pu ∧ m_pu ≤ 8000000) (hpr : ∀ j, -1000000 ≤ m_pr j ∧ m_pr j ≤ 1000000) (hqb : 1 ≤ m_qu ∧ m_qu ≤ 1000000) (qlo : ∀ j, -20 ≤ m_lo j ∧ m_lo j ≤ 20) (qhi : ∀ j, m_hi j = -2000000005 ∨ (-20 ≤ m_hi j ∧ m_hi j ≤ 20)) (qco : ∀ j, -9 ≤ m_co j ∧ m_co j ≤ 9) (qsa : ∀ j, -9 ≤ m_sa j ∧ m_sa j ≤ 9) (qct : ∀ j, 0 ≤ m_ct j ∧ m_ct j ≤ 1) : CR l yX7_isLeftWell wsX7_isLeftWell ({ frames := 1, cells := 0, slots := 0, locals := 21 }) D cA [.ref (m 0), iv (((c : Nat) : Int))] (wMO cA m (((m_nc : Nat) : Int)) (((m_nr : Nat) : Int)) (m_ke) (m_so) (m_bu) (m_bc) (m_pu) (m_qu) (m_fs) (m_cd) (m_un) (m_hb) (m_pf) (m_ef) ++ wMP cA m (m_kd) (m_lo) (m_hi) (m_co) (m_pa) (m_rk) (m_nu) (m_ct) (m_sa) ++ wMH cA m (m_pl) (m_pr)) (fun ov => ov = some (iv (if ¬ ((leftZ m_co m_ct m_sa m_pr m_qu c m_nr < 0 ∧ ¬ (¬ m_hi c = -2000000005 ∧ m_pl c = m_hi c * m_pu)) ∨ (0 < leftZ m_co m_ct m_sa m_pr m_qu c m_nr ∧ ¬ m_pl c = m_lo c * m_pu)) then 1 else 0))) := by
  refine CR.mk (cc := cX7_isLeftWell) (maxL := 5) (ret := (some .boolean)) (by decide +kernel) rfl (Nat.le_of_ble_eq_true rfl) ?_
  intro p_ e_ s_ m_ b_ me_ c_ F
  have hV := @IR_P D s_
  have iX7 : ∀ w ∈ u_ws RX7 TX7 38, w ∈ wsX7_isLeftWell := by decide +kernel
  refine g_lsub ([(0, .ref (m 0)), (1, iv (((c : Nat) : Int)))]) [0, 1] rfl ?_
  refine g_aload_n F 0 rfl rfl dX7_isLeftWell_0 ?_
  refine g_get F hV iX7 0 rfl rfl 4 (by decide) (List.mem_of_getElem? (i := 1) rfl) rfl dX7_isLeftWell_1 ?_
  refine g_iload_n F 1 rfl rfl dX7_isLeftWell_4 ?_
  have r_1 := qco (c)
  refine g_iald F hV 4 rfl (c) (by omega) (by omega) (by decide) dX7_isLeftWell_5 ?_
  refine g_i2l F ⟨by omega, by omega⟩ dX7_isLeftWell_6 ?_
  refine g_aload_n F 0 rfl rfl dX7_isLeftWell_7 ?_
  refine g_get F hV iX7 0 rfl rfl 19 (by decide) (List.mem_of_getElem? (i := 2) rfl) rfl dX7_isLeftWell_8 ?_
  refine g_lmul F dX7_isLeftWell_11 ?_
  refine g_lstore_n F ([(2, jv ((m_co c) * m_qu)), (0, .ref (m 0)), (1, iv (((c : Nat) : Int)))]) rfl rfl (by decide) dX7_isLeftWell_12 ?_
  refine g_iconst F dX7_isLeftWell_13 ?_
  refine g_istore F ([(4, iv (0)), (2, jv ((m_co c) * m_qu)), (0, .ref (m 0)), (1, iv (((c : Nat) : Int)))]) rfl (by decide) dX7_isLeftWell_14 ?_
  have lp16 : ∀ (n : Nat) (r : Nat) (x : Int) (hr : r ≤ m_nr) (hx : x = leftZ m_co m_ct m_sa m_pr m_qu c r), m_nr - r < n → GW p_ l e_ (headSpec wsX7_isLeftWell ({ frames := 1, cells := 0, slots := 0, locals := 21 })).room s_ m_ ([.ref (m 0), iv (((c : Nat) : Int))]).toArray b_ me_ c_ (MQ b_ (Qr (fun ov => ov = some (iv (if ¬ ((leftZ m_co m_ct m_sa m_pr m_qu c m_nr < 0 ∧ ¬ (¬ m_hi c = -2000000005 ∧ m_pl c = m_hi c * m_pu)) ∨ (0 < leftZ m_co m_ct m_sa m_pr m_qu c m_nr ∧ ¬ m_pl c = m_lo c * m_pu)) then 1 else 0)))) ([.ref (m 0), iv (((c : Nat) : Int))]).toArray s_ 0 0 (fun _ => False)) (IR D s_) 5 0 0 (wMO cA m (((m_nc : Nat) : Int)) (((m_nr : Nat) : Int)) (m_ke) (m_so) (m_bu) (m_bc) (m_pu) (m_qu) (m_fs) (m_cd) (m_un) (m_hb) (m_pf) (m_ef) ++ wMP cA m (m_kd) (m_lo) (m_hi) (m_co) (m_pa) (m_rk) (m_nu) (m_ct) (m_sa) ++ wMH cA m (m_pl) (m_pr)) ([(0, .ref (m 0)), (1, iv (((c : Nat) : Int))), (2, jv (x)), (4, iv (((r : Nat) : Int)))]) [] 16 := by
    intro n; induction n with
    | zero => intro r x; intros; omega
    | succ n ih16 =>
      intro r x hr hx hmu16
      refine g_iload F 3 rfl dX7_isLeftWell_16 ?_
      refine g_aload_n F 0 rfl rfl dX7_isLeftWell_18 ?_
      refine g_get F hV iX7 0 rfl rfl 6 (by decide) (List.mem_of_getElem? (i := 3) rfl) rfl dX7_isLeftWell_19 ?_
      refine g_icmp_ge F (tgt := 68) dX7_isLeftWell_22 (by decide) ⟨by omega, by omega⟩ ⟨by omega, by omega⟩ (fun c_2 => ?_) (fun c_2 => ?_)
      · skip
        have hxe : x = leftZ m_co m_ct m_sa m_pr m_qu c m_nr := by rw [hx, show r = m_nr by omega]
        have hxi : I64 x := by rw [hxe]; exact leftZ_in qnr qco qsa hpr hqb
        refine g_lload_n F 2 rfl rfl dX7_isLeftWell_68 ?_
        refine g_lconst F (z := 0) dX7_isLeftWell_69 (by decide) ?_
        refine g_lcmp_ge F (tgt := 82) dX7_isLeftWell_70 dX7_isLeftWell_71 (by decide) hxi ⟨by decide, by decide⟩ (fun c_3 => ?_) (fun c_3 => ?_)
        · skip
          refine g_lload_n F 2 rfl rfl dX7_isLeftWell_82 ?_
          refine g_lconst F (z := 0) dX7_isLeftWell_83 (by decide) ?_
          refine g_lcmp_le F (tgt := 96) dX7_isLeftWell_84 dX7_isLeftWell_85 (by decide) hxi ⟨by decide, by decide⟩ (fun c_4 => ?_) (fun c_4 => ?_)
          · skip
            refine g_iconst F dX7_isLeftWell_96 ?_
            refine g_goto F (tgt := 101) dX7_isLeftWell_97 (by decide) ?_
            exact g_zretR F rfl (nar_01 (Or.inr rfl)) (congrArg (fun z => some (iv z)) (show (1 : Int) = if ¬ ((leftZ m_co m_ct m_sa m_pr m_qu c m_nr < 0 ∧ ¬ (¬ m_hi c = -2000000005 ∧ m_pl c = m_hi c * m_pu)) ∨ (0 < leftZ m_co m_ct m_sa m_pr m_qu c m_nr ∧ ¬ m_pl c = m_lo c * m_pu)) then 1 else 0 by rw [← hxe]; first | (rw [if_pos (by omega)]; done) | (rw [if_neg (by omega)]; done))) dX7_isLeftWell_101
          · skip
            refine g_aload_n F 0 rfl rfl dX7_isLeftWell_88 ?_
            refine g_iload_n F 1 rfl rfl dX7_isLeftWell_89 ?_
            refine g_callRV F hV (As := [iv (((c : Nat) : Int))]) (rest := []) (kX7_isLow l D cA m m_nc m_nr m_ke m_so m_bu m_bc m_pu m_qu m_fs m_cd m_un m_hb m_pf m_ef m_kd m_lo m_hi m_co m_pa m_rk m_nu m_ct m_sa m_pl m_pr c (by omega) (hpl) (hpb) (qlo)) (cwV 1 F.2.2.2.2.1 gX7_isLeftWell_X7_isLow rfl rfl rfl (by decide +kernel) ⟨Nat.le_of_ble_eq_true rfl, Nat.le_of_ble_eq_true rfl⟩) rfl rfl (q0 := 0) rfl [0, 1, 2, 3, 4, 5, 6, 7, 8, 9, 10, 11] rfl rfl rfl (Nat.le_of_ble_eq_true rfl) ⟨Nat.le_of_ble_eq_true rfl, Nat.le_of_ble_eq_true rfl⟩ dX7_isLeftWell_90 (fun v hv => ?_)
            subst hv
            refine g_eq (st' := [iv (if m_pl c = m_lo c * m_pu then 1 else 0)]) rfl rfl rfl ?_
            refine g_ifb_eq F (tgt := 100) dX7_isLeftWell_93 (by decide) (fun c_5 => ?_) (fun c_5 => ?_)
            · skip
              refine g_iconst F dX7_isLeftWell_100 ?_
              exact g_zretR F rfl (nar_01 (Or.inl rfl)) (congrArg (fun z => some (iv z)) (show (0 : Int) = if ¬ ((leftZ m_co m_ct m_sa m_pr m_qu c m_nr < 0 ∧ ¬ (¬ m_hi c = -2000000005 ∧ m_pl c = m_hi c * m_pu)) ∨ (0 < leftZ m_co m_ct m_sa m_pr m_qu c m_nr ∧ ¬ m_pl c = m_lo c * m_pu)) then 1 else 0 by rw [← hxe]; first | (rw [if_pos (by omega)]; done) | (rw [if_neg (by omega)]; done))) dX7_isLeftWell_101
            · skip
              refine g_iconst F dX7_isLeftWell_96 ?_
              refine g_goto F (tgt := 101) dX7_isLeftWell_97 (by decide) ?_
              exact g_zretR F rfl (nar_01 (Or.inr rfl)) (congrArg (fun z => some (iv z)) (show (1 : Int) = if ¬ ((leftZ m_co m_ct m_sa m_pr m_qu c m_nr < 0 ∧ ¬ (¬ m_hi c = -2000000005 ∧ m_pl c = m_hi c * m_pu)) ∨ (0 < leftZ m_co m_ct m_sa m_pr m_qu c m_nr ∧ ¬ m_pl c = m_lo c * m_pu)) then 1 else 0 by rw [← hxe]; first | (rw [if_pos (by omega)]; done) | (rw [if_neg (by omega)]; done))) dX7_isLeftWell_101
        · skip
          refine g_aload_n F 0 rfl rfl dX7_isLeftWell_74 ?_
          refine g_iload_n F 1 rfl rfl dX7_isLeftWell_75 ?_
          refine g_callRV F hV (As := [iv (((c : Nat) : Int))]) (rest := []) (kX7_isHigh l D cA m m_nc m_nr m_ke m_so m_bu m_bc m_pu m_qu m_fs m_cd m_un m_hb m_pf m_ef m_kd m_lo m_hi m_co m_pa m_rk m_nu m_ct m_sa m_pl m_pr c (by omega) (hpl) (hpb) (qhi)) (cwV 1 F.2.2.2.2.1 gX7_isLeftWell_X7_isHigh rfl rfl rfl (by decide +kernel) ⟨Nat.le_of_ble_eq_true rfl, Nat.le_of_ble_eq_true rfl⟩) rfl rfl (q0 := 0) rfl [0, 1, 2, 3, 4, 5, 6, 7, 8, 9, 10, 11] rfl rfl rfl (Nat.le_of_ble_eq_true rfl) ⟨Nat.le_of_ble_eq_true rfl, Nat.le_of_ble_eq_true rfl⟩ dX7_isLeftWell_76 (fun v hv => ?_)
          subst hv
          refine g_eq (st' := [iv (if ¬ m_hi c = -2000000005 ∧ m_pl c = m_hi c * m_pu then 1 else 0)]) rfl rfl rfl ?_
          refine g_ifb_eq F (tgt := 100) dX7_isLeftWell_79 (by decide) (fun c_6 => ?_) (fun c_6 => ?_)
          · skip
            refine g_iconst F dX7_isLeftWell_100 ?_
            exact g_zretR F rfl (nar_01 (Or.inl rfl)) (congrArg (fun z => some (iv z)) (show (0 : Int) = if ¬ ((leftZ m_co m_ct m_sa m_pr m_qu c m_nr < 0 ∧ ¬ (¬ m_hi c = -2000000005 ∧ m_pl c = m_hi c * m_pu)) ∨ (0 < leftZ m_co m_ct m_sa m_pr m_qu c m_nr ∧ ¬ m_pl c = m_lo c * m_pu)) then 1 else 0 by rw [← hxe]; first | (rw [if_pos (by omega)]; done) | (rw [if_neg (by omega)]; done))) dX7_isLeftWell_101
          · skip
            refine g_lload_n F 2 rfl rfl dX7_isLeftWell_82 ?_
            refine g_lconst F (z := 0) dX7_isLeftWell_83 (by decide) ?_
            refine g_lcmp_le F (tgt := 96) dX7_isLeftWell_84 dX7_isLeftWell_85 (by decide) hxi ⟨by decide, by decide⟩ (fun c_7 => ?_) (fun c_7 => ?_)
            · skip
              refine g_iconst F dX7_isLeftWell_96 ?_
              refine g_goto F (tgt := 101) dX7_isLeftWell_97 (by decide) ?_
              exact g_zretR F rfl (nar_01 (Or.inr rfl)) (congrArg (fun z => some (iv z)) (show (1 : Int) = if ¬ ((leftZ m_co m_ct m_sa m_pr m_qu c m_nr < 0 ∧ ¬ (¬ m_hi c = -2000000005 ∧ m_pl c = m_hi c * m_pu)) ∨ (0 < leftZ m_co m_ct m_sa m_pr m_qu c m_nr ∧ ¬ m_pl c = m_lo c * m_pu)) then 1 else 0 by rw [← hxe]; first | (rw [if_pos (by omega)]; done) | (rw [if_neg (by omega)]; done))) dX7_isLeftWell_101
            · skip
              refine g_aload_n F 0 rfl rfl dX7_isLeftWell_88 ?_
              refine g_iload_n F 1 rfl rfl dX7_isLeftWell_89 ?_
              refine g_callRV F hV (As := [iv (((c : Nat) : Int))]) (rest := []) (kX7_isLow l D cA m m_nc m_nr m_ke m_so m_bu m_bc m_pu m_qu m_fs m_cd m_un m_hb m_pf m_ef m_kd m_lo m_hi m_co m_pa m_rk m_nu m_ct m_sa m_pl m_pr c (by omega) (hpl) (hpb) (qlo)) (cwV 1 F.2.2.2.2.1 gX7_isLeftWell_X7_isLow rfl rfl rfl (by decide +kernel) ⟨Nat.le_of_ble_eq_true rfl, Nat.le_of_ble_eq_true rfl⟩) rfl rfl (q0 := 0) rfl [0, 1, 2, 3, 4, 5, 6, 7, 8, 9, 10, 11] rfl rfl rfl (Nat.le_of_ble_eq_true rfl) ⟨Nat.le_of_ble_eq_true rfl, Nat.le_of_ble_eq_true rfl⟩ dX7_isLeftWell_90 (fun v hv => ?_)
              subst hv
              refine g_eq (st' := [iv (if m_pl c = m_lo c * m_pu then 1 else 0)]) rfl rfl rfl ?_
              refine g_ifb_eq F (tgt := 100) dX7_isLeftWell_93 (by decide) (fun c_8 => ?_) (fun c_8 => ?_)
              · skip
                refine g_iconst F dX7_isLeftWell_100 ?_
                exact g_zretR F rfl (nar_01 (Or.inl rfl)) (congrArg (fun z => some (iv z)) (show (0 : Int) = if ¬ ((leftZ m_co m_ct m_sa m_pr m_qu c m_nr < 0 ∧ ¬ (¬ m_hi c = -2000000005 ∧ m_pl c = m_hi c * m_pu)) ∨ (0 < leftZ m_co m_ct m_sa m_pr m_qu c m_nr ∧ ¬ m_pl c = m_lo c * m_pu)) then 1 else 0 by rw [← hxe]; first | (rw [if_pos (by omega)]; done) | (rw [if_neg (by omega)]; done))) dX7_isLeftWell_101
              · skip
                refine g_iconst F dX7_isLeftWell_96 ?_
                refine g_goto F (tgt := 101) dX7_isLeftWell_97 (by decide) ?_
                exact g_zretR F rfl (nar_01 (Or.inr rfl)) (congrArg (fun z => some (iv z)) (show (1 : Int) = if ¬ ((leftZ m_co m_ct m_sa m_pr m_qu c m_nr < 0 ∧ ¬ (¬ m_hi c = -2000000005 ∧ m_pl c = m_hi c * m_pu)) ∨ (0 < leftZ m_co m_ct m_sa m_pr m_qu c m_nr ∧ ¬ m_pl c = m_lo c * m_pu)) then 1 else 0 by rw [← hxe]; first | (rw [if_pos (by omega)]; done) | (rw [if_neg (by omega)]; done))) dX7_isLeftWell_101
      · skip
        refine g_lload_n F 2 rfl rfl dX7_isLeftWell_25 ?_
        refine g_aload_n F 0 rfl rfl dX7_isLeftWell_26 ?_
        refine g_get F hV iX7 0 rfl rfl 9 (by decide) (List.mem_of_getElem? (i := 4) rfl) rfl dX7_isLeftWell_27 ?_
        refine g_iload F 3 rfl dX7_isLeftWell_30 ?_
        have r_9 := qct (r)
        refine g_zald F hV 8 rfl (r) (by omega) (by omega) (by decide) dX7_isLeftWell_32 ?_
        refine g_if_eq F (tgt := 59) dX7_isLeftWell_33 (by decide) ⟨by omega, by omega⟩ (fun c_10 => ?_) (fun c_10 => ?_)
        · skip
          refine g_lconst F (z := 0) dX7_isLeftWell_59 (by decide) ?_
          refine g_lsub2 F dX7_isLeftWell_60 ?_
          refine g_lstore_n F ([(2, jv (x - 0)), (0, .ref (m 0)), (1, iv (((c : Nat) : Int))), (4, iv (((r : Nat) : Int)))]) rfl rfl (by decide) dX7_isLeftWell_61 ?_
          refine g_iinc F 3 rfl ([(4, iv ((((r : Nat) : Int)) + 1)), (2, jv (x - 0)), (0, .ref (m 0)), (1, iv (((c : Nat) : Int)))]) rfl (by decide) dX7_isLeftWell_62 ?_
          refine g_goto F (tgt := 16) dX7_isLeftWell_65 (by decide) ?_
          refine g_lsub ([(0, .ref (m 0)), (1, iv (((c : Nat) : Int))), (2, jv (x - 0)), (4, iv ((((r : Nat) : Int)) + 1))]) [2, 3, 1, 0] rfl ?_
          exact ih16 (r + 1) (x - 0) (by omega) (by rw [hx]; unfold leftZ; show _ = m_co c * m_qu - (sumZ _ r + _); simp only []; first | (rw [if_pos (by omega)]; omega) | (rw [if_neg (by omega)]; omega)) (by omega)
        · skip
          refine g_aload_n F 0 rfl rfl dX7_isLeftWell_36 ?_
          refine g_get F hV iX7 0 rfl rfl 10 (by decide) (List.mem_of_getElem? (i := 5) rfl) rfl dX7_isLeftWell_37 ?_
          refine g_iconst F dX7_isLeftWell_40 ?_
          refine g_iload F 3 rfl dX7_isLeftWell_41 ?_
          refine g_imul F dX7_isLeftWell_43 ?_
          refine g_iload_n F 1 rfl rfl dX7_isLeftWell_44 ?_
          refine g_iadd F dX7_isLeftWell_45 ?_
          have r_11 := qsa (r * 5 + c)
          refine g_iald F hV 9 rfl (r * 5 + c) (by omega) (by omega) (by decide) dX7_isLeftWell_46 ?_
          refine g_i2l F ⟨by omega, by omega⟩ dX7_isLeftWell_47 ?_
          refine g_aload_n F 0 rfl rfl dX7_isLeftWell_48 ?_
          refine g_get F hV iX7 0 rfl rfl 18 (by decide) (List.mem_of_getElem? (i := 6) rfl) rfl dX7_isLeftWell_49 ?_
          refine g_iload F 3 rfl dX7_isLeftWell_52 ?_
          have r_12 := hpr (r)
          refine g_lald F hV 11 rfl (r) (by omega) (by omega) (by decide) dX7_isLeftWell_54 ?_
          refine g_lmul F dX7_isLeftWell_55 ?_
          refine g_goto F (tgt := 60) dX7_isLeftWell_56 (by decide) ?_
          refine g_lsub2 F dX7_isLeftWell_60 ?_
          refine g_lstore_n F ([(2, jv (x - ((m_sa (r * 5 + c)) * (m_pr r)))), (0, .ref (m 0)), (1, iv (((c : Nat) : Int))), (4, iv (((r : Nat) : Int)))]) rfl rfl (by decide) dX7_isLeftWell_61 ?_
          refine g_iinc F 3 rfl ([(4, iv ((((r : Nat) : Int)) + 1)), (2, jv (x - ((m_sa (r * 5 + c)) * (m_pr r)))), (0, .ref (m 0)), (1, iv (((c : Nat) : Int)))]) rfl (by decide) dX7_isLeftWell_62 ?_
          refine g_goto F (tgt := 16) dX7_isLeftWell_65 (by decide) ?_
          refine g_lsub ([(0, .ref (m 0)), (1, iv (((c : Nat) : Int))), (2, jv (x - ((m_sa (r * 5 + c)) * (m_pr r)))), (4, iv ((((r : Nat) : Int)) + 1))]) [2, 3, 1, 0] rfl ?_
          exact ih16 (r + 1) (x - ((m_sa (r * 5 + c)) * (m_pr r))) (by omega) (by rw [hx]; unfold leftZ; show _ = m_co c * m_qu - (sumZ _ r + _); simp only []; first | (rw [if_pos (by omega)]; omega) | (rw [if_neg (by omega)]; omega)) (by omega)
  refine g_lsub ([(0, .ref (m 0)), (1, iv (((c : Nat) : Int))), (2, jv ((m_co c) * m_qu)), (4, iv (0))]) [2, 3, 1, 0] rfl ?_
  exact lp16 (_ + 1) 0 ((m_co c) * m_qu) (by omega) (by unfold leftZ; exact (Int.sub_zero _).symm) (Nat.lt_succ_self _)

set_option maxHeartbeats 4000000 in
set_option maxRecDepth 100000 in
theorem kX7_shows (l : Launch) (D : va_G) (cA : Nat → ClassId) (m : Nat → Nat) (m_nc : Nat) (m_nr : Nat) (m_ke : Int) (m_so : Int) (m_bu : Int) (m_bc : Int) (m_pu : Int) (m_qu : Int) (m_fs : Int) (m_cd : Int) (m_un : Int) (m_hb : Int) (m_pf : Int) (m_ef : Int) (m_kd : Nat → Int) (m_lo : Nat → Int) (m_hi : Nat → Int) (m_co : Nat → Int) (m_pa : Nat → Int) (m_rk : Nat → Int) (m_nu : Nat → Int) (m_ct : Nat → Int) (m_sa : Nat → Int) (m_pl : Nat → Int) (m_pr : Nat → Int) (qnc : m_nc ≤ 5) (qnr : m_nr ≤ 7) (hpl : ∀ j, -200000000000 ≤ m_pl j ∧ m_pl j ≤ 200000000000) (hpb : 0 < m_pu ∧ m_pu ≤ 8000000) (qsa : ∀ j, -9 ≤ m_sa j ∧ m_sa j ≤ 9) (qnu : ∀ j, -198 ≤ m_nu j ∧ m_nu j ≤ 198) (qrk : ∀ j, 0 ≤ m_rk j ∧ m_rk j ≤ 2) (qct : ∀ j, 0 ≤ m_ct j ∧ m_ct j ≤ 1) (qlo : ∀ j, -20 ≤ m_lo j ∧ m_lo j ≤ 20) (qhi : ∀ j, m_hi j = -2000000005 ∨ (-20 ≤ m_hi j ∧ m_hi j ≤ 20)) (hpr : ∀ j, -1000000 ≤ m_pr j ∧ m_pr j ≤ 1000000) (hqb : 1 ≤ m_qu ∧ m_qu ≤ 1000000) (qco : ∀ j, -9 ≤ m_co j ∧ m_co j ≤ 9) : CR l yX7_shows wsX7_shows ({ frames := 3, cells := 0, slots := 0, locals := 71 }) D cA [.ref (m 0)] (wMO cA m (((m_nc : Nat) : Int)) (((m_nr : Nat) : Int)) (m_ke) (m_so) (m_bu) (m_bc) (m_pu) (m_qu) (m_fs) (m_cd) (m_un) (m_hb) (m_pf) (m_ef) ++ wMP cA m (m_kd) (m_lo) (m_hi) (m_co) (m_pa) (m_rk) (m_nu) (m_ct) (m_sa) ++ wMH cA m (m_pl) (m_pr)) (fun ov => ov = some (iv (if ¬ (firstZ (outB m_lo m_hi m_pl m_pu) m_nc < 0 ∧ firstZ (brkB m_rk m_nu m_ct m_sa m_pl m_pu m_nc) m_nr < 0) then 1 else if 0 ≤ firstZ (wpB m_rk m_ct m_pr) m_nr then 2 else if 0 ≤ firstZ (wrB m_lo m_hi m_co m_ct m_sa m_pr m_pl m_qu m_pu m_nr) m_nc then 3 else if 0 ≤ firstZ (idB m_nu m_ct m_sa m_pr m_pl m_pu m_nc) m_nr then 4 else 0))) := by
  refine CR.mk (cc := cX7_shows) (maxL := 2) (ret := (some .int)) (by decide +kernel) rfl (Nat.le_of_ble_eq_true rfl) ?_
  intro p_ e_ s_ m_ b_ me_ c_ F
  have hV := @IR_P D s_
  have iX7 : ∀ w ∈ u_ws RX7 TX7 38, w ∈ wsX7_shows := by decide +kernel
  refine g_lsub ([(0, .ref (m 0))]) [0] rfl ?_
  refine g_aload_n F 0 rfl rfl dX7_shows_0 ?_
  refine g_callRV F hV (As := []) (rest := []) (kX7_isLoose l D cA m m_nc m_nr m_ke m_so m_bu m_bc m_pu m_qu m_fs m_cd m_un m_hb m_pf m_ef m_kd m_lo m_hi m_co m_pa m_rk m_nu m_ct m_sa m_pl m_pr (qnc) (qnr) (hpl) (hpb) (qsa) (qnu) (qrk) (qct) (qlo) (qhi)) (cwV 0 F.2.2.2.2.1 gX7_shows_X7_isLoose rfl rfl rfl (by decide +kernel) ⟨Nat.le_of_ble_eq_true rfl, Nat.le_of_ble_eq_true rfl⟩) rfl rfl (q0 := 0) rfl [0, 1, 2, 3, 4, 5, 6, 7, 8, 9, 10, 11] rfl rfl rfl (Nat.le_of_ble_eq_true rfl) ⟨Nat.le_of_ble_eq_true rfl, Nat.le_of_ble_eq_true rfl⟩ dX7_shows_1 (fun v hv => ?_)
  subst hv
  refine g_eq (st' := [iv (if firstZ (outB m_lo m_hi m_pl m_pu) m_nc < 0 ∧ firstZ (brkB m_rk m_nu m_ct m_sa m_pl m_pu m_nc) m_nr < 0 then 1 else 0)]) rfl rfl rfl ?_
  refine g_ifb_ne F (tgt := 9) dX7_shows_4 (by decide) (fun c_1 => ?_) (fun c_1 => ?_)
  · skip
    refine g_aload_n F 0 rfl rfl dX7_shows_9 ?_
    refine g_callRV F hV (As := []) (rest := []) (kX7_areSigns l D cA m m_nc m_nr m_ke m_so m_bu m_bc m_pu m_qu m_fs m_cd m_un m_hb m_pf m_ef m_kd m_lo m_hi m_co m_pa m_rk m_nu m_ct m_sa m_pl m_pr (qnr) (hpr) (qrk) (qct)) (cwV 0 F.2.2.2.2.1 gX7_shows_X7_areSigns rfl rfl rfl (by decide +kernel) ⟨Nat.le_of_ble_eq_true rfl, Nat.le_of_ble_eq_true rfl⟩) rfl rfl (q0 := 0) rfl [0, 1, 2, 3, 4, 5, 6, 7, 8, 9, 10, 11] rfl rfl rfl (Nat.le_of_ble_eq_true rfl) ⟨Nat.le_of_ble_eq_true rfl, Nat.le_of_ble_eq_true rfl⟩ dX7_shows_10 (fun v hv => ?_)
    subst hv
    refine g_eq (st' := [iv (if firstZ (wpB m_rk m_ct m_pr) m_nr < 0 then 1 else 0)]) rfl rfl rfl ?_
    refine g_ifb_ne F (tgt := 18) dX7_shows_13 (by decide) (fun c_2 => ?_) (fun c_2 => ?_)
    · skip
      refine g_iconst F dX7_shows_18 ?_
      refine g_istore_n F ([(1, iv (0)), (0, .ref (m 0))]) rfl rfl (by decide) dX7_shows_19 ?_
      have lp20 : ∀ (n : Nat) (c : Nat) (hc : c ≤ m_nc) (hj : ∀ j, j < c → wrB m_lo m_hi m_co m_ct m_sa m_pr m_pl m_qu m_pu m_nr j = false), m_nc - c < n → GW p_ l e_ (headSpec wsX7_shows ({ frames := 3, cells := 0, slots := 0, locals := 71 })).room s_ m_ ([.ref (m 0)]).toArray b_ me_ c_ (MQ b_ (Qr (fun ov => ov = some (iv (if ¬ (firstZ (outB m_lo m_hi m_pl m_pu) m_nc < 0 ∧ firstZ (brkB m_rk m_nu m_ct m_sa m_pl m_pu m_nc) m_nr < 0) then 1 else if 0 ≤ firstZ (wpB m_rk m_ct m_pr) m_nr then 2 else if 0 ≤ firstZ (wrB m_lo m_hi m_co m_ct m_sa m_pr m_pl m_qu m_pu m_nr) m_nc then 3 else if 0 ≤ firstZ (idB m_nu m_ct m_sa m_pr m_pl m_pu m_nc) m_nr then 4 else 0)))) ([.ref (m 0)]).toArray s_ 0 0 (fun _ => False)) (IR D s_) 2 0 0 (wMO cA m (((m_nc : Nat) : Int)) (((m_nr : Nat) : Int)) (m_ke) (m_so) (m_bu) (m_bc) (m_pu) (m_qu) (m_fs) (m_cd) (m_un) (m_hb) (m_pf) (m_ef) ++ wMP cA m (m_kd) (m_lo) (m_hi) (m_co) (m_pa) (m_rk) (m_nu) (m_ct) (m_sa) ++ wMH cA m (m_pl) (m_pr)) ([(0, .ref (m 0)), (1, iv (((c : Nat) : Int)))]) [] 20 := by
        intro n; induction n with
        | zero => intro c; intros; omega
        | succ n ih20 =>
          intro c hc hj hmu20
          refine g_iload_n F 1 rfl rfl dX7_shows_20 ?_
          refine g_aload_n F 0 rfl rfl dX7_shows_21 ?_
          refine g_get F hV iX7 0 rfl rfl 0 (by decide) (List.mem_of_getElem? (i := 1) rfl) rfl dX7_shows_22 ?_
          refine g_icmp_ge F (tgt := 44) dX7_shows_25 (by decide) ⟨by omega, by omega⟩ ⟨by omega, by omega⟩ (fun c_3 => ?_) (fun c_3 => ?_)
          · skip
            refine g_iconst F dX7_shows_44 ?_
            refine g_istore_n F ([(1, iv (0)), (0, .ref (m 0))]) rfl rfl (by decide) dX7_shows_45 ?_
            have lp46 : ∀ (n : Nat) (r : Nat) (hr : r ≤ m_nr) (hk : ∀ j, j < r → idB m_nu m_ct m_sa m_pr m_pl m_pu m_nc j = false), m_nr - r < n → GW p_ l e_ (headSpec wsX7_shows ({ frames := 3, cells := 0, slots := 0, locals := 71 })).room s_ m_ ([.ref (m 0)]).toArray b_ me_ c_ (MQ b_ (Qr (fun ov => ov = some (iv (if ¬ (firstZ (outB m_lo m_hi m_pl m_pu) m_nc < 0 ∧ firstZ (brkB m_rk m_nu m_ct m_sa m_pl m_pu m_nc) m_nr < 0) then 1 else if 0 ≤ firstZ (wpB m_rk m_ct m_pr) m_nr then 2 else if 0 ≤ firstZ (wrB m_lo m_hi m_co m_ct m_sa m_pr m_pl m_qu m_pu m_nr) m_nc then 3 else if 0 ≤ firstZ (idB m_nu m_ct m_sa m_pr m_pl m_pu m_nc) m_nr then 4 else 0)))) ([.ref (m 0)]).toArray s_ 0 0 (fun _ => False)) (IR D s_) 2 0 0 (wMO cA m (((m_nc : Nat) : Int)) (((m_nr : Nat) : Int)) (m_ke) (m_so) (m_bu) (m_bc) (m_pu) (m_qu) (m_fs) (m_cd) (m_un) (m_hb) (m_pf) (m_ef) ++ wMP cA m (m_kd) (m_lo) (m_hi) (m_co) (m_pa) (m_rk) (m_nu) (m_ct) (m_sa) ++ wMH cA m (m_pl) (m_pr)) ([(0, .ref (m 0)), (1, iv (((r : Nat) : Int)))]) [] 46 := by
              intro n; induction n with
              | zero => intro r; intros; omega
              | succ n ih46 =>
                intro r hr hk hmu46
                have hn9 := qnu r
                have hsin := sum_in (f := fun j => m_sa (r * 5 + j) * m_pl j) qnc (fun j => by have h1 := qsa (r * 5 + j); have h2 := hpl j; exact Nat.le_trans (mul_nat (a := 9) (b := 200000000000) (by omega) (by omega)) (by decide))
                have hnb := mul_in (x := m_nu r) (y := m_pu) (a := 198) (b := 8000000) (by omega) (by omega) (by decide)
                refine g_iload_n F 1 rfl rfl dX7_shows_46 ?_
                refine g_aload_n F 0 rfl rfl dX7_shows_47 ?_
                refine g_get F hV iX7 0 rfl rfl 6 (by decide) (List.mem_of_getElem? (i := 2) rfl) rfl dX7_shows_48 ?_
                refine g_icmp_ge F (tgt := 103) dX7_shows_51 (by decide) ⟨by omega, by omega⟩ ⟨by omega, by omega⟩ (fun c_4 => ?_) (fun c_4 => ?_)
                · skip
                  refine g_iconst F dX7_shows_103 ?_
                  exact g_zretR F rfl rfl (congrArg (fun z => some (iv z)) (show (0 : Int) = if ¬ (firstZ (outB m_lo m_hi m_pl m_pu) m_nc < 0 ∧ firstZ (brkB m_rk m_nu m_ct m_sa m_pl m_pu m_nc) m_nr < 0) then 1 else if 0 ≤ firstZ (wpB m_rk m_ct m_pr) m_nr then 2 else if 0 ≤ firstZ (wrB m_lo m_hi m_co m_ct m_sa m_pr m_pl m_qu m_pu m_nr) m_nc then 3 else if 0 ≤ firstZ (idB m_nu m_ct m_sa m_pr m_pl m_pu m_nc) m_nr then 4 else 0 by rw [if_neg (fun z => absurd (by assumption) z), if_neg (by omega), firstZ_none (f := wrB m_lo m_hi m_co m_ct m_sa m_pr m_pl m_qu m_pu m_nr) (fun j w => hj j (by omega)), if_neg (by decide), firstZ_none (f := idB m_nu m_ct m_sa m_pr m_pl m_pu m_nc) (fun j w => hk j (by omega)), if_neg (by decide)])) dX7_shows_104
                · skip
                  refine g_aload_n F 0 rfl rfl dX7_shows_54 ?_
                  refine g_get F hV iX7 0 rfl rfl 9 (by decide) (List.mem_of_getElem? (i := 3) rfl) rfl dX7_shows_55 ?_
                  refine g_iload_n F 1 rfl rfl dX7_shows_58 ?_
                  have r_5 := qct (r)
                  refine g_zald F hV 8 rfl (r) (by omega) (by omega) (by decide) dX7_shows_59 ?_
                  refine g_if_eq F (tgt := 97) dX7_shows_60 (by decide) ⟨by omega, by omega⟩ (fun c_6 => ?_) (fun c_6 => ?_)
                  · skip
                    refine g_iinc F 1 rfl ([(1, iv ((((r : Nat) : Int)) + 1)), (0, .ref (m 0))]) rfl (by decide) dX7_shows_97 ?_
                    refine g_goto F (tgt := 46) dX7_shows_100 (by decide) ?_
                    refine g_lsub ([(0, .ref (m 0)), (1, iv ((((r : Nat) : Int)) + 1))]) [1, 0] rfl ?_
                    exact ih46 (r + 1) (by omega) (fun j w => by rcases (show j < r ∨ j = r by omega) with q | q; exact hk j q; (subst q; unfold idB; simp only [decide_eq_false_iff_not]; rintro ⟨q1, q2, q3⟩; unfold sumP at q3; omega)) (by omega)
                  · skip
                    refine g_aload_n F 0 rfl rfl dX7_shows_63 ?_
                    refine g_get F hV iX7 0 rfl rfl 18 (by decide) (List.mem_of_getElem? (i := 4) rfl) rfl dX7_shows_64 ?_
                    refine g_iload_n F 1 rfl rfl dX7_shows_67 ?_
                    have r_7 := hpr (r)
                    refine g_lald F hV 11 rfl (r) (by omega) (by omega) (by decide) dX7_shows_68 ?_
                    refine g_lconst F (z := 0) dX7_shows_69 (by decide) ?_
                    refine g_lcmp_eq F (tgt := 97) dX7_shows_70 dX7_shows_71 (by decide) ⟨by omega, by omega⟩ ⟨by decide, by decide⟩ (fun c_8 => ?_) (fun c_8 => ?_)
                    · skip
                      refine g_iinc F 1 rfl ([(1, iv ((((r : Nat) : Int)) + 1)), (0, .ref (m 0))]) rfl (by decide) dX7_shows_97 ?_
                      refine g_goto F (tgt := 46) dX7_shows_100 (by decide) ?_
                      refine g_lsub ([(0, .ref (m 0)), (1, iv ((((r : Nat) : Int)) + 1))]) [1, 0] rfl ?_
                      exact ih46 (r + 1) (by omega) (fun j w => by rcases (show j < r ∨ j = r by omega) with q | q; exact hk j q; (subst q; unfold idB; simp only [decide_eq_false_iff_not]; rintro ⟨q1, q2, q3⟩; unfold sumP at q3; omega)) (by omega)
                    · skip
                      refine g_aload_n F 0 rfl rfl dX7_shows_74 ?_
                      refine g_iload_n F 1 rfl rfl dX7_shows_75 ?_
                      refine g_callRV F hV (As := [iv (((r : Nat) : Int))]) (rest := []) (kX7_sumOf l D cA m m_nc m_nr m_ke m_so m_bu m_bc m_pu m_qu m_fs m_cd m_un m_hb m_pf m_ef m_kd m_lo m_hi m_co m_pa m_rk m_nu m_ct m_sa m_pl m_pr r (by omega) (qnc) (qsa)) (cwV 1 F.2.2.2.2.1 gX7_shows_X7_sumOf rfl rfl rfl (by decide +kernel) ⟨Nat.le_of_ble_eq_true rfl, Nat.le_of_ble_eq_true rfl⟩) rfl rfl (q0 := 0) rfl [0, 1, 2, 3, 4, 5, 6, 7, 8, 9, 10, 11] rfl rfl rfl (Nat.le_of_ble_eq_true rfl) ⟨Nat.le_of_ble_eq_true rfl, Nat.le_of_ble_eq_true rfl⟩ dX7_shows_76 (fun v hv => ?_)
                      subst hv
                      refine g_eq (st' := [jv (sumZ (fun j => m_sa (r * 5 + j) * m_pl j) m_nc)]) rfl rfl rfl ?_
                      refine g_aload_n F 0 rfl rfl dX7_shows_79 ?_
                      refine g_get F hV iX7 0 rfl rfl 8 (by decide) (List.mem_of_getElem? (i := 5) rfl) rfl dX7_shows_80 ?_
                      refine g_iload_n F 1 rfl rfl dX7_shows_83 ?_
                      have r_9 := qnu (r)
                      refine g_iald F hV 7 rfl (r) (by omega) (by omega) (by decide) dX7_shows_84 ?_
                      refine g_i2l F ⟨by omega, by omega⟩ dX7_shows_85 ?_
                      refine g_aload_n F 0 rfl rfl dX7_shows_86 ?_
                      refine g_get F hV iX7 0 rfl rfl 17 (by decide) (List.mem_of_getElem? (i := 6) rfl) rfl dX7_shows_87 ?_
                      refine g_lmul F dX7_shows_90 ?_
                      refine g_lcmp_eq F (tgt := 97) dX7_shows_91 dX7_shows_92 (by decide) (show I64 _ from hsin) (show I64 _ from hnb) (fun c_10 => ?_) (fun c_10 => ?_)
                      · skip
                        refine g_iinc F 1 rfl ([(1, iv ((((r : Nat) : Int)) + 1)), (0, .ref (m 0))]) rfl (by decide) dX7_shows_97 ?_
                        refine g_goto F (tgt := 46) dX7_shows_100 (by decide) ?_
                        refine g_lsub ([(0, .ref (m 0)), (1, iv ((((r : Nat) : Int)) + 1))]) [1, 0] rfl ?_
                        exact ih46 (r + 1) (by omega) (fun j w => by rcases (show j < r ∨ j = r by omega) with q | q; exact hk j q; (subst q; unfold idB; simp only [decide_eq_false_iff_not]; rintro ⟨q1, q2, q3⟩; unfold sumP at q3; omega)) (by omega)
                      · skip
                        refine g_iconst F dX7_shows_95 ?_
                        exact g_zretR F rfl rfl (congrArg (fun z => some (iv z)) (show (4 : Int) = if ¬ (firstZ (outB m_lo m_hi m_pl m_pu) m_nc < 0 ∧ firstZ (brkB m_rk m_nu m_ct m_sa m_pl m_pu m_nc) m_nr < 0) then 1 else if 0 ≤ firstZ (wpB m_rk m_ct m_pr) m_nr then 2 else if 0 ≤ firstZ (wrB m_lo m_hi m_co m_ct m_sa m_pr m_pl m_qu m_pu m_nr) m_nc then 3 else if 0 ≤ firstZ (idB m_nu m_ct m_sa m_pr m_pl m_pu m_nc) m_nr then 4 else 0 by rw [if_neg (fun z => absurd (by assumption) z), if_neg (by omega), firstZ_none (f := wrB m_lo m_hi m_co m_ct m_sa m_pr m_pl m_qu m_pu m_nr) (fun j w => hj j (by omega)), if_neg (by decide), firstZ_at (f := idB m_nu m_ct m_sa m_pr m_pl m_pu m_nc) (i := r) hk (by unfold idB; simp only [decide_eq_true_eq]; exact ⟨by omega, by omega, by unfold sumP; omega⟩) (by omega), if_pos (by omega)])) dX7_shows_96
            refine g_lsub ([(0, .ref (m 0)), (1, iv (0))]) [1, 0] rfl ?_
            exact lp46 (_ + 1) 0 (by omega) (fun j w => absurd w (Nat.not_lt_zero j)) (Nat.lt_succ_self _)
          · skip
            refine g_aload_n F 0 rfl rfl dX7_shows_28 ?_
            refine g_iload_n F 1 rfl rfl dX7_shows_29 ?_
            refine g_callRV F hV (As := [iv (((c : Nat) : Int))]) (rest := []) (kX7_isLeftWell l D cA m m_nc m_nr m_ke m_so m_bu m_bc m_pu m_qu m_fs m_cd m_un m_hb m_pf m_ef m_kd m_lo m_hi m_co m_pa m_rk m_nu m_ct m_sa m_pl m_pr c (by omega) (qnr) (hpl) (hpb) (hpr) (hqb) (qlo) (qhi) (qco) (qsa) (qct)) (cwV 1 F.2.2.2.2.1 gX7_shows_X7_isLeftWell rfl rfl rfl (by decide +kernel) ⟨Nat.le_of_ble_eq_true rfl, Nat.le_of_ble_eq_true rfl⟩) rfl rfl (q0 := 0) rfl [0, 1, 2, 3, 4, 5, 6, 7, 8, 9, 10, 11] rfl rfl rfl (Nat.le_of_ble_eq_true rfl) ⟨Nat.le_of_ble_eq_true rfl, Nat.le_of_ble_eq_true rfl⟩ dX7_shows_30 (fun v hv => ?_)
            subst hv
            refine g_eq (st' := [iv (if ¬ ((leftZ m_co m_ct m_sa m_pr m_qu c m_nr < 0 ∧ ¬ (¬ m_hi c = -2000000005 ∧ m_pl c = m_hi c * m_pu)) ∨ (0 < leftZ m_co m_ct m_sa m_pr m_qu c m_nr ∧ ¬ m_pl c = m_lo c * m_pu)) then 1 else 0)]) rfl rfl rfl ?_
            refine g_ifb_ne F (tgt := 38) dX7_shows_33 (by decide) (fun c_11 => ?_) (fun c_11 => ?_)
            · skip
              refine g_iinc F 1 rfl ([(1, iv ((((c : Nat) : Int)) + 1)), (0, .ref (m 0))]) rfl (by decide) dX7_shows_38 ?_
              refine g_goto F (tgt := 20) dX7_shows_41 (by decide) ?_
              refine g_lsub ([(0, .ref (m 0)), (1, iv ((((c : Nat) : Int)) + 1))]) [1, 0] rfl ?_
              exact ih20 (c + 1) (by omega) (fun j w => by rcases (show j < c ∨ j = c by omega) with q | q; exact hj j q; (subst q; unfold wrB; simp only [decide_eq_false_iff_not]; assumption)) (by omega)
            · skip
              refine g_iconst F dX7_shows_36 ?_
              exact g_zretR F rfl rfl (congrArg (fun z => some (iv z)) (show (3 : Int) = if ¬ (firstZ (outB m_lo m_hi m_pl m_pu) m_nc < 0 ∧ firstZ (brkB m_rk m_nu m_ct m_sa m_pl m_pu m_nc) m_nr < 0) then 1 else if 0 ≤ firstZ (wpB m_rk m_ct m_pr) m_nr then 2 else if 0 ≤ firstZ (wrB m_lo m_hi m_co m_ct m_sa m_pr m_pl m_qu m_pu m_nr) m_nc then 3 else if 0 ≤ firstZ (idB m_nu m_ct m_sa m_pr m_pl m_pu m_nc) m_nr then 4 else 0 by rw [if_neg (fun z => absurd (by assumption) z), if_neg (by omega), firstZ_at (f := wrB m_lo m_hi m_co m_ct m_sa m_pr m_pl m_qu m_pu m_nr) (i := c) hj (by unfold wrB; simp only [decide_eq_true_eq]; exact Decidable.of_not_not (by assumption)) (by omega), if_pos (by omega)])) dX7_shows_37
      refine g_lsub ([(0, .ref (m 0)), (1, iv (0))]) [1, 0] rfl ?_
      exact lp20 (_ + 1) 0 (by omega) (fun j w => absurd w (Nat.not_lt_zero j)) (Nat.lt_succ_self _)
    · skip
      refine g_iconst F dX7_shows_16 ?_
      exact g_zretR F rfl rfl (congrArg (fun z => some (iv z)) (show (2 : Int) = if ¬ (firstZ (outB m_lo m_hi m_pl m_pu) m_nc < 0 ∧ firstZ (brkB m_rk m_nu m_ct m_sa m_pl m_pu m_nc) m_nr < 0) then 1 else if 0 ≤ firstZ (wpB m_rk m_ct m_pr) m_nr then 2 else if 0 ≤ firstZ (wrB m_lo m_hi m_co m_ct m_sa m_pr m_pl m_qu m_pu m_nr) m_nc then 3 else if 0 ≤ firstZ (idB m_nu m_ct m_sa m_pr m_pl m_pu m_nc) m_nr then 4 else 0 by rw [if_neg (fun z => absurd (by assumption) z), if_pos (by omega)])) dX7_shows_17
  · skip
    refine g_iconst F dX7_shows_7 ?_
    exact g_zretR F rfl rfl (congrArg (fun z => some (iv z)) (show (1 : Int) = if ¬ (firstZ (outB m_lo m_hi m_pl m_pu) m_nc < 0 ∧ firstZ (brkB m_rk m_nu m_ct m_sa m_pl m_pu m_nc) m_nr < 0) then 1 else if 0 ≤ firstZ (wpB m_rk m_ct m_pr) m_nr then 2 else if 0 ≤ firstZ (wrB m_lo m_hi m_co m_ct m_sa m_pr m_pl m_qu m_pu m_nr) m_nc then 3 else if 0 ≤ firstZ (idB m_nu m_ct m_sa m_pr m_pl m_pu m_nc) m_nr then 4 else 0 by rw [if_pos (by assumption)])) dX7_shows_8
