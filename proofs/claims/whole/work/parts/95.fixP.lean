/-- partners looked at so far -/
def fpI (nc c : Nat) (kd pa lo hi f fx fv : Nat → Int) : Prop :=
  (∀ q, q < nc → (fx q = 0 ∨ fx q = 1) ∧ (fx q ≠ 0 ↔ (1 ≤ kd q ∨ ∃ c', c' < c ∧ kd c' = 2 ∧ pa c' = (q : Int) ∧ f c' = 0))) ∧
  (∀ q, q < nc → (1 ≤ kd q → fv q = f q) ∧ (kd q < 1 → fx q ≠ 0 → fv q = 0)) ∧
  (∀ q, q < nc → -20 ≤ fv q ∧ fv q ≤ 20) ∧
  ∀ c', c' < c → kd c' = 2 → ∀ p : Nat, pa c' = (p : Int) → p < nc → f c' = 0 → (1 ≤ kd p → f p = 0) ∧ (kd p < 1 → lo p ≤ 0 ∧ (hi p ≠ NONEz → 0 ≤ hi p))
theorem fp_skip {nc c : Nat} {kd pa lo hi f fx fv : Nat → Int} (h : fpI nc c kd pa lo hi f fx fv) (hn : ¬ (kd c = 2 ∧ (∃ p : Nat, pa c = (p : Int)) ∧ f c = 0)) : fpI nc (c + 1) kd pa lo hi f fx fv := by
  obtain ⟨h1, h2, h3, h4⟩ := h
  refine ⟨fun q hq => ⟨(h1 q hq).1, ⟨fun z => ?_, fun z => ?_⟩⟩, h2, h3, fun c' hc' hk p hp hpn hf => ?_⟩
  · rcases (h1 q hq).2.mp z with w | ⟨c', w1, w2⟩
    · exact Or.inl w
    · exact Or.inr ⟨c', by omega, w2⟩
  · refine (h1 q hq).2.mpr ?_
    rcases z with w | ⟨c', w1, w2, w3, w4⟩
    · exact Or.inl w
    · refine Or.inr ⟨c', ?_, w2, w3, w4⟩
      rcases (show c' < c ∨ c' = c by omega) with y | y
      · exact y
      · subst y; exact absurd ⟨w2, ⟨q, w3⟩, w4⟩ hn
  · rcases (show c' < c ∨ c' = c by omega) with y | y
    · exact h4 c' y hk p hp hpn hf
    · subst y; exact absurd ⟨hk, ⟨p, hp⟩, hf⟩ hn
theorem fp_whole {nc c p : Nat} {kd pa lo hi f fx fv : Nat → Int} (h : fpI nc c kd pa lo hi f fx fv) (hp : pa c = (p : Int)) (hpn : p < nc) (hk : 1 ≤ kd p) (hf : f p = 0) : fpI nc (c + 1) kd pa lo hi f fx fv := by
  obtain ⟨h1, h2, h3, h4⟩ := h
  refine ⟨fun q hq => ⟨(h1 q hq).1, ⟨fun z => ?_, fun z => ?_⟩⟩, h2, h3, fun c' hc' hk' p' hp' hpn' hf' => ?_⟩
  · rcases (h1 q hq).2.mp z with w | ⟨c', w1, w2⟩
    · exact Or.inl w
    · exact Or.inr ⟨c', by omega, w2⟩
  · refine (h1 q hq).2.mpr ?_
    rcases z with w | ⟨c', w1, w2, w3, w4⟩
    · exact Or.inl w
    · rcases (show c' < c ∨ c' = c by omega) with y | y
      · exact Or.inr ⟨c', y, w2, w3, w4⟩
      · subst y
        have e : p = q := by omega
        subst e; exact Or.inl hk
  · rcases (show c' < c ∨ c' = c by omega) with y | y
    · exact h4 c' y hk' p' hp' hpn' hf'
    · subst y
      have e : p = p' := by omega
      subst e
      exact ⟨fun _ => hf, fun z => by omega⟩
theorem fp_plain {nc c p : Nat} {kd pa lo hi f fx fv : Nat → Int} (h : fpI nc c kd pa lo hi f fx fv) (hkc : kd c = 2) (hfc : f c = 0) (hp : pa c = (p : Int)) (hpn : p < nc) (hk : ¬ 1 ≤ kd p) (hl : lo p ≤ 0 ∧ (hi p ≠ NONEz → 0 ≤ hi p)) : fpI nc (c + 1) kd pa lo hi f (va_up fx p 1) (va_up fv p 0) := by
  obtain ⟨h1, h2, h3, h4⟩ := h
  refine ⟨fun q hq => ?_, fun q hq => ?_, fun q hq => ?_, fun c' hc' hk' p' hp' hpn' hf' => ?_⟩
  · by_cases e : q = p
    · subst e
      rw [up_same]
      exact ⟨Or.inr rfl, ⟨fun _ => Or.inr ⟨c, by omega, hkc, hp, hfc⟩, fun _ => by decide⟩⟩
    · rw [up_ne e]
      refine ⟨(h1 q hq).1, ⟨fun z => ?_, fun z => ?_⟩⟩
      · rcases (h1 q hq).2.mp z with w | ⟨c', w1, w2⟩
        · exact Or.inl w
        · exact Or.inr ⟨c', by omega, w2⟩
      · refine (h1 q hq).2.mpr ?_
        rcases z with w | ⟨c', w1, w2, w3, w4⟩
        · exact Or.inl w
        · rcases (show c' < c ∨ c' = c by omega) with y | y
          · exact Or.inr ⟨c', y, w2, w3, w4⟩
          · subst y; exfalso; omega
  · by_cases e : q = p
    · subst e
      rw [up_same]
      exact ⟨fun z => absurd z hk, fun _ _ => rfl⟩
    · rw [up_ne e, up_ne e]; exact h2 q hq
  · by_cases e : q = p
    · subst e; rw [up_same]; decide
    · rw [up_ne e]; exact h3 q hq
  · rcases (show c' < c ∨ c' = c by omega) with y | y
    · exact h4 c' y hk' p' hp' hpn' hf'
    · subst y
      have e : p = p' := by omega
      subst e
      exact ⟨fun z => absurd z hk, fun _ => hl⟩
def fpE (nc : Nat) (kd pa lo hi f fx fv : Nat → Int) : Prop := pOkP nc kd pa lo hi f ∧ (∀ q, q < nc → (0 ≤ fx q ∧ fx q ≤ 1) ∧ fxB nc kd pa f q = bzF fx q) ∧ (∀ q, q < nc → bzF fx q = true → fvF kd f q = fv q) ∧ (∀ q, q < nc → (1 ≤ kd q → fv q = f q) ∧ -20 ≤ fv q ∧ fv q ≤ 20)
theorem fp_end {nc : Nat} {kd pa lo hi f fx fv : Nat → Int} (h : fpI nc nc kd pa lo hi f fx fv) : fpE nc kd pa lo hi f fx fv := by
  obtain ⟨h1, h2, h3, h4⟩ := h
  have hb : ∀ q, q < nc → fxB nc kd pa f q = bzF fx q := fun q hq => by
    rcases hx : fxB nc kd pa f q with _ | _
    · symm
      show decide (fx q ≠ 0) = false
      refine decide_eq_false (fun z => ?_)
      rcases (h1 q hq).2.mp z with w | ⟨c', w1, w2, w3, w4⟩
      · rw [fx_whole w] at hx; cases hx
      · rw [fx_part w1 w2 w3 w4] at hx; cases hx
    · symm
      show decide (fx q ≠ 0) = true
      exact decide_eq_true ((h1 q hq).2.mpr (fx_why hx))
  refine ⟨fun c hc hk p hp hpn hf => h4 c hc hk p hp hpn hf, fun q hq => ⟨by rcases (h1 q hq).1 with z | z <;> omega, hb q hq⟩, fun q hq hz => ?_, fun q hq => ⟨(h2 q hq).1, h3 q hq⟩⟩
  unfold fvF
  by_cases k : 1 ≤ kd q
  · rw [if_pos k, (h2 q hq).1 k]
  · rw [if_neg k]; exact ((h2 q hq).2 (by omega) (of_decide_eq_true hz)).symm
set_option maxHeartbeats 4000000 in
set_option maxRecDepth 100000 in
theorem kX7_fixWhole (l : Launch) (D : va_G) (cA : Nat → ClassId) (m : Nat → Nat) (m_nc : Nat) (m_nr : Nat) (m_ke : Int) (m_so : Int) (m_bu : Int) (m_bc : Int) (m_pu : Int) (m_qu : Int) (m_fs : Int) (m_cd : Int) (m_un : Int) (m_hb : Int) (m_pf : Int) (m_ef : Int) (m_kd : Nat → Int) (m_lo : Nat → Int) (m_hi : Nat → Int) (m_co : Nat → Int) (m_pa : Nat → Int) (m_rk : Nat → Int) (m_nu : Nat → Int) (m_ct : Nat → Int) (m_sa : Nat → Int) (m_fx : Nat → Int) (m_fv : Nat → Int) (m_sn : Nat → Int) (st : Prop) (dst : Decidable st) (qnc : m_nc ≤ 5) (qkd : ∀ j, 0 ≤ m_kd j ∧ m_kd j ≤ 2) : CT l yX7_fixWhole wsX7_fixWhole ({ frames := 0, cells := 0, slots := 0, locals := 0 }) D cA [.ref (m 0), iv (if st then 1 else 0)] (wMO cA m (((m_nc : Nat) : Int)) (((m_nr : Nat) : Int)) (m_ke) (m_so) (m_bu) (m_bc) (m_pu) (m_qu) (m_fs) (m_cd) (m_un) (m_hb) (m_pf) (m_ef) ++ wMP cA m (m_kd) (m_lo) (m_hi) (m_co) (m_pa) (m_rk) (m_nu) (m_ct) (m_sa) ++ wMX cA m (m_fx) (m_fv) (m_sn)) (fun ov ow => ov = none ∧ ow = wMO cA m (((m_nc : Nat) : Int)) (((m_nr : Nat) : Int)) (m_ke) (m_so) (m_bu) (m_bc) (m_pu) (m_qu) (m_fs) (m_cd) (m_un) (m_hb) (m_pf) (m_ef) ++ wMP cA m (m_kd) (m_lo) (m_hi) (m_co) (m_pa) (m_rk) (m_nu) (m_ct) (m_sa) ++ wMX cA m (mixZ (fun c => if st ∧ 1 ≤ m_kd c then 1 else 0) m_fx m_nc) (m_fv) (m_sn)) 0 0 := by
  refine CT.mk (cc := cX7_fixWhole) (maxL := 3) (ret := none) (by decide +kernel) rfl (Nat.le_of_ble_eq_true rfl) ?_
  intro p_ e_ s_ m_ b_ me_ c_ A F hnm hA
  have hV := @IM_P D s_ A
  have iX7 : ∀ w ∈ u_ws RX7 TX7 38, w ∈ wsX7_fixWhole := by decide +kernel
  refine g_lsub ([(0, .ref (m 0)), (1, iv (if st then 1 else 0))]) [0, 1] rfl ?_
  refine g_iconst F dX7_fixWhole_0 ?_
  refine g_istore_n F ([(2, iv (0)), (0, .ref (m 0)), (1, iv (if st then 1 else 0))]) rfl rfl (by decide) dX7_fixWhole_1 ?_
  have lp2 : ∀ (n : Nat) (c : Nat) (fa : Nat → Int) (hc : c ≤ m_nc) (hfa : fa = mixZ (fun c => if st ∧ 1 ≤ m_kd c then 1 else 0) m_fx c), m_nc - c < n → GW p_ l e_ (headSpec wsX7_fixWhole ({ frames := 0, cells := 0, slots := 0, locals := 0 })).room s_ m_ ([.ref (m 0), iv (if st then 1 else 0)]).toArray b_ me_ c_ (MQ b_ (Qm D (fun ov ow => ov = none ∧ ow = wMO cA m (((m_nc : Nat) : Int)) (((m_nr : Nat) : Int)) (m_ke) (m_so) (m_bu) (m_bc) (m_pu) (m_qu) (m_fs) (m_cd) (m_un) (m_hb) (m_pf) (m_ef) ++ wMP cA m (m_kd) (m_lo) (m_hi) (m_co) (m_pa) (m_rk) (m_nu) (m_ct) (m_sa) ++ wMX cA m (mixZ (fun c => if st ∧ 1 ≤ m_kd c then 1 else 0) m_fx m_nc) (m_fv) (m_sn)) A) ([.ref (m 0), iv (if st then 1 else 0)]).toArray s_ 0 0 A) (IM D s_ A) 3 0 0 (wMO cA m (((m_nc : Nat) : Int)) (((m_nr : Nat) : Int)) (m_ke) (m_so) (m_bu) (m_bc) (m_pu) (m_qu) (m_fs) (m_cd) (m_un) (m_hb) (m_pf) (m_ef) ++ wMP cA m (m_kd) (m_lo) (m_hi) (m_co) (m_pa) (m_rk) (m_nu) (m_ct) (m_sa) ++ wMX cA m (fa) (m_fv) (m_sn)) ([(0, .ref (m 0)), (1, iv (if st then 1 else 0)), (2, iv (((c : Nat) : Int)))]) [] 2 := by
    intro n; induction n with
    | zero => intro c fa; intros; omega
    | succ n ih2 =>
      intro c fa hc hfa hmu2
      refine g_iload_n F 2 rfl rfl dX7_fixWhole_2 ?_
      refine g_aload_n F 0 rfl rfl dX7_fixWhole_3 ?_
      refine g_get F hV iX7 0 rfl rfl 0 (by decide) (List.mem_of_getElem? (i := 1) rfl) rfl dX7_fixWhole_4 ?_
      refine g_icmp_ge F (tgt := 40) dX7_fixWhole_7 (by decide) ⟨by omega, by omega⟩ ⟨by omega, by omega⟩ (fun c_1 => ?_) (fun c_1 => ?_)
      · skip
        exact g_vret F rfl (by decide) (by decide) ⟨rfl, (by rw [hfa, show c = m_nc by omega])⟩ dX7_fixWhole_40
      · skip
        refine g_aload_n F 0 rfl rfl dX7_fixWhole_10 ?_
        refine g_get F hV iX7 0 rfl rfl 30 (by decide) (List.mem_of_getElem? (i := 2) rfl) rfl dX7_fixWhole_11 ?_
        refine g_iload_n F 2 rfl rfl dX7_fixWhole_14 ?_
        refine g_iload_n F 1 rfl rfl dX7_fixWhole_15 ?_
        refine g_ifb_eq F (tgt := 32) dX7_fixWhole_16 (by decide) (fun c_2 => ?_) (fun c_2 => ?_)
        · skip
          refine g_iconst F dX7_fixWhole_32 ?_
          refine g_zast F 10 rfl (c) (Or.inl rfl) (by omega) (by omega) (by decide) (wMO cA m (((m_nc : Nat) : Int)) (((m_nr : Nat) : Int)) (m_ke) (m_so) (m_bu) (m_bc) (m_pu) (m_qu) (m_fs) (m_cd) (m_un) (m_hb) (m_pf) (m_ef) ++ wMP cA m (m_kd) (m_lo) (m_hi) (m_co) (m_pa) (m_rk) (m_nu) (m_ct) (m_sa) ++ wMX cA m (va_up fa c 0) (m_fv) (m_sn)) rfl dX7_fixWhole_33 ?_
          refine g_iinc F 2 rfl ([(2, iv ((((c : Nat) : Int)) + 1)), (0, .ref (m 0)), (1, iv (if st then 1 else 0))]) rfl (by decide) dX7_fixWhole_34 ?_
          refine g_goto F (tgt := 2) dX7_fixWhole_37 (by decide) ?_
          refine g_lsub ([(0, .ref (m 0)), (1, iv (if st then 1 else 0)), (2, iv ((((c : Nat) : Int)) + 1))]) [1, 2, 0] rfl ?_
          exact ih2 (c + 1) (va_up fa c 0) (by omega) (by rw [hfa]; exact mix_up (by first | (rw [if_pos ⟨by assumption, by omega⟩]; done) | (rw [if_neg (fun z => absurd z.1 (by assumption))]; done) | (rw [if_neg (fun z => absurd z.2 (by omega))]; done))) (by omega)
        · skip
          refine g_aload_n F 0 rfl rfl dX7_fixWhole_19 ?_
          refine g_get F hV iX7 0 rfl rfl 1 (by decide) (List.mem_of_getElem? (i := 3) rfl) rfl dX7_fixWhole_20 ?_
          refine g_iload_n F 2 rfl rfl dX7_fixWhole_23 ?_
          have r_3 := qkd (c)
          refine g_iald F hV 1 rfl (c) (by omega) (by omega) (by decide) dX7_fixWhole_24 ?_
          refine g_if_le F (tgt := 32) dX7_fixWhole_25 (by decide) ⟨by omega, by omega⟩ (fun c_4 => ?_) (fun c_4 => ?_)
          · skip
            refine g_iconst F dX7_fixWhole_32 ?_
            refine g_zast F 10 rfl (c) (Or.inl rfl) (by omega) (by omega) (by decide) (wMO cA m (((m_nc : Nat) : Int)) (((m_nr : Nat) : Int)) (m_ke) (m_so) (m_bu) (m_bc) (m_pu) (m_qu) (m_fs) (m_cd) (m_un) (m_hb) (m_pf) (m_ef) ++ wMP cA m (m_kd) (m_lo) (m_hi) (m_co) (m_pa) (m_rk) (m_nu) (m_ct) (m_sa) ++ wMX cA m (va_up fa c 0) (m_fv) (m_sn)) rfl dX7_fixWhole_33 ?_
            refine g_iinc F 2 rfl ([(2, iv ((((c : Nat) : Int)) + 1)), (0, .ref (m 0)), (1, iv (if st then 1 else 0))]) rfl (by decide) dX7_fixWhole_34 ?_
            refine g_goto F (tgt := 2) dX7_fixWhole_37 (by decide) ?_
            refine g_lsub ([(0, .ref (m 0)), (1, iv (if st then 1 else 0)), (2, iv ((((c : Nat) : Int)) + 1))]) [1, 2, 0] rfl ?_
            exact ih2 (c + 1) (va_up fa c 0) (by omega) (by rw [hfa]; exact mix_up (by first | (rw [if_pos ⟨by assumption, by omega⟩]; done) | (rw [if_neg (fun z => absurd z.1 (by assumption))]; done) | (rw [if_neg (fun z => absurd z.2 (by omega))]; done))) (by omega)
          · skip
            refine g_iconst F dX7_fixWhole_28 ?_
            refine g_goto F (tgt := 33) dX7_fixWhole_29 (by decide) ?_
            refine g_zast F 10 rfl (c) (Or.inr rfl) (by omega) (by omega) (by decide) (wMO cA m (((m_nc : Nat) : Int)) (((m_nr : Nat) : Int)) (m_ke) (m_so) (m_bu) (m_bc) (m_pu) (m_qu) (m_fs) (m_cd) (m_un) (m_hb) (m_pf) (m_ef) ++ wMP cA m (m_kd) (m_lo) (m_hi) (m_co) (m_pa) (m_rk) (m_nu) (m_ct) (m_sa) ++ wMX cA m (va_up fa c 1) (m_fv) (m_sn)) rfl dX7_fixWhole_33 ?_
            refine g_iinc F 2 rfl ([(2, iv ((((c : Nat) : Int)) + 1)), (0, .ref (m 0)), (1, iv (if st then 1 else 0))]) rfl (by decide) dX7_fixWhole_34 ?_
            refine g_goto F (tgt := 2) dX7_fixWhole_37 (by decide) ?_
            refine g_lsub ([(0, .ref (m 0)), (1, iv (if st then 1 else 0)), (2, iv ((((c : Nat) : Int)) + 1))]) [1, 2, 0] rfl ?_
            exact ih2 (c + 1) (va_up fa c 1) (by omega) (by rw [hfa]; exact mix_up (by first | (rw [if_pos ⟨by assumption, by omega⟩]; done) | (rw [if_neg (fun z => absurd z.1 (by assumption))]; done) | (rw [if_neg (fun z => absurd z.2 (by omega))]; done))) (by omega)
  refine g_lsub ([(0, .ref (m 0)), (1, iv (if st then 1 else 0)), (2, iv (0))]) [1, 2, 0] rfl ?_
  exact lp2 (_ + 1) 0 m_fx (by omega) (mix_0 _ _).symm (Nat.lt_succ_self _)

set_option maxHeartbeats 4000000 in
set_option maxRecDepth 100000 in
theorem kX7_fixWhole_no (l : Launch) (D : va_G) (cA : Nat → ClassId) (m : Nat → Nat) (m_nc : Nat) (m_nr : Nat) (m_ke : Int) (m_so : Int) (m_bu : Int) (m_bc : Int) (m_pu : Int) (m_qu : Int) (m_fs : Int) (m_cd : Int) (m_un : Int) (m_hb : Int) (m_pf : Int) (m_ef : Int) (m_kd : Nat → Int) (m_lo : Nat → Int) (m_hi : Nat → Int) (m_co : Nat → Int) (m_pa : Nat → Int) (m_rk : Nat → Int) (m_nu : Nat → Int) (m_ct : Nat → Int) (m_sa : Nat → Int) (m_fx : Nat → Int) (m_fv : Nat → Int) (m_sn : Nat → Int) (qnc : m_nc ≤ 5) (qkd : ∀ j, 0 ≤ m_kd j ∧ m_kd j ≤ 2) : CT l yX7_fixWhole wsX7_fixWhole ({ frames := 0, cells := 0, slots := 0, locals := 0 }) D cA [.ref (m 0), iv (0)] (wMO cA m (((m_nc : Nat) : Int)) (((m_nr : Nat) : Int)) (m_ke) (m_so) (m_bu) (m_bc) (m_pu) (m_qu) (m_fs) (m_cd) (m_un) (m_hb) (m_pf) (m_ef) ++ wMP cA m (m_kd) (m_lo) (m_hi) (m_co) (m_pa) (m_rk) (m_nu) (m_ct) (m_sa) ++ wMX cA m (m_fx) (m_fv) (m_sn)) (fun ov ow => ov = none ∧ ow = wMO cA m (((m_nc : Nat) : Int)) (((m_nr : Nat) : Int)) (m_ke) (m_so) (m_bu) (m_bc) (m_pu) (m_qu) (m_fs) (m_cd) (m_un) (m_hb) (m_pf) (m_ef) ++ wMP cA m (m_kd) (m_lo) (m_hi) (m_co) (m_pa) (m_rk) (m_nu) (m_ct) (m_sa) ++ wMX cA m (mixZ (fun _ => 0) m_fx m_nc) (m_fv) (m_sn)) 0 0 := by
  refine CT.mk (cc := cX7_fixWhole) (maxL := 3) (ret := none) (by decide +kernel) rfl (Nat.le_of_ble_eq_true rfl) ?_
  intro p_ e_ s_ m_ b_ me_ c_ A F hnm hA
  have hV := @IM_P D s_ A
  have iX7 : ∀ w ∈ u_ws RX7 TX7 38, w ∈ wsX7_fixWhole := by decide +kernel
  refine g_lsub ([(0, .ref (m 0)), (1, iv (0))]) [0, 1] rfl ?_
  refine g_iconst F dX7_fixWhole_0 ?_
  refine g_istore_n F ([(2, iv (0)), (0, .ref (m 0)), (1, iv (0))]) rfl rfl (by decide) dX7_fixWhole_1 ?_
  have lp2 : ∀ (n : Nat) (c : Nat) (fa : Nat → Int) (hc : c ≤ m_nc) (hfa : fa = mixZ (fun _ => 0) m_fx c), m_nc - c < n → GW p_ l e_ (headSpec wsX7_fixWhole ({ frames := 0, cells := 0, slots := 0, locals := 0 })).room s_ m_ ([.ref (m 0), iv (0)]).toArray b_ me_ c_ (MQ b_ (Qm D (fun ov ow => ov = none ∧ ow = wMO cA m (((m_nc : Nat) : Int)) (((m_nr : Nat) : Int)) (m_ke) (m_so) (m_bu) (m_bc) (m_pu) (m_qu) (m_fs) (m_cd) (m_un) (m_hb) (m_pf) (m_ef) ++ wMP cA m (m_kd) (m_lo) (m_hi) (m_co) (m_pa) (m_rk) (m_nu) (m_ct) (m_sa) ++ wMX cA m (mixZ (fun _ => 0) m_fx m_nc) (m_fv) (m_sn)) A) ([.ref (m 0), iv (0)]).toArray s_ 0 0 A) (IM D s_ A) 3 0 0 (wMO cA m (((m_nc : Nat) : Int)) (((m_nr : Nat) : Int)) (m_ke) (m_so) (m_bu) (m_bc) (m_pu) (m_qu) (m_fs) (m_cd) (m_un) (m_hb) (m_pf) (m_ef) ++ wMP cA m (m_kd) (m_lo) (m_hi) (m_co) (m_pa) (m_rk) (m_nu) (m_ct) (m_sa) ++ wMX cA m (fa) (m_fv) (m_sn)) ([(0, .ref (m 0)), (1, iv (0)), (2, iv (((c : Nat) : Int)))]) [] 2 := by
    intro n; induction n with
    | zero => intro c fa; intros; omega
    | succ n ih2 =>
      intro c fa hc hfa hmu2
      refine g_iload_n F 2 rfl rfl dX7_fixWhole_2 ?_
      refine g_aload_n F 0 rfl rfl dX7_fixWhole_3 ?_
      refine g_get F hV iX7 0 rfl rfl 0 (by decide) (List.mem_of_getElem? (i := 1) rfl) rfl dX7_fixWhole_4 ?_
      refine g_icmp_ge F (tgt := 40) dX7_fixWhole_7 (by decide) ⟨by omega, by omega⟩ ⟨by omega, by omega⟩ (fun c_1 => ?_) (fun c_1 => ?_)
      · skip
        exact g_vret F rfl (by decide) (by decide) ⟨rfl, (by rw [hfa, show c = m_nc by omega])⟩ dX7_fixWhole_40
      · skip
        refine g_aload_n F 0 rfl rfl dX7_fixWhole_10 ?_
        refine g_get F hV iX7 0 rfl rfl 30 (by decide) (List.mem_of_getElem? (i := 2) rfl) rfl dX7_fixWhole_11 ?_
        refine g_iload_n F 2 rfl rfl dX7_fixWhole_14 ?_
        refine g_iload_n F 1 rfl rfl dX7_fixWhole_15 ?_
        refine g_if_eq F (tgt := 32) dX7_fixWhole_16 (by decide) ⟨by decide, by decide⟩ (fun c_2 => ?_) (fun c_2 => ?_)
        · skip
          refine g_iconst F dX7_fixWhole_32 ?_
          refine g_zast F 10 rfl (c) (Or.inl rfl) (by omega) (by omega) (by decide) (wMO cA m (((m_nc : Nat) : Int)) (((m_nr : Nat) : Int)) (m_ke) (m_so) (m_bu) (m_bc) (m_pu) (m_qu) (m_fs) (m_cd) (m_un) (m_hb) (m_pf) (m_ef) ++ wMP cA m (m_kd) (m_lo) (m_hi) (m_co) (m_pa) (m_rk) (m_nu) (m_ct) (m_sa) ++ wMX cA m (va_up fa c 0) (m_fv) (m_sn)) rfl dX7_fixWhole_33 ?_
          refine g_iinc F 2 rfl ([(2, iv ((((c : Nat) : Int)) + 1)), (0, .ref (m 0)), (1, iv (0))]) rfl (by decide) dX7_fixWhole_34 ?_
          refine g_goto F (tgt := 2) dX7_fixWhole_37 (by decide) ?_
          refine g_lsub ([(0, .ref (m 0)), (1, iv (0)), (2, iv ((((c : Nat) : Int)) + 1))]) [1, 2, 0] rfl ?_
          exact ih2 (c + 1) (va_up fa c 0) (by omega) (by rw [hfa]; exact mix_up rfl) (by omega)
        · skip
          exfalso; omega
  refine g_lsub ([(0, .ref (m 0)), (1, iv (0)), (2, iv (0))]) [1, 2, 0] rfl ?_
  exact lp2 (_ + 1) 0 m_fx (by omega) (mix_0 _ _).symm (Nat.lt_succ_self _)

set_option maxHeartbeats 4000000 in
set_option maxRecDepth 100000 in
theorem kX7_fixPartners (l : Launch) (D : va_G) (cA : Nat → ClassId) (m : Nat → Nat) (m_nc : Nat) (m_nr : Nat) (m_ke : Int) (m_so : Int) (m_bu : Int) (m_bc : Int) (m_pu : Int) (m_qu : Int) (m_fs : Int) (m_cd : Int) (m_un : Int) (m_hb : Int) (m_pf : Int) (m_ef : Int) (m_kd : Nat → Int) (m_lo : Nat → Int) (m_hi : Nat → Int) (m_co : Nat → Int) (m_pa : Nat → Int) (m_rk : Nat → Int) (m_nu : Nat → Int) (m_ct : Nat → Int) (m_sa : Nat → Int) (m_fx : Nat → Int) (m_fv : Nat → Int) (m_sn : Nat → Int) (qnc : m_nc ≤ 5) (qkd : ∀ j, 0 ≤ m_kd j ∧ m_kd j ≤ 2) (hlo : ∀ j, -20 ≤ m_lo j ∧ m_lo j ≤ 20) (hhi : ∀ j, m_hi j = -2000000005 ∨ (-20 ≤ m_hi j ∧ m_hi j ≤ 20)) (hpa : ∀ c, c < m_nc → m_pa c = -2000000005 ∨ (0 ≤ m_pa c ∧ m_pa c < (m_nc : Int))) (hf0 : ∀ c, c < m_nc → m_fx c = if 1 ≤ m_kd c then 1 else 0) (hfb : ∀ c, c < m_nc → -20 ≤ m_fv c ∧ m_fv c ≤ 20) : CT l yX7_fixPartners wsX7_fixPartners ({ frames := 0, cells := 0, slots := 0, locals := 0 }) D cA [.ref (m 0)] (wMO cA m (((m_nc : Nat) : Int)) (((m_nr : Nat) : Int)) (m_ke) (m_so) (m_bu) (m_bc) (m_pu) (m_qu) (m_fs) (m_cd) (m_un) (m_hb) (m_pf) (m_ef) ++ wMP cA m (m_kd) (m_lo) (m_hi) (m_co) (m_pa) (m_rk) (m_nu) (m_ct) (m_sa) ++ wMX cA m (m_fx) (m_fv) (m_sn)) (fun ov ow => ∃ (r : Bool) (fx : Nat → Int) (fv : Nat → Int), ((r = true ∧ fpE m_nc m_kd m_pa m_lo m_hi m_fv fx fv) ∨ (r = false ∧ ¬ pOkP m_nc m_kd m_pa m_lo m_hi m_fv ∧ ∀ q, q < m_nc → (1 ≤ m_kd q → fv q = m_fv q) ∧ -20 ≤ fv q ∧ fv q ≤ 20)) ∧ ov = some (iv (if r = true then 1 else 0)) ∧ ow = wMO cA m (((m_nc : Nat) : Int)) (((m_nr : Nat) : Int)) (m_ke) (m_so) (m_bu) (m_bc) (m_pu) (m_qu) (m_fs) (m_cd) (m_un) (m_hb) (m_pf) (m_ef) ++ wMP cA m (m_kd) (m_lo) (m_hi) (m_co) (m_pa) (m_rk) (m_nu) (m_ct) (m_sa) ++ wMX cA m (fx) (fv) (m_sn)) 0 0 := by
  refine CT.mk (cc := cX7_fixPartners) (maxL := 3) (ret := (some .boolean)) (by decide +kernel) rfl (Nat.le_of_ble_eq_true rfl) ?_
  intro p_ e_ s_ m_ b_ me_ c_ A F hnm hA
  have hV := @IM_P D s_ A
  have iX7 : ∀ w ∈ u_ws RX7 TX7 38, w ∈ wsX7_fixPartners := by decide +kernel
  refine g_lsub ([(0, .ref (m 0))]) [0] rfl ?_
  refine g_iconst F dX7_fixPartners_0 ?_
  refine g_istore_n F ([(1, iv (0)), (0, .ref (m 0))]) rfl rfl (by decide) dX7_fixPartners_1 ?_
  have lp2 : ∀ (n : Nat) (c : Nat) (fa : Nat → Int) (va : Nat → Int) (hc : c ≤ m_nc) (hI : fpI m_nc c m_kd m_pa m_lo m_hi m_fv fa va), m_nc - c < n → GW p_ l e_ (headSpec wsX7_fixPartners ({ frames := 0, cells := 0, slots := 0, locals := 0 })).room s_ m_ ([.ref (m 0)]).toArray b_ me_ c_ (MQ b_ (Qm D (fun ov ow => ∃ (r : Bool) (fx : Nat → Int) (fv : Nat → Int), ((r = true ∧ fpE m_nc m_kd m_pa m_lo m_hi m_fv fx fv) ∨ (r = false ∧ ¬ pOkP m_nc m_kd m_pa m_lo m_hi m_fv ∧ ∀ q, q < m_nc → (1 ≤ m_kd q → fv q = m_fv q) ∧ -20 ≤ fv q ∧ fv q ≤ 20)) ∧ ov = some (iv (if r = true then 1 else 0)) ∧ ow = wMO cA m (((m_nc : Nat) : Int)) (((m_nr : Nat) : Int)) (m_ke) (m_so) (m_bu) (m_bc) (m_pu) (m_qu) (m_fs) (m_cd) (m_un) (m_hb) (m_pf) (m_ef) ++ wMP cA m (m_kd) (m_lo) (m_hi) (m_co) (m_pa) (m_rk) (m_nu) (m_ct) (m_sa) ++ wMX cA m (fx) (fv) (m_sn)) A) ([.ref (m 0)]).toArray s_ 0 0 A) (IM D s_ A) 3 0 0 (wMO cA m (((m_nc : Nat) : Int)) (((m_nr : Nat) : Int)) (m_ke) (m_so) (m_bu) (m_bc) (m_pu) (m_qu) (m_fs) (m_cd) (m_un) (m_hb) (m_pf) (m_ef) ++ wMP cA m (m_kd) (m_lo) (m_hi) (m_co) (m_pa) (m_rk) (m_nu) (m_ct) (m_sa) ++ wMX cA m (fa) (va) (m_sn)) ([(0, .ref (m 0)), (1, iv (((c : Nat) : Int)))]) [] 2 := by
    intro n; induction n with
    | zero => intro c fa va; intros; omega
    | succ n ih2 =>
      intro c fa va hc hI hmu2
      refine g_iload_n F 1 rfl rfl dX7_fixPartners_2 ?_
      refine g_aload_n F 0 rfl rfl dX7_fixPartners_3 ?_
      refine g_get F hV iX7 0 rfl rfl 0 (by decide) (List.mem_of_getElem? (i := 1) rfl) rfl dX7_fixPartners_4 ?_
      refine g_icmp_ge F (tgt := 117) dX7_fixPartners_7 (by decide) ⟨by omega, by omega⟩ ⟨by omega, by omega⟩ (fun c_1 => ?_) (fun c_1 => ?_)
      · skip
        refine g_iconst F dX7_fixPartners_117 ?_
        exact g_zret F rfl (nar_01 (Or.inr rfl)) (by decide) (by decide) ⟨true, fa, va, (Or.inl ⟨rfl, fp_end (by rw [show c = m_nc by omega] at hI; exact hI)⟩), congrArg (fun z => some (iv z)) (show (1 : Int) = if true = true then 1 else 0 by rfl), rfl⟩ dX7_fixPartners_118
      · skip
        have hpc := hpa c (by omega)
        have hh1 := hI.2.1 c (by omega)
        refine g_aload_n F 0 rfl rfl dX7_fixPartners_10 ?_
        refine g_get F hV iX7 0 rfl rfl 5 (by decide) (List.mem_of_getElem? (i := 2) rfl) rfl dX7_fixPartners_11 ?_
        refine g_iload_n F 1 rfl rfl dX7_fixPartners_14 ?_
        refine g_iald F hV 5 rfl (c) (by omega) (by omega) (by decide) dX7_fixPartners_15 ?_
        refine g_istore_n F ([(2, iv (m_pa c)), (0, .ref (m 0)), (1, iv (((c : Nat) : Int)))]) rfl rfl (by decide) dX7_fixPartners_16 ?_
        refine g_aload_n F 1 rfl rfl dX7_fixPartners_17 ?_
        refine g_get F hV iX7 0 rfl rfl 1 (by decide) (List.mem_of_getElem? (i := 3) rfl) rfl dX7_fixPartners_18 ?_
        refine g_iload_n F 2 rfl rfl dX7_fixPartners_21 ?_
        have r_2 := qkd (c)
        refine g_iald F hV 1 rfl (c) (by omega) (by omega) (by decide) dX7_fixPartners_22 ?_
        refine g_iconst F dX7_fixPartners_23 ?_
        refine g_icmp_ne F (tgt := 111) dX7_fixPartners_24 (by decide) ⟨by omega, by omega⟩ ⟨by decide, by decide⟩ (fun c_3 => ?_) (fun c_3 => ?_)
        · skip
          refine g_iinc F 2 rfl ([(1, iv ((((c : Nat) : Int)) + 1)), (2, iv (m_pa c)), (0, .ref (m 0))]) rfl (by decide) dX7_fixPartners_111 ?_
          refine g_goto F (tgt := 2) dX7_fixPartners_114 (by decide) ?_
          refine g_lsub ([(0, .ref (m 0)), (1, iv ((((c : Nat) : Int)) + 1))]) [2, 0] rfl ?_
          exact ih2 (c + 1) fa va (by omega) (by first | exact fp_skip hI (fun z => by obtain ⟨z1, ⟨zp, z2⟩, z3⟩ := z; omega) | exact fp_whole hI (p := pn) (by omega) (by omega) (by omega) (by omega)) (by omega)
        · skip
          refine g_iload_n F 0 rfl rfl dX7_fixPartners_27 ?_
          refine g_ldc F (-2000000005) (by decide) (List.mem_of_getElem? (i := 4) rfl) dX7_fixPartners_28 ?_
          refine g_icmp_eq F (tgt := 111) dX7_fixPartners_30 (by decide) ⟨by omega, by omega⟩ ⟨by decide, by decide⟩ (fun c_4 => ?_) (fun c_4 => ?_)
          · skip
            refine g_iinc F 2 rfl ([(1, iv ((((c : Nat) : Int)) + 1)), (2, iv (m_pa c)), (0, .ref (m 0))]) rfl (by decide) dX7_fixPartners_111 ?_
            refine g_goto F (tgt := 2) dX7_fixPartners_114 (by decide) ?_
            refine g_lsub ([(0, .ref (m 0)), (1, iv ((((c : Nat) : Int)) + 1))]) [2, 0] rfl ?_
            exact ih2 (c + 1) fa va (by omega) (by first | exact fp_skip hI (fun z => by obtain ⟨z1, ⟨zp, z2⟩, z3⟩ := z; omega) | exact fp_whole hI (p := pn) (by omega) (by omega) (by omega) (by omega)) (by omega)
          · skip
            have hva : va c = m_fv c := hh1.1 (by omega)
            have hvc := hI.2.2.1 c (by omega)
            refine g_aload_n F 1 rfl rfl dX7_fixPartners_33 ?_
            refine g_get F hV iX7 0 rfl rfl 31 (by decide) (List.mem_of_getElem? (i := 5) rfl) rfl dX7_fixPartners_34 ?_
            refine g_iload_n F 2 rfl rfl dX7_fixPartners_37 ?_
            refine g_lald F hV 11 rfl (c) (by omega) (by omega) (by decide) dX7_fixPartners_38 ?_
            refine g_lconst F (z := 0) dX7_fixPartners_39 (by decide) ?_
            refine g_lcmp_ne F (tgt := 111) dX7_fixPartners_40 dX7_fixPartners_41 (by decide) (show I64 _ from ⟨by omega, by omega⟩) ⟨by decide, by decide⟩ (fun c_5 => ?_) (fun c_5 => ?_)
            · skip
              refine g_iinc F 2 rfl ([(1, iv ((((c : Nat) : Int)) + 1)), (2, iv (m_pa c)), (0, .ref (m 0))]) rfl (by decide) dX7_fixPartners_111 ?_
              refine g_goto F (tgt := 2) dX7_fixPartners_114 (by decide) ?_
              refine g_lsub ([(0, .ref (m 0)), (1, iv ((((c : Nat) : Int)) + 1))]) [2, 0] rfl ?_
              exact ih2 (c + 1) fa va (by omega) (by first | exact fp_skip hI (fun z => by obtain ⟨z1, ⟨zp, z2⟩, z3⟩ := z; omega) | exact fp_whole hI (p := pn) (by omega) (by omega) (by omega) (by omega)) (by omega)
            · skip
              have hva : va c = m_fv c := hh1.1 (by omega)
              obtain ⟨pn, hpn⟩ : ∃ pn : Nat, m_pa c = (pn : Int) := ⟨(m_pa c).toNat, by omega⟩
              have hvp := hI.2.2.1 pn (by omega)
              refine g_aload_n F 1 rfl rfl dX7_fixPartners_44 ?_
              refine g_get F hV iX7 0 rfl rfl 1 (by decide) (List.mem_of_getElem? (i := 3) rfl) rfl dX7_fixPartners_45 ?_
              refine g_iload_n F 0 rfl rfl dX7_fixPartners_48 ?_
              have r_6 := qkd (pn)
              refine g_iald F hV 1 rfl (pn) (by omega) (by omega) (by decide) dX7_fixPartners_49 ?_
              refine g_if_le F (tgt := 66) dX7_fixPartners_50 (by decide) ⟨by omega, by omega⟩ (fun c_7 => ?_) (fun c_7 => ?_)
              · skip
                refine g_aload_n F 1 rfl rfl dX7_fixPartners_66 ?_
                refine g_get F hV iX7 0 rfl rfl 2 (by decide) (List.mem_of_getElem? (i := 6) rfl) rfl dX7_fixPartners_67 ?_
                refine g_iload_n F 0 rfl rfl dX7_fixPartners_70 ?_
                have r_8 := hlo (pn)
                refine g_iald F hV 2 rfl (pn) (by omega) (by omega) (by decide) dX7_fixPartners_71 ?_
                refine g_if_gt F (tgt := 95) dX7_fixPartners_72 (by decide) ⟨by omega, by omega⟩ (fun c_9 => ?_) (fun c_9 => ?_)
                · skip
                  refine g_iconst F dX7_fixPartners_95 ?_
                  exact g_zret F rfl (nar_01 (Or.inl rfl)) (by decide) (by decide) ⟨false, fa, va, (Or.inr ⟨rfl, fun z => by have h9 := (z c (by omega) (by omega) pn (by omega) (by omega) (by omega)).2 (by omega); have h8 : m_hi pn ≠ NONEz ↔ ¬ m_hi pn = -2000000005 := Iff.rfl; first | omega | (have h7 := h9.2 (h8.mpr (by omega)); omega), fun q hq => ⟨(hI.2.1 q hq).1, hI.2.2.1 q hq⟩⟩), congrArg (fun z => some (iv z)) (show (0 : Int) = if false = true then 1 else 0 by rfl), rfl⟩ dX7_fixPartners_96
                · skip
                  refine g_aload_n F 1 rfl rfl dX7_fixPartners_75 ?_
                  refine g_get F hV iX7 0 rfl rfl 3 (by decide) (List.mem_of_getElem? (i := 7) rfl) rfl dX7_fixPartners_76 ?_
                  refine g_iload_n F 0 rfl rfl dX7_fixPartners_79 ?_
                  have r_10 := hhi (pn)
                  refine g_iald F hV 3 rfl (pn) (by omega) (by omega) (by decide) dX7_fixPartners_80 ?_
                  refine g_ldc F (-2000000005) (by decide) (List.mem_of_getElem? (i := 4) rfl) dX7_fixPartners_81 ?_
                  refine g_icmp_eq F (tgt := 97) dX7_fixPartners_83 (by decide) ⟨by omega, by omega⟩ ⟨by decide, by decide⟩ (fun c_11 => ?_) (fun c_11 => ?_)
                  · skip
                    refine g_aload_n F 1 rfl rfl dX7_fixPartners_97 ?_
                    refine g_get F hV iX7 0 rfl rfl 30 (by decide) (List.mem_of_getElem? (i := 8) rfl) rfl dX7_fixPartners_98 ?_
                    refine g_iload_n F 0 rfl rfl dX7_fixPartners_101 ?_
                    refine g_iconst F dX7_fixPartners_102 ?_
                    refine g_zast F 10 rfl (pn) (Or.inr rfl) (by omega) (by omega) (by decide) (wMO cA m (((m_nc : Nat) : Int)) (((m_nr : Nat) : Int)) (m_ke) (m_so) (m_bu) (m_bc) (m_pu) (m_qu) (m_fs) (m_cd) (m_un) (m_hb) (m_pf) (m_ef) ++ wMP cA m (m_kd) (m_lo) (m_hi) (m_co) (m_pa) (m_rk) (m_nu) (m_ct) (m_sa) ++ wMX cA m (va_up fa pn 1) (va) (m_sn)) rfl dX7_fixPartners_103 ?_
                    refine g_aload_n F 1 rfl rfl dX7_fixPartners_104 ?_
                    refine g_get F hV iX7 0 rfl rfl 31 (by decide) (List.mem_of_getElem? (i := 5) rfl) rfl dX7_fixPartners_105 ?_
                    refine g_iload_n F 0 rfl rfl dX7_fixPartners_108 ?_
                    refine g_lconst F (z := 0) dX7_fixPartners_109 (by decide) ?_
                    refine g_last F 11 rfl (pn) (by omega) (by omega) (by decide) (wMO cA m (((m_nc : Nat) : Int)) (((m_nr : Nat) : Int)) (m_ke) (m_so) (m_bu) (m_bc) (m_pu) (m_qu) (m_fs) (m_cd) (m_un) (m_hb) (m_pf) (m_ef) ++ wMP cA m (m_kd) (m_lo) (m_hi) (m_co) (m_pa) (m_rk) (m_nu) (m_ct) (m_sa) ++ wMX cA m (va_up fa pn 1) (va_up va pn 0) (m_sn)) rfl dX7_fixPartners_110 ?_
                    refine g_iinc F 2 rfl ([(1, iv ((((c : Nat) : Int)) + 1)), (2, iv (m_pa c)), (0, .ref (m 0))]) rfl (by decide) dX7_fixPartners_111 ?_
                    refine g_goto F (tgt := 2) dX7_fixPartners_114 (by decide) ?_
                    refine g_lsub ([(0, .ref (m 0)), (1, iv ((((c : Nat) : Int)) + 1))]) [2, 0] rfl ?_
                    exact ih2 (c + 1) (va_up fa pn 1) (va_up va pn 0) (by omega) (fp_plain hI (by omega) (by omega) (p := pn) (by omega) (by omega) (by omega) ⟨by omega, fun z => by have z9 : ¬ m_hi pn = -2000000005 := z; omega⟩) (by omega)
                  · skip
                    refine g_aload_n F 1 rfl rfl dX7_fixPartners_86 ?_
                    refine g_get F hV iX7 0 rfl rfl 3 (by decide) (List.mem_of_getElem? (i := 7) rfl) rfl dX7_fixPartners_87 ?_
                    refine g_iload_n F 0 rfl rfl dX7_fixPartners_90 ?_
                    have r_12 := hhi (pn)
                    refine g_iald F hV 3 rfl (pn) (by omega) (by omega) (by decide) dX7_fixPartners_91 ?_
                    refine g_if_ge F (tgt := 97) dX7_fixPartners_92 (by decide) ⟨by omega, by omega⟩ (fun c_13 => ?_) (fun c_13 => ?_)
                    · skip
                      refine g_aload_n F 1 rfl rfl dX7_fixPartners_97 ?_
                      refine g_get F hV iX7 0 rfl rfl 30 (by decide) (List.mem_of_getElem? (i := 8) rfl) rfl dX7_fixPartners_98 ?_
                      refine g_iload_n F 0 rfl rfl dX7_fixPartners_101 ?_
                      refine g_iconst F dX7_fixPartners_102 ?_
                      refine g_zast F 10 rfl (pn) (Or.inr rfl) (by omega) (by omega) (by decide) (wMO cA m (((m_nc : Nat) : Int)) (((m_nr : Nat) : Int)) (m_ke) (m_so) (m_bu) (m_bc) (m_pu) (m_qu) (m_fs) (m_cd) (m_un) (m_hb) (m_pf) (m_ef) ++ wMP cA m (m_kd) (m_lo) (m_hi) (m_co) (m_pa) (m_rk) (m_nu) (m_ct) (m_sa) ++ wMX cA m (va_up fa pn 1) (va) (m_sn)) rfl dX7_fixPartners_103 ?_
                      refine g_aload_n F 1 rfl rfl dX7_fixPartners_104 ?_
                      refine g_get F hV iX7 0 rfl rfl 31 (by decide) (List.mem_of_getElem? (i := 5) rfl) rfl dX7_fixPartners_105 ?_
                      refine g_iload_n F 0 rfl rfl dX7_fixPartners_108 ?_
                      refine g_lconst F (z := 0) dX7_fixPartners_109 (by decide) ?_
                      refine g_last F 11 rfl (pn) (by omega) (by omega) (by decide) (wMO cA m (((m_nc : Nat) : Int)) (((m_nr : Nat) : Int)) (m_ke) (m_so) (m_bu) (m_bc) (m_pu) (m_qu) (m_fs) (m_cd) (m_un) (m_hb) (m_pf) (m_ef) ++ wMP cA m (m_kd) (m_lo) (m_hi) (m_co) (m_pa) (m_rk) (m_nu) (m_ct) (m_sa) ++ wMX cA m (va_up fa pn 1) (va_up va pn 0) (m_sn)) rfl dX7_fixPartners_110 ?_
                      refine g_iinc F 2 rfl ([(1, iv ((((c : Nat) : Int)) + 1)), (2, iv (m_pa c)), (0, .ref (m 0))]) rfl (by decide) dX7_fixPartners_111 ?_
                      refine g_goto F (tgt := 2) dX7_fixPartners_114 (by decide) ?_
                      refine g_lsub ([(0, .ref (m 0)), (1, iv ((((c : Nat) : Int)) + 1))]) [2, 0] rfl ?_
                      exact ih2 (c + 1) (va_up fa pn 1) (va_up va pn 0) (by omega) (fp_plain hI (by omega) (by omega) (p := pn) (by omega) (by omega) (by omega) ⟨by omega, fun z => by have z9 : ¬ m_hi pn = -2000000005 := z; omega⟩) (by omega)
                    · skip
                      refine g_iconst F dX7_fixPartners_95 ?_
                      exact g_zret F rfl (nar_01 (Or.inl rfl)) (by decide) (by decide) ⟨false, fa, va, (Or.inr ⟨rfl, fun z => by have h9 := (z c (by omega) (by omega) pn (by omega) (by omega) (by omega)).2 (by omega); have h8 : m_hi pn ≠ NONEz ↔ ¬ m_hi pn = -2000000005 := Iff.rfl; first | omega | (have h7 := h9.2 (h8.mpr (by omega)); omega), fun q hq => ⟨(hI.2.1 q hq).1, hI.2.2.1 q hq⟩⟩), congrArg (fun z => some (iv z)) (show (0 : Int) = if false = true then 1 else 0 by rfl), rfl⟩ dX7_fixPartners_96
              · skip
                have hv9 : va pn = m_fv pn := (hI.2.1 pn (by omega)).1 (by omega)
                refine g_aload_n F 1 rfl rfl dX7_fixPartners_53 ?_
                refine g_get F hV iX7 0 rfl rfl 31 (by decide) (List.mem_of_getElem? (i := 5) rfl) rfl dX7_fixPartners_54 ?_
                refine g_iload_n F 0 rfl rfl dX7_fixPartners_57 ?_
                refine g_lald F hV 11 rfl (pn) (by omega) (by omega) (by decide) dX7_fixPartners_58 ?_
                refine g_lconst F (z := 0) dX7_fixPartners_59 (by decide) ?_
                refine g_lcmp_eq F (tgt := 111) dX7_fixPartners_60 dX7_fixPartners_61 (by decide) (show I64 _ from ⟨by omega, by omega⟩) ⟨by decide, by decide⟩ (fun c_14 => ?_) (fun c_14 => ?_)
                · skip
                  refine g_iinc F 2 rfl ([(1, iv ((((c : Nat) : Int)) + 1)), (2, iv (m_pa c)), (0, .ref (m 0))]) rfl (by decide) dX7_fixPartners_111 ?_
                  refine g_goto F (tgt := 2) dX7_fixPartners_114 (by decide) ?_
                  refine g_lsub ([(0, .ref (m 0)), (1, iv ((((c : Nat) : Int)) + 1))]) [2, 0] rfl ?_
                  exact ih2 (c + 1) fa va (by omega) (by first | exact fp_skip hI (fun z => by obtain ⟨z1, ⟨zp, z2⟩, z3⟩ := z; omega) | exact fp_whole hI (p := pn) (by omega) (by omega) (by omega) (by omega)) (by omega)
                · skip
                  refine g_iconst F dX7_fixPartners_64 ?_
                  exact g_zret F rfl (nar_01 (Or.inl rfl)) (by decide) (by decide) ⟨false, fa, va, (Or.inr ⟨rfl, fun z => by have h9 := (z c (by omega) (by omega) pn (by omega) (by omega) (by omega)).1 (by omega); omega, fun q hq => ⟨(hI.2.1 q hq).1, hI.2.2.1 q hq⟩⟩), congrArg (fun z => some (iv z)) (show (0 : Int) = if false = true then 1 else 0 by rfl), rfl⟩ dX7_fixPartners_65
  refine g_lsub ([(0, .ref (m 0)), (1, iv (0))]) [1, 0] rfl ?_
  exact lp2 (_ + 1) 0 m_fx m_fv (by omega) (⟨fun q hq => ⟨by rw [hf0 q hq]; split <;> simp, ⟨fun z => Or.inl (by rw [hf0 q hq] at z; by_cases w : 1 ≤ m_kd q; exact w; (rw [if_neg w] at z; exact absurd rfl z)), fun z => by rcases z with z | ⟨c9, z, -⟩; (rw [hf0 q hq, if_pos z]; decide); exact absurd z (Nat.not_lt_zero c9)⟩⟩, fun q hq => ⟨fun _ => rfl, fun z z2 => by rw [hf0 q hq, if_neg (by omega)] at z2; exact absurd rfl z2⟩, hfb, fun c9 z => absurd z (Nat.not_lt_zero c9)⟩) (Nat.lt_succ_self _)
