theorem visQ_cong {nc nr : Nat} {kd pa lo hi rk num ct sa co bp f g : Nat → Int} {plan fin : Prop} (h : eqW nc kd g f) (hv : visQ nc nr kd pa lo hi rk num ct sa co bp plan fin f) : visQ nc nr kd pa lo hi rk num ct sa co bp plan fin g := by
  have e1 : fxB nc kd pa g = fxB nc kd pa f := by
    funext c
    rcases hx : fxB nc kd pa f c with _ | _
    · rcases hy : fxB nc kd pa g c with _ | _
      · rfl
      · rcases fx_why hy with w | ⟨c', w1, w2, w3, w4⟩
        · rw [fx_whole w] at hx; cases hx
        · rw [fx_part w1 w2 w3 (by rw [← h c' w1 (by omega)]; exact w4)] at hx; cases hx
    · rcases fx_why hx with w | ⟨c', w1, w2, w3, w4⟩
      · exact fx_whole w
      · exact fx_part w1 w2 w3 (by rw [h c' w1 (by omega)]; exact w4)
  have e2 : ∀ c, c < nc → fxB nc kd pa f c = true → fvF kd g c = fvF kd f c := fun c hc _ => by
    unfold fvF
    by_cases k : 1 ≤ kd c
    · rw [if_pos k, if_pos k, h c hc k]
    · rw [if_neg k, if_neg k]
  obtain ⟨⟨n, K, fr, cs, cn, ck, v1, v2, v3, v5, v4⟩, w⟩ := hv
  unfold visQ
  rw [e1]
  refine ⟨⟨n, K, fr, cs, cn, ck, v1, cdI_cong (fun _ _ => rfl) e2 (fun _ _ => Iff.rfl) v2, v3, v5, fun ch q u c1 c2 c3 => ?_⟩, ?_⟩
  · obtain ⟨a1, y, a2, a3⟩ := v4 ch q u c1 c2 c3
    exact ⟨a1, y, fu_cong (fun _ _ => rfl) e2 a2, a3⟩
  · rintro ⟨y, y0, y1, y2, y3⟩
    exact w ⟨y, y0, fun c hc hx => by rw [y1 c hc hx, e2 c hc hx], y2, y3⟩
theorem pOk_cong {nc : Nat} {kd pa lo hi f g : Nat → Int} (h : eqW nc kd g f) (hp : pOkP nc kd pa lo hi g) : pOkP nc kd pa lo hi f := by
  intro c hc hk p hp' hpn hf
  have := hp c hc hk p hp' hpn (by rw [h c hc (by omega)]; exact hf)
  exact ⟨fun k => by rw [← h p hpn k]; exact this.1 k, this.2⟩
theorem eqW_symm {nc : Nat} {kd f g : Nat → Int} (h : eqW nc kd g f) : eqW nc kd f g := fun c hc hk => (h c hc hk).symm
theorem VQ_cong {nc nr : Nat} {kd pa lo hi rk num ct sa co be f g : Nat → Int} {bc bu pf ef : Int} (h : eqW nc kd g f) (hv : VQ nc nr kd pa lo hi rk num ct sa co be bc bu pf ef f) : VQ nc nr kd pa lo hi rk num ct sa co be bc bu pf ef g := fun hp => visQ_cong h (hv (pOk_cong h hp))
theorem bfr_cong {nc : Nat} {kd f f' g : Nat → Int} (h : ∀ q, q < nc → 1 ≤ kd q → f' q = f q) (hb : bfr nc kd g f') : bfr nc kd g f := by
  obtain ⟨c, c1, c2, c3, c4⟩ := hb
  exact ⟨c, c1, c2, by rw [← h c c1 c2]; exact c3, fun q q1 q2 q3 => by rw [c4 q q1 q2 q3, h q q2 q3]⟩
/-- all up to here -/
theorem st_all {nc : Nat} {kd lo hi va fv : Nat → Int} {V : (Nat → Int) → Prop} (hw : ∀ q, q < nc → 1 ≤ kd q → fv q = va q) (hb : ∀ g, asgP nc kd lo hi g → bfr nc kd g va → V g) (hc : ∀ g, eqW nc kd g va → V g) : ∀ g, asgP nc kd lo hi g → (eqW nc kd g fv ∨ bfr nc kd g fv) → V g := by
  intro g hg h
  rcases h with h | h
  · exact hc g (fun c c1 c2 => by rw [h c c1 c2, hw c c1 c2])
  · exact hb g hg (bfr_cong hw h)
theorem kd_yes {st : Prop} [Decidable st] {kd : Nat → Int} (h : st) : kdS (decide st) kd = kd := if_pos (decide_eq_true h)
theorem kd_no {st : Prop} [Decidable st] {kd : Nat → Int} (h : ¬ st) : kdS (decide st) kd = fun _ => 0 := if_neg (by rw [decide_eq_true_eq]; exact h)
theorem no_fx {nc : Nat} {pa f : Nat → Int} (c : Nat) : fxB nc (fun _ => 0) pa f c = false := by
  rcases hx : fxB nc (fun _ => 0) pa f c with _ | _
  · rfl
  · rcases fx_why hx with w | ⟨c', w1, w2, w3, w4⟩
    · exact absurd (show (1 : Int) ≤ 0 from w) (by decide)
    · exact absurd (show (0 : Int) = 2 from w2) (by decide)
theorem se_0 {nc nr : Nat} {kd pa lo hi rk num ct sa co : Nat → Int} : seI nc nr kd pa lo hi rk num ct sa co (fun _ => 0) 0 1 0 0 0 :=
  ⟨⟨Or.inl rfl, ⟨by decide, by decide⟩, ⟨by decide, by decide⟩, fun _ => (by show (-200000000000 : Int) ≤ 0 ∧ (0 : Int) ≤ 200000000000; decide), fun z => absurd z (by decide)⟩, Or.inl rfl, Or.inl rfl, fun _ _ => rfl, ⟨fun z => absurd z (by decide), fun z => absurd z (by decide)⟩, fun z => absurd z (by decide), fun z => absurd z (by decide)⟩
theorem se_end {nc nr : Nat} {kd pa lo hi rk num ct sa co be : Nat → Int} {bc bu hb pf ef ke : Int} (hP : colsOk nc kd pa lo hi) (h : seI nc nr kd pa lo hi rk num ct sa co be bc bu hb pf ef) (hv : ∀ g, asgP nc kd lo hi g → VQ nc nr kd pa lo hi rk num ct sa co be bc bu pf ef g) (hke : (pf = 0 ∧ ke = 1) ∨ (pf = 1 ∧ ef = 1 ∧ ke = 2) ∨ (pf = 1 ∧ ef = 0 ∧ ke = 0)) :
    semP nc co (FP nc kd pa lo hi (phiP rk ct sa nc num nr)) (be, bc, bu, ke) ∧ ∀ j, nc ≤ j → be j = 0 := by
  obtain ⟨h1, h2, h3, h4, h5, h6, h7⟩ := h
  refine ⟨ref_sem2 (b := (be, bc, bu, ke)) (plan := pf = 1) (fin := ef = 1) hP ⟨h1.2.1, h1.2.2.1, h1.2.2.2.1⟩ ⟨fun z => ?_, fun z1 z2 => ?_, fun z1 z2 => ?_⟩ (fun f f1 f2 => hv f f1 f2) (fun z => ⟨h6 z, ?_⟩) (fun z => (h7 z).2), h4⟩
  · show ke = 1; omega
  · show ke = 2; omega
  · show ke = 0; omega
  · show bc = _
    rw [dot_cost hP.1, bp_sum]
    exact h1.2.2.2.2 (h5.mpr z)
theorem rk_cong {kd lo f g : Nat → Int} : ∀ n, (∀ c, c < n → 1 ≤ kd c → f c = g c) → rkF kd lo f n = rkF kd lo g n
  | 0, _ => rfl
  | n + 1, h => by
    show rkF kd lo f n + (if 1 ≤ kd n then (f n - lo n).toNat * 10 ^ n else 0) = rkF kd lo g n + (if 1 ≤ kd n then (g n - lo n).toNat * 10 ^ n else 0)
    rw [rk_cong n (fun c hc => h c (by omega))]
    by_cases hk : 1 ≤ kd n
    · rw [if_pos hk, if_pos hk, h n (by omega) hk]
    · rw [if_neg hk, if_neg hk]
theorem mu_nw {nc : Nat} {kd pa lo hi va fv fv' : Nat → Int} (hP : colsOk nc kd pa lo hi) (hw : ∀ q, q < nc → 1 ≤ kd q → fv q = va q) (h : rkF kd lo fv nc < rkF kd lo fv' nc) (ha : asgP nc kd lo hi fv') : 100001 - rkF kd lo fv' nc < 100001 - rkF kd lo va nc := by
  have h1 := rk_lt (kd := kd) (lo := lo) (hi := hi) (f := fv') nc (fun c hc hk => ⟨(ha c hc hk).1, (ha c hc hk).2, (hP.2.2.2.2.1 c hc hk).2⟩)
  have h2 : (10 : Nat) ^ nc ≤ 10 ^ 5 := Nat.pow_le_pow_right (by decide) hP.1
  rw [← rk_cong nc hw]
  omega
theorem as_0 {nc : Nat} {kd pa lo hi : Nat → Int} {st : Prop} [Decidable st] (hP : colsOk nc kd pa lo hi) (hle : ∀ c, c < nc → hi c ≠ NONEz → lo c ≤ hi c) : asgP nc (kdS (decide st) kd) lo hi (fun q => if q < nc then lo q else 0) := by
  intro c hc hk
  show lo c ≤ (if c < nc then lo c else 0) ∧ (if c < nc then lo c else 0) ≤ hi c
  rw [if_pos hc]
  refine ⟨Int.le_refl _, ?_⟩
  by_cases h : st
  · rw [kd_yes h] at hk
    exact hle c hc (hP.2.2.2.2.1 c hc hk).1
  · rw [kd_no h] at hk
    exact absurd (show (1 : Int) ≤ 0 from hk) (by decide)
theorem bf_0 {nc : Nat} {kd lo hi g : Nat → Int} (hg : asgP nc kd lo hi g) (hb : bfr nc kd g (fun q => if q < nc then lo q else 0)) : False := by
  obtain ⟨c, c1, c2, c3, c4⟩ := hb
  have h : g c < if c < nc then lo c else 0 := c3
  rw [if_pos c1] at h
  have := (hg c c1 c2).1
  omega
set_option maxHeartbeats 4000000 in
set_option maxRecDepth 100000 in
theorem kX7_takeNumbers (l : Launch) (D : va_G) (cA : Nat → ClassId) (m : Nat → Nat) (m_nc : Nat) (m_nr : Nat) (m_ke : Int) (m_so : Int) (m_bu : Int) (m_bc : Int) (m_pu : Int) (m_qu : Int) (m_fs : Int) (m_cd : Int) (m_un : Int) (m_hb : Int) (m_pf : Int) (m_ef : Int) (m_kd : Nat → Int) (m_lo : Nat → Int) (m_hi : Nat → Int) (m_co : Nat → Int) (m_pa : Nat → Int) (m_rk : Nat → Int) (m_nu : Nat → Int) (m_ct : Nat → Int) (m_sa : Nat → Int) (m_fx : Nat → Int) (m_fv : Nat → Int) (m_sn : Nat → Int) (qnr : m_nr ≤ 7) : CT l yX7_takeNumbers wsX7_takeNumbers ({ frames := 0, cells := 0, slots := 0, locals := 0 }) D cA [.ref (m 0)] (wMO cA m (((m_nc : Nat) : Int)) (((m_nr : Nat) : Int)) (m_ke) (m_so) (m_bu) (m_bc) (m_pu) (m_qu) (m_fs) (m_cd) (m_un) (m_hb) (m_pf) (m_ef) ++ wMP cA m (m_kd) (m_lo) (m_hi) (m_co) (m_pa) (m_rk) (m_nu) (m_ct) (m_sa) ++ wMX cA m (m_fx) (m_fv) (m_sn)) (fun ov ow => ov = none ∧ ow = wMO cA m (((m_nc : Nat) : Int)) (((m_nr : Nat) : Int)) (m_ke) (m_so) (m_bu) (m_bc) (m_pu) (m_qu) (m_fs) (m_cd) (m_un) (m_hb) (m_pf) (m_ef) ++ wMP cA m (m_kd) (m_lo) (m_hi) (m_co) (m_pa) (m_rk) (m_nu) (m_ct) (m_sa) ++ wMX cA m (m_fx) (m_fv) (mixZ m_nu m_sn m_nr)) 0 0 := by
  refine CT.mk (cc := cX7_takeNumbers) (maxL := 2) (ret := none) (by decide +kernel) rfl (Nat.le_of_ble_eq_true rfl) ?_
  intro p_ e_ s_ m_ b_ me_ c_ A F hnm hA
  have hV := @IM_P D s_ A
  have iX7 : ∀ w ∈ u_ws RX7 TX7 38, w ∈ wsX7_takeNumbers := by decide +kernel
  refine g_lsub ([(0, .ref (m 0))]) [0] rfl ?_
  refine g_iconst F dX7_takeNumbers_0 ?_
  refine g_istore_n F ([(1, iv (0)), (0, .ref (m 0))]) rfl rfl (by decide) dX7_takeNumbers_1 ?_
  have lp2 : ∀ (n : Nat) (r : Nat) (sx : Nat → Int) (hr : r ≤ m_nr) (hsx : sx = mixZ m_nu m_sn r), m_nr - r < n → GW p_ l e_ (headSpec wsX7_takeNumbers ({ frames := 0, cells := 0, slots := 0, locals := 0 })).room s_ m_ ([.ref (m 0)]).toArray b_ me_ c_ (MQ b_ (Qm D (fun ov ow => ov = none ∧ ow = wMO cA m (((m_nc : Nat) : Int)) (((m_nr : Nat) : Int)) (m_ke) (m_so) (m_bu) (m_bc) (m_pu) (m_qu) (m_fs) (m_cd) (m_un) (m_hb) (m_pf) (m_ef) ++ wMP cA m (m_kd) (m_lo) (m_hi) (m_co) (m_pa) (m_rk) (m_nu) (m_ct) (m_sa) ++ wMX cA m (m_fx) (m_fv) (mixZ m_nu m_sn m_nr)) A) ([.ref (m 0)]).toArray s_ 0 0 A) (IM D s_ A) 2 0 0 (wMO cA m (((m_nc : Nat) : Int)) (((m_nr : Nat) : Int)) (m_ke) (m_so) (m_bu) (m_bc) (m_pu) (m_qu) (m_fs) (m_cd) (m_un) (m_hb) (m_pf) (m_ef) ++ wMP cA m (m_kd) (m_lo) (m_hi) (m_co) (m_pa) (m_rk) (m_nu) (m_ct) (m_sa) ++ wMX cA m (m_fx) (m_fv) (sx)) ([(0, .ref (m 0)), (1, iv (((r : Nat) : Int)))]) [] 2 := by
    intro n; induction n with
    | zero => intro r sx; intros; omega
    | succ n ih2 =>
      intro r sx hr hsx hmu2
      refine g_iload_n F 1 rfl rfl dX7_takeNumbers_2 ?_
      refine g_aload_n F 0 rfl rfl dX7_takeNumbers_3 ?_
      refine g_get F hV iX7 0 rfl rfl 6 (by decide) (List.mem_of_getElem? (i := 1) rfl) rfl dX7_takeNumbers_4 ?_
      refine g_icmp_ge F (tgt := 28) dX7_takeNumbers_7 (by decide) ⟨by omega, by omega⟩ ⟨by omega, by omega⟩ (fun c_1 => ?_) (fun c_1 => ?_)
      · skip
        exact g_vret F rfl (by decide) (by decide) ⟨rfl, (by rw [hsx, show r = m_nr by omega])⟩ dX7_takeNumbers_28
      · skip
        refine g_aload_n F 0 rfl rfl dX7_takeNumbers_10 ?_
        refine g_get F hV iX7 0 rfl rfl 32 (by decide) (List.mem_of_getElem? (i := 2) rfl) rfl dX7_takeNumbers_11 ?_
        refine g_iload_n F 1 rfl rfl dX7_takeNumbers_14 ?_
        refine g_aload_n F 0 rfl rfl dX7_takeNumbers_15 ?_
        refine g_get F hV iX7 0 rfl rfl 8 (by decide) (List.mem_of_getElem? (i := 3) rfl) rfl dX7_takeNumbers_16 ?_
        refine g_iload_n F 1 rfl rfl dX7_takeNumbers_19 ?_
        refine g_iald F hV 7 rfl (r) (by omega) (by omega) (by decide) dX7_takeNumbers_20 ?_
        refine g_iast F 12 rfl (r) (by omega) (by omega) (by decide) (wMO cA m (((m_nc : Nat) : Int)) (((m_nr : Nat) : Int)) (m_ke) (m_so) (m_bu) (m_bc) (m_pu) (m_qu) (m_fs) (m_cd) (m_un) (m_hb) (m_pf) (m_ef) ++ wMP cA m (m_kd) (m_lo) (m_hi) (m_co) (m_pa) (m_rk) (m_nu) (m_ct) (m_sa) ++ wMX cA m (m_fx) (m_fv) (va_up sx r (m_nu r))) rfl dX7_takeNumbers_21 ?_
        refine g_iinc F 1 rfl ([(1, iv ((((r : Nat) : Int)) + 1)), (0, .ref (m 0))]) rfl (by decide) dX7_takeNumbers_22 ?_
        refine g_goto F (tgt := 2) dX7_takeNumbers_25 (by decide) ?_
        refine g_lsub ([(0, .ref (m 0)), (1, iv ((((r : Nat) : Int)) + 1))]) [1, 0] rfl ?_
        exact ih2 (r + 1) (va_up sx r (m_nu r)) (by omega) (by rw [hsx]; exact mix_up rfl) (by omega)
  refine g_lsub ([(0, .ref (m 0)), (1, iv (0))]) [1, 0] rfl ?_
  exact lp2 (_ + 1) 0 m_sn (by omega) (mix_0 _ _).symm (Nat.lt_succ_self _)

set_option maxHeartbeats 4000000 in
set_option maxRecDepth 100000 in
theorem kX7_search (l : Launch) (D : va_G) (cA : Nat → ClassId) (m : Nat → Nat) (m_nc : Nat) (m_nr : Nat) (m_ke : Int) (m_so : Int) (m_bu : Int) (m_bc : Int) (m_pu : Int) (m_qu : Int) (m_fs : Int) (m_cd : Int) (m_un : Int) (m_hb : Int) (m_pf : Int) (m_ef : Int) (m_kd : Nat → Int) (m_lo : Nat → Int) (m_hi : Nat → Int) (m_co : Nat → Int) (m_pa : Nat → Int) (m_rk : Nat → Int) (m_nu : Nat → Int) (m_ct : Nat → Int) (m_sa : Nat → Int) (m_fr : Nat → Int) (m_cs : Nat → Int) (m_cn : Nat → Int) (m_ck : Nat → Int) (m_ch : Nat → Int) (m_tb : Nat → Int) (m_cr : Nat → Int) (m_fx : Nat → Int) (m_fv : Nat → Int) (m_sn : Nat → Int) (m_be : Nat → Int) (m_tr : Nat → Int) (m_wy : Nat → Int) (st : Prop) (dst : Decidable st) (hP : colsOk m_nc m_kd m_pa m_lo m_hi) (hpa : ∀ c, c < m_nc → m_pa c = -2000000005 ∨ (0 ≤ m_pa c ∧ m_pa c < (m_nc : Int))) (hle : ∀ c, c < m_nc → m_hi c ≠ NONEz → m_lo c ≤ m_hi c) (qnr : m_nr ≤ 7) (hrk : ∀ j, 0 ≤ m_rk j ∧ m_rk j ≤ 2) (hsa : ∀ j, -9 ≤ m_sa j ∧ m_sa j ≤ 9) (qct : ∀ j, 0 ≤ m_ct j ∧ m_ct j ≤ 1) (hsn : ∀ j, j < m_nr → -198 ≤ m_sn j ∧ m_sn j ≤ 198) (hco : ∀ j, -9 ≤ m_co j ∧ m_co j ≤ 9) : CT l yX7_search wsX7_search ({ frames := 5, cells := 0, slots := 0, locals := 127 }) D cA [.ref (m 0), iv (if st then 1 else 0)] (wMO cA m (((m_nc : Nat) : Int)) (((m_nr : Nat) : Int)) (m_ke) (m_so) (m_bu) (m_bc) (m_pu) (m_qu) (m_fs) (m_cd) (m_un) (m_hb) (m_pf) (m_ef) ++ wMP cA m (m_kd) (m_lo) (m_hi) (m_co) (m_pa) (m_rk) (m_nu) (m_ct) (m_sa) ++ wME cA m (m_fr) (m_cs) (m_cn) (m_ck) (m_ch) (m_tb) (m_cr) ++ wMX cA m (m_fx) (m_fv) (m_sn) ++ wMB cA m (m_be) (m_tr) (m_wy)) (fun ov ow => ∃ (ke : Int) (fx : Nat → Int) (fv : Nat → Int) (fr : Nat → Int) (fs : Int) (cs : Nat → Int) (cn : Nat → Int) (ck : Nat → Int) (cd : Int) (ch : Nat → Int) (tb : Nat → Int) (cr : Nat → Int) (un : Int) (tr : Nat → Int) (be : Nat → Int) (bc : Int) (bu : Int) (hb : Int) (wy : Nat → Int) (pf : Int) (ef : Int), (semP m_nc m_co (FP m_nc (kdS (decide st) m_kd) m_pa m_lo m_hi (phiP m_rk m_ct m_sa m_nc m_sn m_nr)) (be, bc, bu, ke) ∧ ∀ j, m_nc ≤ j → be j = 0) ∧ ov = some (iv (ke)) ∧ ow = wMO cA m (((m_nc : Nat) : Int)) (((m_nr : Nat) : Int)) (ke) (m_so + 1) (bu) (bc) (m_pu) (m_qu) (fs) (cd) (un) (hb) (pf) (ef) ++ wMP cA m (m_kd) (m_lo) (m_hi) (m_co) (m_pa) (m_rk) (m_nu) (m_ct) (m_sa) ++ wME cA m (fr) (cs) (cn) (ck) (ch) (tb) (cr) ++ wMX cA m (fx) (fv) (m_sn) ++ wMB cA m (be) (tr) (wy)) 0 0 := by
  refine CT.mk (cc := cX7_search) (maxL := 3) (ret := (some .int)) (by decide +kernel) rfl (Nat.le_of_ble_eq_true rfl) ?_
  intro p_ e_ s_ m_ b_ me_ c_ A F hnm hA
  have hV := @IM_P D s_ A
  have iX7 : ∀ w ∈ u_ws RX7 TX7 38, w ∈ wsX7_search := by decide +kernel
  have qnc := hP.1
  have qkd := hP.2.1
  have hlo := hP.2.2.1
  have hhi := hP.2.2.2.1
  have hPK : colsOk m_nc (kdS (decide st) m_kd) m_pa m_lo m_hi := by by_cases z : st; (rw [kd_yes z]; exact hP); (rw [kd_no z]; exact cols_kd0 hP)
  refine g_lsub ([(0, .ref (m 0)), (1, iv (if st then 1 else 0))]) [0, 1] rfl ?_
  refine g_aload_n F 0 rfl rfl dX7_search_0 ?_
  refine g_iconst F dX7_search_1 ?_
  refine g_put F iX7 tyX7 tyX7_ok nmX7 0 rfl rfl 33 (by decide) (List.mem_of_getElem? (i := 1) rfl) rfl (nar_01 (by first | exact Or.inl rfl | exact Or.inr rfl)) rfl (Nat.le_of_ble_eq_true rfl) (wMO cA m (((m_nc : Nat) : Int)) (((m_nr : Nat) : Int)) (m_ke) (m_so) (m_bu) (m_bc) (m_pu) (m_qu) (m_fs) (m_cd) (m_un) (0) (m_pf) (m_ef) ++ wMP cA m (m_kd) (m_lo) (m_hi) (m_co) (m_pa) (m_rk) (m_nu) (m_ct) (m_sa) ++ wME cA m (m_fr) (m_cs) (m_cn) (m_ck) (m_ch) (m_tb) (m_cr) ++ wMX cA m (m_fx) (m_fv) (m_sn) ++ wMB cA m (m_be) (m_tr) (m_wy)) rfl dX7_search_2 ?_
  refine g_aload_n F 0 rfl rfl dX7_search_5 ?_
  refine g_iconst F dX7_search_6 ?_
  refine g_put F iX7 tyX7 tyX7_ok nmX7 0 rfl rfl 36 (by decide) (List.mem_of_getElem? (i := 2) rfl) rfl (nar_01 (by first | exact Or.inl rfl | exact Or.inr rfl)) rfl (Nat.le_of_ble_eq_true rfl) (wMO cA m (((m_nc : Nat) : Int)) (((m_nr : Nat) : Int)) (m_ke) (m_so) (m_bu) (m_bc) (m_pu) (m_qu) (m_fs) (m_cd) (m_un) (0) (0) (m_ef) ++ wMP cA m (m_kd) (m_lo) (m_hi) (m_co) (m_pa) (m_rk) (m_nu) (m_ct) (m_sa) ++ wME cA m (m_fr) (m_cs) (m_cn) (m_ck) (m_ch) (m_tb) (m_cr) ++ wMX cA m (m_fx) (m_fv) (m_sn) ++ wMB cA m (m_be) (m_tr) (m_wy)) rfl dX7_search_7 ?_
  refine g_aload_n F 0 rfl rfl dX7_search_10 ?_
  refine g_iconst F dX7_search_11 ?_
  refine g_put F iX7 tyX7 tyX7_ok nmX7 0 rfl rfl 37 (by decide) (List.mem_of_getElem? (i := 3) rfl) rfl (nar_01 (by first | exact Or.inl rfl | exact Or.inr rfl)) rfl (Nat.le_of_ble_eq_true rfl) (wMO cA m (((m_nc : Nat) : Int)) (((m_nr : Nat) : Int)) (m_ke) (m_so) (m_bu) (m_bc) (m_pu) (m_qu) (m_fs) (m_cd) (m_un) (0) (0) (0) ++ wMP cA m (m_kd) (m_lo) (m_hi) (m_co) (m_pa) (m_rk) (m_nu) (m_ct) (m_sa) ++ wME cA m (m_fr) (m_cs) (m_cn) (m_ck) (m_ch) (m_tb) (m_cr) ++ wMX cA m (m_fx) (m_fv) (m_sn) ++ wMB cA m (m_be) (m_tr) (m_wy)) rfl dX7_search_12 ?_
  refine g_iconst F dX7_search_15 ?_
  refine g_istore_n F ([(2, iv (0)), (0, .ref (m 0)), (1, iv (if st then 1 else 0))]) rfl rfl (by decide) dX7_search_16 ?_
  have lp17 : ∀ (n : Nat) (k : Nat) (wx : Nat → Int) (hk : k ≤ 32) (hwx : ∀ q, q < k → wx q = 0), 32 - k < n → GW p_ l e_ (headSpec wsX7_search ({ frames := 5, cells := 0, slots := 0, locals := 127 })).room s_ m_ ([.ref (m 0), iv (if st then 1 else 0)]).toArray b_ me_ c_ (MQ b_ (Qm D (fun ov ow => ∃ (ke : Int) (fx : Nat → Int) (fv : Nat → Int) (fr : Nat → Int) (fs : Int) (cs : Nat → Int) (cn : Nat → Int) (ck : Nat → Int) (cd : Int) (ch : Nat → Int) (tb : Nat → Int) (cr : Nat → Int) (un : Int) (tr : Nat → Int) (be : Nat → Int) (bc : Int) (bu : Int) (hb : Int) (wy : Nat → Int) (pf : Int) (ef : Int), (semP m_nc m_co (FP m_nc (kdS (decide st) m_kd) m_pa m_lo m_hi (phiP m_rk m_ct m_sa m_nc m_sn m_nr)) (be, bc, bu, ke) ∧ ∀ j, m_nc ≤ j → be j = 0) ∧ ov = some (iv (ke)) ∧ ow = wMO cA m (((m_nc : Nat) : Int)) (((m_nr : Nat) : Int)) (ke) (m_so + 1) (bu) (bc) (m_pu) (m_qu) (fs) (cd) (un) (hb) (pf) (ef) ++ wMP cA m (m_kd) (m_lo) (m_hi) (m_co) (m_pa) (m_rk) (m_nu) (m_ct) (m_sa) ++ wME cA m (fr) (cs) (cn) (ck) (ch) (tb) (cr) ++ wMX cA m (fx) (fv) (m_sn) ++ wMB cA m (be) (tr) (wy)) A) ([.ref (m 0), iv (if st then 1 else 0)]).toArray s_ 0 0 A) (IM D s_ A) 3 0 0 (wMO cA m (((m_nc : Nat) : Int)) (((m_nr : Nat) : Int)) (m_ke) (m_so) (m_bu) (m_bc) (m_pu) (m_qu) (m_fs) (m_cd) (m_un) (0) (0) (0) ++ wMP cA m (m_kd) (m_lo) (m_hi) (m_co) (m_pa) (m_rk) (m_nu) (m_ct) (m_sa) ++ wME cA m (m_fr) (m_cs) (m_cn) (m_ck) (m_ch) (m_tb) (m_cr) ++ wMX cA m (m_fx) (m_fv) (m_sn) ++ wMB cA m (m_be) (m_tr) (wx)) ([(0, .ref (m 0)), (1, iv (if st then 1 else 0)), (2, iv (((k : Nat) : Int)))]) [] 17 := by
    intro n; induction n with
    | zero => intro k wx; intros; omega
    | succ n ih17 =>
      intro k wx hk hwx hmu17
      refine g_iload_n F 2 rfl rfl dX7_search_17 ?_
      refine g_bipush F dX7_search_18 (by decide) ?_
      refine g_icmp_ge F (tgt := 36) dX7_search_20 (by decide) ⟨by omega, by omega⟩ ⟨by decide, by decide⟩ (fun c_1 => ?_) (fun c_1 => ?_)
      · skip
        refine g_iconst F dX7_search_36 ?_
        refine g_istore_n F ([(2, iv (0)), (0, .ref (m 0)), (1, iv (if st then 1 else 0))]) rfl rfl (by decide) dX7_search_37 ?_
        have lp38 : ∀ (n : Nat) (c : Nat) (bx : Nat → Int) (vx : Nat → Int) (hc : c ≤ 5) (hbx : ∀ q, q < c → bx q = 0) (hvx : ∀ q, q < c → vx q = if q < m_nc then m_lo q else 0), 5 - c < n → GW p_ l e_ (headSpec wsX7_search ({ frames := 5, cells := 0, slots := 0, locals := 127 })).room s_ m_ ([.ref (m 0), iv (if st then 1 else 0)]).toArray b_ me_ c_ (MQ b_ (Qm D (fun ov ow => ∃ (ke : Int) (fx : Nat → Int) (fv : Nat → Int) (fr : Nat → Int) (fs : Int) (cs : Nat → Int) (cn : Nat → Int) (ck : Nat → Int) (cd : Int) (ch : Nat → Int) (tb : Nat → Int) (cr : Nat → Int) (un : Int) (tr : Nat → Int) (be : Nat → Int) (bc : Int) (bu : Int) (hb : Int) (wy : Nat → Int) (pf : Int) (ef : Int), (semP m_nc m_co (FP m_nc (kdS (decide st) m_kd) m_pa m_lo m_hi (phiP m_rk m_ct m_sa m_nc m_sn m_nr)) (be, bc, bu, ke) ∧ ∀ j, m_nc ≤ j → be j = 0) ∧ ov = some (iv (ke)) ∧ ow = wMO cA m (((m_nc : Nat) : Int)) (((m_nr : Nat) : Int)) (ke) (m_so + 1) (bu) (bc) (m_pu) (m_qu) (fs) (cd) (un) (hb) (pf) (ef) ++ wMP cA m (m_kd) (m_lo) (m_hi) (m_co) (m_pa) (m_rk) (m_nu) (m_ct) (m_sa) ++ wME cA m (fr) (cs) (cn) (ck) (ch) (tb) (cr) ++ wMX cA m (fx) (fv) (m_sn) ++ wMB cA m (be) (tr) (wy)) A) ([.ref (m 0), iv (if st then 1 else 0)]).toArray s_ 0 0 A) (IM D s_ A) 3 0 0 (wMO cA m (((m_nc : Nat) : Int)) (((m_nr : Nat) : Int)) (m_ke) (m_so) (m_bu) (m_bc) (m_pu) (m_qu) (m_fs) (m_cd) (m_un) (0) (0) (0) ++ wMP cA m (m_kd) (m_lo) (m_hi) (m_co) (m_pa) (m_rk) (m_nu) (m_ct) (m_sa) ++ wME cA m (m_fr) (m_cs) (m_cn) (m_ck) (m_ch) (m_tb) (m_cr) ++ wMX cA m (m_fx) (vx) (m_sn) ++ wMB cA m (bx) (m_tr) (wx)) ([(0, .ref (m 0)), (1, iv (if st then 1 else 0)), (2, iv (((c : Nat) : Int)))]) [] 38 := by
          intro n; induction n with
          | zero => intro c bx vx; intros; omega
          | succ n ih38 =>
            intro c bx vx hc hbx hvx hmu38
            refine g_iload_n F 2 rfl rfl dX7_search_38 ?_
            refine g_iconst F dX7_search_39 ?_
            refine g_icmp_ge F (tgt := 81) dX7_search_40 (by decide) ⟨by omega, by omega⟩ ⟨by decide, by decide⟩ (fun c_2 => ?_) (fun c_2 => ?_)
            · skip
              refine g_acongJ 20 (fun _ => 0) rfl (fun j hj => hbx j (by omega)) (wMO cA m (((m_nc : Nat) : Int)) (((m_nr : Nat) : Int)) (m_ke) (m_so) (m_bu) (m_bc) (m_pu) (m_qu) (m_fs) (m_cd) (m_un) (0) (0) (0) ++ wMP cA m (m_kd) (m_lo) (m_hi) (m_co) (m_pa) (m_rk) (m_nu) (m_ct) (m_sa) ++ wME cA m (m_fr) (m_cs) (m_cn) (m_ck) (m_ch) (m_tb) (m_cr) ++ wMX cA m (m_fx) (vx) (m_sn) ++ wMB cA m (fun _ => 0) (m_tr) (wx)) rfl ?_
              refine g_aload_n F 0 rfl rfl dX7_search_81 ?_
              refine g_lconst F (z := 1) dX7_search_82 (by decide) ?_
              refine g_put F iX7 tyX7 tyX7_ok nmX7 0 rfl rfl 14 (by decide) (List.mem_of_getElem? (i := 9) rfl) rfl rfl rfl (Nat.le_of_ble_eq_true rfl) (wMO cA m (((m_nc : Nat) : Int)) (((m_nr : Nat) : Int)) (m_ke) (m_so) (1) (m_bc) (m_pu) (m_qu) (m_fs) (m_cd) (m_un) (0) (0) (0) ++ wMP cA m (m_kd) (m_lo) (m_hi) (m_co) (m_pa) (m_rk) (m_nu) (m_ct) (m_sa) ++ wME cA m (m_fr) (m_cs) (m_cn) (m_ck) (m_ch) (m_tb) (m_cr) ++ wMX cA m (m_fx) (vx) (m_sn) ++ wMB cA m (fun _ => 0) (m_tr) (wx)) rfl dX7_search_83 ?_
              refine g_acongJ 18 (fun q => if q < m_nc then m_lo q else 0) rfl (fun j hj => hvx j (by omega)) (wMO cA m (((m_nc : Nat) : Int)) (((m_nr : Nat) : Int)) (m_ke) (m_so) (1) (m_bc) (m_pu) (m_qu) (m_fs) (m_cd) (m_un) (0) (0) (0) ++ wMP cA m (m_kd) (m_lo) (m_hi) (m_co) (m_pa) (m_rk) (m_nu) (m_ct) (m_sa) ++ wME cA m (m_fr) (m_cs) (m_cn) (m_ck) (m_ch) (m_tb) (m_cr) ++ wMX cA m (m_fx) (fun q => if q < m_nc then m_lo q else 0) (m_sn) ++ wMB cA m (fun _ => 0) (m_tr) (wx)) rfl ?_
              refine g_aload_n F 0 rfl rfl dX7_search_86 ?_
              refine g_lconst F (z := 0) dX7_search_87 (by decide) ?_
              refine g_put F iX7 tyX7 tyX7_ok nmX7 0 rfl rfl 15 (by decide) (List.mem_of_getElem? (i := 10) rfl) rfl rfl rfl (Nat.le_of_ble_eq_true rfl) (wMO cA m (((m_nc : Nat) : Int)) (((m_nr : Nat) : Int)) (m_ke) (m_so) (1) (0) (m_pu) (m_qu) (m_fs) (m_cd) (m_un) (0) (0) (0) ++ wMP cA m (m_kd) (m_lo) (m_hi) (m_co) (m_pa) (m_rk) (m_nu) (m_ct) (m_sa) ++ wME cA m (m_fr) (m_cs) (m_cn) (m_ck) (m_ch) (m_tb) (m_cr) ++ wMX cA m (m_fx) (fun q => if q < m_nc then m_lo q else 0) (m_sn) ++ wMB cA m (fun _ => 0) (m_tr) (wx)) rfl dX7_search_88 ?_
              refine g_acongI 22 (fun _ => 0) rfl (fun j hj => hwx j (by omega)) (wMO cA m (((m_nc : Nat) : Int)) (((m_nr : Nat) : Int)) (m_ke) (m_so) (1) (0) (m_pu) (m_qu) (m_fs) (m_cd) (m_un) (0) (0) (0) ++ wMP cA m (m_kd) (m_lo) (m_hi) (m_co) (m_pa) (m_rk) (m_nu) (m_ct) (m_sa) ++ wME cA m (m_fr) (m_cs) (m_cn) (m_ck) (m_ch) (m_tb) (m_cr) ++ wMX cA m (m_fx) (fun q => if q < m_nc then m_lo q else 0) (m_sn) ++ wMB cA m (fun _ => 0) (m_tr) (fun _ => 0)) rfl ?_
              refine g_iconst F dX7_search_91 ?_
              refine g_istore_n F ([(2, iv (1)), (0, .ref (m 0)), (1, iv (if st then 1 else 0))]) rfl rfl (by decide) dX7_search_92 ?_
              have lp93 : ∀ (n : Nat) (mo : Int) (fa : Nat → Int) (va : Nat → Int) (frx : Nat → Int) (fsx : Int) (csx : Nat → Int) (cnx : Nat → Int) (ckx : Nat → Int) (cdx : Int) (chx : Nat → Int) (tbx : Nat → Int) (crx : Nat → Int) (unx : Int) (trx : Nat → Int) (bex : Nat → Int) (bcx : Int) (bux : Int) (hbx : Int) (wyx : Nat → Int) (pfx : Int) (efx : Int) (hmo : mo = 0 ∨ mo = 1) (hS : seI m_nc m_nr (kdS (decide st) m_kd) m_pa m_lo m_hi m_rk m_sn m_ct m_sa m_co bex bcx bux hbx pfx efx) (hW : wyI m_nc m_nr m_rk m_ct m_sa m_co wyx) (hvb : ∀ q, q < m_nc → -20 ≤ va q ∧ va q ≤ 20) (hm1 : mo = 1 → asgP m_nc (kdS (decide st) m_kd) m_lo m_hi va ∧ ∀ g, asgP m_nc (kdS (decide st) m_kd) m_lo m_hi g → bfr m_nc (kdS (decide st) m_kd) g va → VQ m_nc m_nr (kdS (decide st) m_kd) m_pa m_lo m_hi m_rk m_sn m_ct m_sa m_co bex bcx bux pfx efx g) (hm0 : mo = 0 → ∀ g, asgP m_nc (kdS (decide st) m_kd) m_lo m_hi g → VQ m_nc m_nr (kdS (decide st) m_kd) m_pa m_lo m_hi m_rk m_sn m_ct m_sa m_co bex bcx bux pfx efx g), (if mo = 1 then 100001 - rkF (kdS (decide st) m_kd) m_lo va m_nc else 0) < n → GW p_ l e_ (headSpec wsX7_search ({ frames := 5, cells := 0, slots := 0, locals := 127 })).room s_ m_ ([.ref (m 0), iv (if st then 1 else 0)]).toArray b_ me_ c_ (MQ b_ (Qm D (fun ov ow => ∃ (ke : Int) (fx : Nat → Int) (fv : Nat → Int) (fr : Nat → Int) (fs : Int) (cs : Nat → Int) (cn : Nat → Int) (ck : Nat → Int) (cd : Int) (ch : Nat → Int) (tb : Nat → Int) (cr : Nat → Int) (un : Int) (tr : Nat → Int) (be : Nat → Int) (bc : Int) (bu : Int) (hb : Int) (wy : Nat → Int) (pf : Int) (ef : Int), (semP m_nc m_co (FP m_nc (kdS (decide st) m_kd) m_pa m_lo m_hi (phiP m_rk m_ct m_sa m_nc m_sn m_nr)) (be, bc, bu, ke) ∧ ∀ j, m_nc ≤ j → be j = 0) ∧ ov = some (iv (ke)) ∧ ow = wMO cA m (((m_nc : Nat) : Int)) (((m_nr : Nat) : Int)) (ke) (m_so + 1) (bu) (bc) (m_pu) (m_qu) (fs) (cd) (un) (hb) (pf) (ef) ++ wMP cA m (m_kd) (m_lo) (m_hi) (m_co) (m_pa) (m_rk) (m_nu) (m_ct) (m_sa) ++ wME cA m (fr) (cs) (cn) (ck) (ch) (tb) (cr) ++ wMX cA m (fx) (fv) (m_sn) ++ wMB cA m (be) (tr) (wy)) A) ([.ref (m 0), iv (if st then 1 else 0)]).toArray s_ 0 0 A) (IM D s_ A) 3 0 0 (wMO cA m (((m_nc : Nat) : Int)) (((m_nr : Nat) : Int)) (m_ke) (m_so) (bux) (bcx) (m_pu) (m_qu) (fsx) (cdx) (unx) (hbx) (pfx) (efx) ++ wMP cA m (m_kd) (m_lo) (m_hi) (m_co) (m_pa) (m_rk) (m_nu) (m_ct) (m_sa) ++ wME cA m (frx) (csx) (cnx) (ckx) (chx) (tbx) (crx) ++ wMX cA m (fa) (va) (m_sn) ++ wMB cA m (bex) (trx) (wyx)) ([(0, .ref (m 0)), (1, iv (if st then 1 else 0)), (2, iv (mo))]) [] 93 := by
                intro n; induction n with
                | zero => intro mo fa va frx fsx csx cnx ckx cdx chx tbx crx unx trx bex bcx bux hbx wyx pfx efx; intros; omega
                | succ n ih93 =>
                  intro mo fa va frx fsx csx cnx ckx cdx chx tbx crx unx trx bex bcx bux hbx wyx pfx efx hmo hS hW hvb hm1 hm0 hmu93
                  refine g_iload_n F 2 rfl rfl dX7_search_93 ?_
                  refine g_if_eq F (tgt := 137) dX7_search_94 (by decide) ⟨by omega, by omega⟩ (fun c_3 => ?_) (fun c_3 => ?_)
                  · skip
                    have hm9 := hm0 (by omega)
                    have hp01 := hS.2.1
                    have he01 := hS.2.2.1
                    refine g_aload_n F 0 rfl rfl dX7_search_137 ?_
                    refine g_dup F rfl dX7_search_138 ?_
                    refine g_get F hV iX7 0 rfl rfl 12 (by decide) (List.mem_of_getElem? (i := 11) rfl) rfl dX7_search_139 ?_
                    refine g_iconst F dX7_search_142 ?_
                    refine g_iadd F dX7_search_143 ?_
                    refine g_put F iX7 tyX7 tyX7_ok nmX7 0 rfl rfl 12 (by decide) (List.mem_of_getElem? (i := 11) rfl) rfl rfl rfl (Nat.le_of_ble_eq_true rfl) (wMO cA m (((m_nc : Nat) : Int)) (((m_nr : Nat) : Int)) (m_ke) (m_so + 1) (bux) (bcx) (m_pu) (m_qu) (fsx) (cdx) (unx) (hbx) (pfx) (efx) ++ wMP cA m (m_kd) (m_lo) (m_hi) (m_co) (m_pa) (m_rk) (m_nu) (m_ct) (m_sa) ++ wME cA m (frx) (csx) (cnx) (ckx) (chx) (tbx) (crx) ++ wMX cA m (fa) (va) (m_sn) ++ wMB cA m (bex) (trx) (wyx)) rfl dX7_search_144 ?_
                    refine g_aload_n F 0 rfl rfl dX7_search_147 ?_
                    refine g_aload_n F 0 rfl rfl dX7_search_148 ?_
                    refine g_get F hV iX7 0 rfl rfl 36 (by decide) (List.mem_of_getElem? (i := 2) rfl) rfl dX7_search_149 ?_
                    refine g_if_ne F (tgt := 159) dX7_search_152 (by decide) ⟨by omega, by omega⟩ (fun c_4 => ?_) (fun c_4 => ?_)
                    · skip
                      refine g_aload_n F 0 rfl rfl dX7_search_159 ?_
                      refine g_get F hV iX7 0 rfl rfl 37 (by decide) (List.mem_of_getElem? (i := 3) rfl) rfl dX7_search_160 ?_
                      refine g_if_eq F (tgt := 170) dX7_search_163 (by decide) ⟨by omega, by omega⟩ (fun c_5 => ?_) (fun c_5 => ?_)
                      · skip
                        refine g_iconst F dX7_search_170 ?_
                        refine g_put F iX7 tyX7 tyX7_ok nmX7 0 rfl rfl 11 (by decide) (List.mem_of_getElem? (i := 12) rfl) rfl rfl rfl (Nat.le_of_ble_eq_true rfl) (wMO cA m (((m_nc : Nat) : Int)) (((m_nr : Nat) : Int)) (0) (m_so + 1) (bux) (bcx) (m_pu) (m_qu) (fsx) (cdx) (unx) (hbx) (pfx) (efx) ++ wMP cA m (m_kd) (m_lo) (m_hi) (m_co) (m_pa) (m_rk) (m_nu) (m_ct) (m_sa) ++ wME cA m (frx) (csx) (cnx) (ckx) (chx) (tbx) (crx) ++ wMX cA m (fa) (va) (m_sn) ++ wMB cA m (bex) (trx) (wyx)) rfl dX7_search_171 ?_
                        refine g_aload_n F 0 rfl rfl dX7_search_174 ?_
                        refine g_get F hV iX7 0 rfl rfl 11 (by decide) (List.mem_of_getElem? (i := 12) rfl) rfl dX7_search_175 ?_
                        exact g_zret F rfl rfl (by decide) (by decide) ⟨0, fa, va, frx, fsx, csx, cnx, ckx, cdx, chx, tbx, crx, unx, trx, bex, bcx, bux, hbx, wyx, pfx, efx, (se_end hPK hS hm9 (by omega)), congrArg (fun z => some (iv z)) (show (0 : Int) = 0 by rfl), rfl⟩ dX7_search_178
                      · skip
                        refine g_iconst F dX7_search_166 ?_
                        refine g_goto F (tgt := 171) dX7_search_167 (by decide) ?_
                        refine g_put F iX7 tyX7 tyX7_ok nmX7 0 rfl rfl 11 (by decide) (List.mem_of_getElem? (i := 12) rfl) rfl rfl rfl (Nat.le_of_ble_eq_true rfl) (wMO cA m (((m_nc : Nat) : Int)) (((m_nr : Nat) : Int)) (2) (m_so + 1) (bux) (bcx) (m_pu) (m_qu) (fsx) (cdx) (unx) (hbx) (pfx) (efx) ++ wMP cA m (m_kd) (m_lo) (m_hi) (m_co) (m_pa) (m_rk) (m_nu) (m_ct) (m_sa) ++ wME cA m (frx) (csx) (cnx) (ckx) (chx) (tbx) (crx) ++ wMX cA m (fa) (va) (m_sn) ++ wMB cA m (bex) (trx) (wyx)) rfl dX7_search_171 ?_
                        refine g_aload_n F 0 rfl rfl dX7_search_174 ?_
                        refine g_get F hV iX7 0 rfl rfl 11 (by decide) (List.mem_of_getElem? (i := 12) rfl) rfl dX7_search_175 ?_
                        exact g_zret F rfl rfl (by decide) (by decide) ⟨2, fa, va, frx, fsx, csx, cnx, ckx, cdx, chx, tbx, crx, unx, trx, bex, bcx, bux, hbx, wyx, pfx, efx, (se_end hPK hS hm9 (by omega)), congrArg (fun z => some (iv z)) (show (2 : Int) = 2 by rfl), rfl⟩ dX7_search_178
                    · skip
                      refine g_iconst F dX7_search_155 ?_
                      refine g_goto F (tgt := 171) dX7_search_156 (by decide) ?_
                      refine g_put F iX7 tyX7 tyX7_ok nmX7 0 rfl rfl 11 (by decide) (List.mem_of_getElem? (i := 12) rfl) rfl rfl rfl (Nat.le_of_ble_eq_true rfl) (wMO cA m (((m_nc : Nat) : Int)) (((m_nr : Nat) : Int)) (1) (m_so + 1) (bux) (bcx) (m_pu) (m_qu) (fsx) (cdx) (unx) (hbx) (pfx) (efx) ++ wMP cA m (m_kd) (m_lo) (m_hi) (m_co) (m_pa) (m_rk) (m_nu) (m_ct) (m_sa) ++ wME cA m (frx) (csx) (cnx) (ckx) (chx) (tbx) (crx) ++ wMX cA m (fa) (va) (m_sn) ++ wMB cA m (bex) (trx) (wyx)) rfl dX7_search_171 ?_
                      refine g_aload_n F 0 rfl rfl dX7_search_174 ?_
                      refine g_get F hV iX7 0 rfl rfl 11 (by decide) (List.mem_of_getElem? (i := 12) rfl) rfl dX7_search_175 ?_
                      exact g_zret F rfl rfl (by decide) (by decide) ⟨1, fa, va, frx, fsx, csx, cnx, ckx, cdx, chx, tbx, crx, unx, trx, bex, bcx, bux, hbx, wyx, pfx, efx, (se_end hPK hS hm9 (by omega)), congrArg (fun z => some (iv z)) (show (1 : Int) = 1 by rfl), rfl⟩ dX7_search_178
                  · skip
                    have hmo1 : mo = 1 := by omega
                    obtain ⟨hasg, hbf⟩ := hm1 hmo1
                    have hrk9 : 0 < 100001 - rkF (kdS (decide st) m_kd) m_lo va m_nc := by have h1 := rk_lt (kd := (kdS (decide st) m_kd)) (lo := m_lo) (hi := m_hi) (f := va) m_nc (fun c hc hk => ⟨(hasg c hc hk).1, (hasg c hc hk).2, (hPK.2.2.2.2.1 c hc hk).2⟩); have h2 : (10 : Nat) ^ m_nc ≤ 10 ^ 5 := Nat.pow_le_pow_right (by decide) qnc; omega
                    refine g_aload_n F 0 rfl rfl dX7_search_97 ?_
                    refine g_iload_n F 1 rfl rfl dX7_search_98 ?_
                    refine g_callV F (As := [iv (if st then 1 else 0)]) (rest := []) (wr := wME cA m (frx) (csx) (cnx) (ckx) (chx) (tbx) (crx) ++ wMB cA m (bex) (trx) (wyx)) (kX7_fixWhole l D cA m m_nc m_nr m_ke m_so bux bcx m_pu m_qu fsx cdx unx hbx pfx efx m_kd m_lo m_hi m_co m_pa m_rk m_nu m_ct m_sa fa va m_sn st inferInstance (qnc) (qkd)) (cwV 1 F.2.2.2.2.1 gX7_search_X7_fixWhole rfl rfl rfl (by decide +kernel) ⟨Nat.le_of_ble_eq_true rfl, Nat.le_of_ble_eq_true rfl⟩) rfl rfl (q0 := 0) rfl [0, 1, 2, 3, 4, 5, 6, 7, 8, 9, 17, 18, 19] [10, 11, 12, 13, 14, 15, 16, 20, 21, 22] rfl rfl (by decide) (by decide) (by decide) rfl rfl (Nat.le_of_ble_eq_true rfl) ⟨Nat.le_of_ble_eq_true rfl, Nat.le_of_ble_eq_true rfl⟩ hA dX7_search_99 (fun v w hv => ?_)
                    obtain ⟨hv, hw⟩ := hv
                    subst hv
                    subst hw
                    refine g_wsub (wMO cA m (((m_nc : Nat) : Int)) (((m_nr : Nat) : Int)) (m_ke) (m_so) (bux) (bcx) (m_pu) (m_qu) (fsx) (cdx) (unx) (hbx) (pfx) (efx) ++ wMP cA m (m_kd) (m_lo) (m_hi) (m_co) (m_pa) (m_rk) (m_nu) (m_ct) (m_sa) ++ wME cA m (frx) (csx) (cnx) (ckx) (chx) (tbx) (crx) ++ wMX cA m (mixZ (fun c => if st ∧ 1 ≤ m_kd c then 1 else 0) fa m_nc) (va) (m_sn) ++ wMB cA m (bex) (trx) (wyx)) [10, 11, 12, 13, 14, 15, 16, 17, 18, 19, 0, 1, 2, 3, 4, 5, 6, 20, 21, 22, 7, 8, 9] (by decide) rfl ?_
                    refine g_eq (st' := []) rfl rfl rfl ?_
                    refine g_iload_n F 1 rfl rfl dX7_search_102 ?_
                    refine g_ifb_eq F (tgt := 113) dX7_search_103 (by decide) (fun c_6 => ?_) (fun c_6 => ?_)
                    · skip
                      have hst : ¬ st := by assumption
                      have hfxT : ∀ j, j < m_nc → 0 ≤ (mixZ (fun c => if st ∧ 1 ≤ m_kd c then 1 else 0) fa m_nc) j ∧ (mixZ (fun c => if st ∧ 1 ≤ m_kd c then 1 else 0) fa m_nc) j ≤ 1 := fun j hj => by rw [mix_lt hj]; split <;> decide
                      have hfvT : ∀ j, j < m_nc → (mixZ (fun c => if st ∧ 1 ≤ m_kd c then 1 else 0) fa m_nc) j ≠ 0 → -20 ≤ va j ∧ va j ≤ 20 := fun j hj _ => hvb j hj
                      have hfz : ∀ c, c < m_nc → bzF (mixZ (fun c => if st ∧ 1 ≤ m_kd c then 1 else 0) fa m_nc) c = false := fun c hc => decide_eq_false (fun z => z (by rw [mix_lt hc, if_neg (fun y => hst y.1)]))
                      have hF9 : ∀ c, c < m_nc → fxB m_nc (kdS (decide st) m_kd) m_pa va c = bzF (mixZ (fun c => if st ∧ 1 ≤ m_kd c then 1 else 0) fa m_nc) c := fun c hc => by rw [hfz c hc, kd_no hst]; exact no_fx c
                      have hV9 : ∀ c, c < m_nc → bzF (mixZ (fun c => if st ∧ 1 ≤ m_kd c then 1 else 0) fa m_nc) c = true → fvF (kdS (decide st) m_kd) va c = va c := fun c hc z => by rw [hfz c hc] at z; cases z
                      have hp9 : pOkP m_nc (kdS (decide st) m_kd) m_pa m_lo m_hi va := by rw [kd_no hst]; exact fun c _ hk => absurd (show (0 : Int) = 2 from hk) (by decide)
                      refine g_aload_n F 0 rfl rfl dX7_search_113 ?_
                      refine g_callV F (As := []) (rest := []) (wr := []) (kX7_tryFixed l D cA m m_nc m_nr m_ke m_so bux bcx m_pu m_qu fsx cdx unx hbx pfx efx m_kd m_lo m_hi m_co m_pa m_rk m_nu m_ct m_sa frx csx cnx ckx chx tbx crx (mixZ (fun c => if st ∧ 1 ≤ m_kd c then 1 else 0) fa m_nc) va m_sn bex trx wyx (qnc) (qnr) (qct) (hfxT) (hfvT) (hsn) (hsa) (hrk) (hlo) (hhi) (hco) (hS.1) (hW) (hS.2.2.1) (hS.2.1)) (cwV 0 F.2.2.2.2.1 gX7_search_X7_tryFixed rfl rfl rfl (by decide +kernel) ⟨Nat.le_of_ble_eq_true rfl, Nat.le_of_ble_eq_true rfl⟩) rfl rfl (q0 := 0) rfl [0, 1, 2, 3, 4, 5, 6, 7, 8, 9, 10, 11, 12, 13, 14, 15, 16, 17, 18, 19, 20, 21, 22] [] rfl rfl (by decide) (by decide) (by decide) rfl rfl (Nat.le_of_ble_eq_true rfl) ⟨Nat.le_of_ble_eq_true rfl, Nat.le_of_ble_eq_true rfl⟩ hA dX7_search_114 (fun v w hv => ?_)
                      obtain ⟨fr114, fs114, cs114, cn114, ck114, cd114, ch114, tb114, cr114, un114, tr114, be114, bc114, bu114, hb114, wy114, pf114, ef114, htry114, hv, hw⟩ := hv
                      subst hv
                      subst hw
                      refine g_wsub (wMO cA m (((m_nc : Nat) : Int)) (((m_nr : Nat) : Int)) (m_ke) (m_so) (bu114) (bc114) (m_pu) (m_qu) (fs114) (cd114) (un114) (hb114) (pf114) (ef114) ++ wMP cA m (m_kd) (m_lo) (m_hi) (m_co) (m_pa) (m_rk) (m_nu) (m_ct) (m_sa) ++ wME cA m (fr114) (cs114) (cn114) (ck114) (ch114) (tb114) (cr114) ++ wMX cA m (mixZ (fun c => if st ∧ 1 ≤ m_kd c then 1 else 0) fa m_nc) (va) (m_sn) ++ wMB cA m (be114) (tr114) (wy114)) [0, 1, 2, 3, 4, 5, 6, 7, 8, 9, 10, 11, 12, 13, 14, 15, 16, 17, 18, 19, 20, 21, 22] (by decide) rfl ?_
                      refine g_eq (st' := []) rfl rfl rfl ?_
                      obtain ⟨hS2, hmono, hvf⟩ := try_step hPK hS htry114.1 rfl hF9 hV9 hasg hp9
                      have hW2 := htry114.2
                      have hbf2 : ∀ g, asgP m_nc (kdS (decide st) m_kd) m_lo m_hi g → bfr m_nc (kdS (decide st) m_kd) g va → VQ m_nc m_nr (kdS (decide st) m_kd) m_pa m_lo m_hi m_rk m_sn m_ct m_sa m_co be114 bc114 bu114 pf114 ef114 g := fun g a b => hmono g (hbf g a b)
                      refine g_iload_n F 1 rfl rfl dX7_search_117 ?_
                      refine g_ifb_eq F (tgt := 132) dX7_search_118 (by decide) (fun c_7 => ?_) (fun c_7 => ?_)
                      · skip
                        have hall0 := fun (g : Nat → Int) (_ : asgP m_nc (kdS (decide st) m_kd) m_lo m_hi g) => VQ_cong (g := g) (fun c _ hk => by rw [kd_no hst] at hk; exact absurd (show (1 : Int) ≤ 0 from hk) (by decide)) hvf
                        refine g_iconst F dX7_search_132 ?_
                        refine g_istore_n F ([(2, iv (0)), (0, .ref (m 0)), (1, iv (if st then 1 else 0))]) rfl rfl (by decide) dX7_search_133 ?_
                        refine g_goto F (tgt := 93) dX7_search_134 (by decide) ?_
                        refine g_lsub ([(0, .ref (m 0)), (1, iv (if st then 1 else 0)), (2, iv (0))]) [1, 2, 0] rfl ?_
                        exact ih93 0 (mixZ (fun c => if st ∧ 1 ≤ m_kd c then 1 else 0) fa m_nc) va fr114 fs114 cs114 cn114 ck114 cd114 ch114 tb114 cr114 un114 tr114 be114 bc114 bu114 hb114 wy114 pf114 ef114 (Or.inl rfl) (hS2) (hW2) (hvb) (fun z => absurd z (by decide)) (fun _ => hall0) (by rw [if_pos hmo1] at hmu93; rw [if_neg (by decide)]; have h8 := hrk9; omega)
                      · skip
                        exfalso; first | contradiction | omega
                    · skip
                      have hst : st := by assumption
                      have hf09 : ∀ c, c < m_nc → (mixZ (fun c => if st ∧ 1 ≤ m_kd c then 1 else 0) fa m_nc) c = if 1 ≤ m_kd c then 1 else 0 := fun c hc => by rw [mix_lt hc]; by_cases z : 1 ≤ m_kd c; (rw [if_pos ⟨hst, z⟩, if_pos z]); (rw [if_neg (fun y => z y.2), if_neg z])
                      refine g_aload_n F 0 rfl rfl dX7_search_106 ?_
                      refine g_callV F (As := []) (rest := []) (wr := wME cA m (frx) (csx) (cnx) (ckx) (chx) (tbx) (crx) ++ wMB cA m (bex) (trx) (wyx)) (kX7_fixPartners l D cA m m_nc m_nr m_ke m_so bux bcx m_pu m_qu fsx cdx unx hbx pfx efx m_kd m_lo m_hi m_co m_pa m_rk m_nu m_ct m_sa (mixZ (fun c => if st ∧ 1 ≤ m_kd c then 1 else 0) fa m_nc) va m_sn (qnc) (qkd) (hlo) (hhi) (hpa) (hf09) (hvb)) (cwV 0 F.2.2.2.2.1 gX7_search_X7_fixPartners rfl rfl rfl (by decide +kernel) ⟨Nat.le_of_ble_eq_true rfl, Nat.le_of_ble_eq_true rfl⟩) rfl rfl (q0 := 0) rfl [0, 1, 2, 3, 4, 5, 6, 7, 8, 9, 17, 18, 19] [10, 11, 12, 13, 14, 15, 16, 20, 21, 22] rfl rfl (by decide) (by decide) (by decide) rfl rfl (Nat.le_of_ble_eq_true rfl) ⟨Nat.le_of_ble_eq_true rfl, Nat.le_of_ble_eq_true rfl⟩ hA dX7_search_107 (fun v w hv => ?_)
                      obtain ⟨r107, fx107, fv107, hfp107, hv, hw⟩ := hv
                      subst hv
                      subst hw
                      refine g_wsub (wMO cA m (((m_nc : Nat) : Int)) (((m_nr : Nat) : Int)) (m_ke) (m_so) (bux) (bcx) (m_pu) (m_qu) (fsx) (cdx) (unx) (hbx) (pfx) (efx) ++ wMP cA m (m_kd) (m_lo) (m_hi) (m_co) (m_pa) (m_rk) (m_nu) (m_ct) (m_sa) ++ wME cA m (frx) (csx) (cnx) (ckx) (chx) (tbx) (crx) ++ wMX cA m (fx107) (fv107) (m_sn) ++ wMB cA m (bex) (trx) (wyx)) [10, 11, 12, 13, 14, 15, 16, 17, 18, 19, 0, 1, 2, 3, 4, 5, 6, 20, 21, 22, 7, 8, 9] (by decide) rfl ?_
                      refine g_eq (st' := [iv (if r107 = true then 1 else 0)]) rfl rfl rfl ?_
                      refine g_ifb_eq F (tgt := 117) dX7_search_110 (by decide) (fun c_8 => ?_) (fun c_8 => ?_)
                      · skip
                        have hS2 := hS
                        have hW2 := hW
                        have hbf2 := hbf
                        have hfp := (show ¬ pOkP m_nc m_kd m_pa m_lo m_hi va ∧ ∀ q, q < m_nc → (1 ≤ m_kd q → fv107 q = va q) ∧ -20 ≤ fv107 q ∧ fv107 q ≤ 20 from by rcases hfp107 with z | z; exact absurd z.1 c_8; exact z.2)
                        have hvf : VQ m_nc m_nr (kdS (decide st) m_kd) m_pa m_lo m_hi m_rk m_sn m_ct m_sa m_co bex bcx bux pfx efx va := fun z => absurd (by rw [kd_yes hst] at z; exact z) hfp.1
                        have hfw : ∀ q, q < m_nc → 1 ≤ m_kd q → fv107 q = va q := fun q hq => (hfp.2 q hq).1
                        have hbN : ∀ q, q < m_nc → -20 ≤ fv107 q ∧ fv107 q ≤ 20 := fun q hq => (hfp.2 q hq).2
                        refine g_iload_n F 1 rfl rfl dX7_search_117 ?_
                        refine g_ifb_eq F (tgt := 132) dX7_search_118 (by decide) (fun c_9 => ?_) (fun c_9 => ?_)
                        · skip
                          exfalso; first | contradiction | omega
                        · skip
                          have hasgN : asgP m_nc m_kd m_lo m_hi fv107 := fun q hq hk => by rw [hfw q hq hk]; exact hasg q hq (by rw [kd_yes hst]; exact hk)
                          refine g_aload_n F 0 rfl rfl dX7_search_121 ?_
                          refine g_callV F (As := []) (rest := []) (wr := wME cA m (frx) (csx) (cnx) (ckx) (chx) (tbx) (crx) ++ wMB cA m (bex) (trx) (wyx)) (kX7_nextWhole l D cA m m_nc m_nr m_ke m_so bux bcx m_pu m_qu fsx cdx unx hbx pfx efx m_kd m_lo m_hi m_co m_pa m_rk m_nu m_ct m_sa fx107 fv107 m_sn (hP) (hasgN) (hbN)) (cwV 0 F.2.2.2.2.1 gX7_search_X7_nextWhole rfl rfl rfl (by decide +kernel) ⟨Nat.le_of_ble_eq_true rfl, Nat.le_of_ble_eq_true rfl⟩) rfl rfl (q0 := 0) rfl [0, 1, 2, 3, 4, 5, 6, 7, 8, 9, 17, 18, 19] [10, 11, 12, 13, 14, 15, 16, 20, 21, 22] rfl rfl (by decide) (by decide) (by decide) rfl rfl (Nat.le_of_ble_eq_true rfl) ⟨Nat.le_of_ble_eq_true rfl, Nat.le_of_ble_eq_true rfl⟩ hA dX7_search_122 (fun v w hv => ?_)
                          obtain ⟨r122, fv122, hnw122, hv, hw⟩ := hv
                          subst hv
                          subst hw
                          refine g_wsub (wMO cA m (((m_nc : Nat) : Int)) (((m_nr : Nat) : Int)) (m_ke) (m_so) (bux) (bcx) (m_pu) (m_qu) (fsx) (cdx) (unx) (hbx) (pfx) (efx) ++ wMP cA m (m_kd) (m_lo) (m_hi) (m_co) (m_pa) (m_rk) (m_nu) (m_ct) (m_sa) ++ wME cA m (frx) (csx) (cnx) (ckx) (chx) (tbx) (crx) ++ wMX cA m (fx107) (fv122) (m_sn) ++ wMB cA m (bex) (trx) (wyx)) [10, 11, 12, 13, 14, 15, 16, 17, 18, 19, 0, 1, 2, 3, 4, 5, 6, 20, 21, 22, 7, 8, 9] (by decide) rfl ?_
                          refine g_eq (st' := [iv (if r122 = true then 1 else 0)]) rfl rfl rfl ?_
                          have hall := st_all (hi := m_hi) (lo := m_lo) (show ∀ q, q < m_nc → 1 ≤ (kdS (decide st) m_kd) q → fv107 q = va q from fun q hq hk => hfw q hq (by rw [kd_yes hst] at hk; exact hk)) hbf2 (fun g hg => VQ_cong hg hvf)
                          refine g_ifb_eq F (tgt := 132) dX7_search_125 (by decide) (fun c_10 => ?_) (fun c_10 => ?_)
                          · skip
                            have hnl : ∀ g, asgP m_nc (kdS (decide st) m_kd) m_lo m_hi g → eqW m_nc (kdS (decide st) m_kd) g fv107 ∨ bfr m_nc (kdS (decide st) m_kd) g fv107 := by rw [kd_yes hst]; rcases hnw122.2 with z | z; exact absurd z.1 c_10; exact z.2
                            have hall0 := fun (g : Nat → Int) (hg : asgP m_nc (kdS (decide st) m_kd) m_lo m_hi g) => hall g hg (hnl g hg)
                            refine g_iconst F dX7_search_132 ?_
                            refine g_istore_n F ([(2, iv (0)), (0, .ref (m 0)), (1, iv (if st then 1 else 0))]) rfl rfl (by decide) dX7_search_133 ?_
                            refine g_goto F (tgt := 93) dX7_search_134 (by decide) ?_
                            refine g_lsub ([(0, .ref (m 0)), (1, iv (if st then 1 else 0)), (2, iv (0))]) [1, 2, 0] rfl ?_
                            exact ih93 0 fx107 fv122 frx fsx csx cnx ckx cdx chx tbx crx unx trx bex bcx bux hbx wyx pfx efx (Or.inl rfl) (hS2) (hW2) (hnw122.1) (fun z => absurd z (by decide)) (fun _ => hall0) (by rw [if_pos hmo1] at hmu93; rw [if_neg (by decide)]; have h8 := hrk9; omega)
                          · skip
                            have hnn := (show r122 = true ∧ asgP m_nc m_kd m_lo m_hi fv122 ∧ rkF m_kd m_lo fv107 m_nc < rkF m_kd m_lo fv122 m_nc ∧ ∀ g, asgP m_nc m_kd m_lo m_hi g → bfr m_nc m_kd g fv122 → eqW m_nc m_kd g fv107 ∨ bfr m_nc m_kd g fv107 from by rcases hnw122.2 with z | z; exact z; exact absurd ((c_10 : r122 = true).symm.trans z.1) (by decide))
                            have hmuN : 100001 - rkF (kdS (decide st) m_kd) m_lo fv122 m_nc < 100001 - rkF (kdS (decide st) m_kd) m_lo va m_nc := by rw [kd_yes hst]; exact mu_nw hP hfw hnn.2.2.1 hnn.2.1
                            refine g_iconst F dX7_search_128 ?_
                            refine g_goto F (tgt := 133) dX7_search_129 (by decide) ?_
                            refine g_istore_n F ([(2, iv (1)), (0, .ref (m 0)), (1, iv (if st then 1 else 0))]) rfl rfl (by decide) dX7_search_133 ?_
                            refine g_goto F (tgt := 93) dX7_search_134 (by decide) ?_
                            refine g_lsub ([(0, .ref (m 0)), (1, iv (if st then 1 else 0)), (2, iv (1))]) [1, 2, 0] rfl ?_
                            exact ih93 1 fx107 fv122 frx fsx csx cnx ckx cdx chx tbx crx unx trx bex bcx bux hbx wyx pfx efx (Or.inr rfl) (hS2) (hW2) (hnw122.1) (fun _ => ⟨by rw [kd_yes hst]; exact hnn.2.1, fun g hg hb => hall g hg (by rw [kd_yes hst] at hg hb ⊢; exact hnn.2.2.2 g hg hb)⟩) (fun z => absurd z (by decide)) (by rw [if_pos hmo1] at hmu93; rw [if_pos rfl]; omega)
                      · skip
                        have hfp := (show fpE m_nc m_kd m_pa m_lo m_hi va fx107 fv107 from by rcases hfp107 with z | z; exact z.2; exact absurd ((c_8 : r107 = true).symm.trans z.1) (by decide))
                        have hfw : ∀ q, q < m_nc → 1 ≤ m_kd q → fv107 q = va q := fun q hq => (hfp.2.2.2 q hq).1
                        have hbN : ∀ q, q < m_nc → -20 ≤ fv107 q ∧ fv107 q ≤ 20 := fun q hq => (hfp.2.2.2 q hq).2
                        have hfxT : ∀ j, j < m_nc → 0 ≤ fx107 j ∧ fx107 j ≤ 1 := fun j hj => (hfp.2.1 j hj).1
                        have hfvT : ∀ j, j < m_nc → fx107 j ≠ 0 → -20 ≤ fv107 j ∧ fv107 j ≤ 20 := fun j hj _ => hbN j hj
                        have hF9 : ∀ c, c < m_nc → fxB m_nc (kdS (decide st) m_kd) m_pa va c = bzF fx107 c := fun c hc => by rw [kd_yes hst]; exact (hfp.2.1 c hc).2
                        have hV9 : ∀ c, c < m_nc → bzF fx107 c = true → fvF (kdS (decide st) m_kd) va c = fv107 c := fun c hc z => by rw [kd_yes hst]; exact hfp.2.2.1 c hc z
                        have hp9 : pOkP m_nc (kdS (decide st) m_kd) m_pa m_lo m_hi va := by rw [kd_yes hst]; exact hfp.1
                        refine g_aload_n F 0 rfl rfl dX7_search_113 ?_
                        refine g_callV F (As := []) (rest := []) (wr := []) (kX7_tryFixed l D cA m m_nc m_nr m_ke m_so bux bcx m_pu m_qu fsx cdx unx hbx pfx efx m_kd m_lo m_hi m_co m_pa m_rk m_nu m_ct m_sa frx csx cnx ckx chx tbx crx fx107 fv107 m_sn bex trx wyx (qnc) (qnr) (qct) (hfxT) (hfvT) (hsn) (hsa) (hrk) (hlo) (hhi) (hco) (hS.1) (hW) (hS.2.2.1) (hS.2.1)) (cwV 0 F.2.2.2.2.1 gX7_search_X7_tryFixed rfl rfl rfl (by decide +kernel) ⟨Nat.le_of_ble_eq_true rfl, Nat.le_of_ble_eq_true rfl⟩) rfl rfl (q0 := 0) rfl [0, 1, 2, 3, 4, 5, 6, 7, 8, 9, 10, 11, 12, 13, 14, 15, 16, 17, 18, 19, 20, 21, 22] [] rfl rfl (by decide) (by decide) (by decide) rfl rfl (Nat.le_of_ble_eq_true rfl) ⟨Nat.le_of_ble_eq_true rfl, Nat.le_of_ble_eq_true rfl⟩ hA dX7_search_114 (fun v w hv => ?_)
                        obtain ⟨fr114, fs114, cs114, cn114, ck114, cd114, ch114, tb114, cr114, un114, tr114, be114, bc114, bu114, hb114, wy114, pf114, ef114, htry114, hv, hw⟩ := hv
                        subst hv
                        subst hw
                        refine g_wsub (wMO cA m (((m_nc : Nat) : Int)) (((m_nr : Nat) : Int)) (m_ke) (m_so) (bu114) (bc114) (m_pu) (m_qu) (fs114) (cd114) (un114) (hb114) (pf114) (ef114) ++ wMP cA m (m_kd) (m_lo) (m_hi) (m_co) (m_pa) (m_rk) (m_nu) (m_ct) (m_sa) ++ wME cA m (fr114) (cs114) (cn114) (ck114) (ch114) (tb114) (cr114) ++ wMX cA m (fx107) (fv107) (m_sn) ++ wMB cA m (be114) (tr114) (wy114)) [0, 1, 2, 3, 4, 5, 6, 7, 8, 9, 10, 11, 12, 13, 14, 15, 16, 17, 18, 19, 20, 21, 22] (by decide) rfl ?_
                        refine g_eq (st' := []) rfl rfl rfl ?_
                        obtain ⟨hS2, hmono, hvf⟩ := try_step hPK hS htry114.1 rfl hF9 hV9 hasg hp9
                        have hW2 := htry114.2
                        have hbf2 : ∀ g, asgP m_nc (kdS (decide st) m_kd) m_lo m_hi g → bfr m_nc (kdS (decide st) m_kd) g va → VQ m_nc m_nr (kdS (decide st) m_kd) m_pa m_lo m_hi m_rk m_sn m_ct m_sa m_co be114 bc114 bu114 pf114 ef114 g := fun g a b => hmono g (hbf g a b)
                        refine g_iload_n F 1 rfl rfl dX7_search_117 ?_
                        refine g_ifb_eq F (tgt := 132) dX7_search_118 (by decide) (fun c_11 => ?_) (fun c_11 => ?_)
                        · skip
                          exfalso; first | contradiction | omega
                        · skip
                          have hasgN : asgP m_nc m_kd m_lo m_hi fv107 := fun q hq hk => by rw [hfw q hq hk]; exact hasg q hq (by rw [kd_yes hst]; exact hk)
                          refine g_aload_n F 0 rfl rfl dX7_search_121 ?_
                          refine g_callV F (As := []) (rest := []) (wr := wME cA m (fr114) (cs114) (cn114) (ck114) (ch114) (tb114) (cr114) ++ wMB cA m (be114) (tr114) (wy114)) (kX7_nextWhole l D cA m m_nc m_nr m_ke m_so bu114 bc114 m_pu m_qu fs114 cd114 un114 hb114 pf114 ef114 m_kd m_lo m_hi m_co m_pa m_rk m_nu m_ct m_sa fx107 fv107 m_sn (hP) (hasgN) (hbN)) (cwV 0 F.2.2.2.2.1 gX7_search_X7_nextWhole rfl rfl rfl (by decide +kernel) ⟨Nat.le_of_ble_eq_true rfl, Nat.le_of_ble_eq_true rfl⟩) rfl rfl (q0 := 0) rfl [0, 1, 2, 3, 4, 5, 6, 7, 8, 9, 17, 18, 19] [10, 11, 12, 13, 14, 15, 16, 20, 21, 22] rfl rfl (by decide) (by decide) (by decide) rfl rfl (Nat.le_of_ble_eq_true rfl) ⟨Nat.le_of_ble_eq_true rfl, Nat.le_of_ble_eq_true rfl⟩ hA dX7_search_122 (fun v w hv => ?_)
                          obtain ⟨r122, fv122, hnw122, hv, hw⟩ := hv
                          subst hv
                          subst hw
                          refine g_wsub (wMO cA m (((m_nc : Nat) : Int)) (((m_nr : Nat) : Int)) (m_ke) (m_so) (bu114) (bc114) (m_pu) (m_qu) (fs114) (cd114) (un114) (hb114) (pf114) (ef114) ++ wMP cA m (m_kd) (m_lo) (m_hi) (m_co) (m_pa) (m_rk) (m_nu) (m_ct) (m_sa) ++ wME cA m (fr114) (cs114) (cn114) (ck114) (ch114) (tb114) (cr114) ++ wMX cA m (fx107) (fv122) (m_sn) ++ wMB cA m (be114) (tr114) (wy114)) [10, 11, 12, 13, 14, 15, 16, 17, 18, 19, 0, 1, 2, 3, 4, 5, 6, 20, 21, 22, 7, 8, 9] (by decide) rfl ?_
                          refine g_eq (st' := [iv (if r122 = true then 1 else 0)]) rfl rfl rfl ?_
                          have hall := st_all (hi := m_hi) (lo := m_lo) (show ∀ q, q < m_nc → 1 ≤ (kdS (decide st) m_kd) q → fv107 q = va q from fun q hq hk => hfw q hq (by rw [kd_yes hst] at hk; exact hk)) hbf2 (fun g hg => VQ_cong hg hvf)
                          refine g_ifb_eq F (tgt := 132) dX7_search_125 (by decide) (fun c_12 => ?_) (fun c_12 => ?_)
                          · skip
                            have hnl : ∀ g, asgP m_nc (kdS (decide st) m_kd) m_lo m_hi g → eqW m_nc (kdS (decide st) m_kd) g fv107 ∨ bfr m_nc (kdS (decide st) m_kd) g fv107 := by rw [kd_yes hst]; rcases hnw122.2 with z | z; exact absurd z.1 c_12; exact z.2
                            have hall0 := fun (g : Nat → Int) (hg : asgP m_nc (kdS (decide st) m_kd) m_lo m_hi g) => hall g hg (hnl g hg)
                            refine g_iconst F dX7_search_132 ?_
                            refine g_istore_n F ([(2, iv (0)), (0, .ref (m 0)), (1, iv (if st then 1 else 0))]) rfl rfl (by decide) dX7_search_133 ?_
                            refine g_goto F (tgt := 93) dX7_search_134 (by decide) ?_
                            refine g_lsub ([(0, .ref (m 0)), (1, iv (if st then 1 else 0)), (2, iv (0))]) [1, 2, 0] rfl ?_
                            exact ih93 0 fx107 fv122 fr114 fs114 cs114 cn114 ck114 cd114 ch114 tb114 cr114 un114 tr114 be114 bc114 bu114 hb114 wy114 pf114 ef114 (Or.inl rfl) (hS2) (hW2) (hnw122.1) (fun z => absurd z (by decide)) (fun _ => hall0) (by rw [if_pos hmo1] at hmu93; rw [if_neg (by decide)]; have h8 := hrk9; omega)
                          · skip
                            have hnn := (show r122 = true ∧ asgP m_nc m_kd m_lo m_hi fv122 ∧ rkF m_kd m_lo fv107 m_nc < rkF m_kd m_lo fv122 m_nc ∧ ∀ g, asgP m_nc m_kd m_lo m_hi g → bfr m_nc m_kd g fv122 → eqW m_nc m_kd g fv107 ∨ bfr m_nc m_kd g fv107 from by rcases hnw122.2 with z | z; exact z; exact absurd ((c_12 : r122 = true).symm.trans z.1) (by decide))
                            have hmuN : 100001 - rkF (kdS (decide st) m_kd) m_lo fv122 m_nc < 100001 - rkF (kdS (decide st) m_kd) m_lo va m_nc := by rw [kd_yes hst]; exact mu_nw hP hfw hnn.2.2.1 hnn.2.1
                            refine g_iconst F dX7_search_128 ?_
                            refine g_goto F (tgt := 133) dX7_search_129 (by decide) ?_
                            refine g_istore_n F ([(2, iv (1)), (0, .ref (m 0)), (1, iv (if st then 1 else 0))]) rfl rfl (by decide) dX7_search_133 ?_
                            refine g_goto F (tgt := 93) dX7_search_134 (by decide) ?_
                            refine g_lsub ([(0, .ref (m 0)), (1, iv (if st then 1 else 0)), (2, iv (1))]) [1, 2, 0] rfl ?_
                            exact ih93 1 fx107 fv122 fr114 fs114 cs114 cn114 ck114 cd114 ch114 tb114 cr114 un114 tr114 be114 bc114 bu114 hb114 wy114 pf114 ef114 (Or.inr rfl) (hS2) (hW2) (hnw122.1) (fun _ => ⟨by rw [kd_yes hst]; exact hnn.2.1, fun g hg hb => hall g hg (by rw [kd_yes hst] at hg hb ⊢; exact hnn.2.2.2 g hg hb)⟩) (fun z => absurd z (by decide)) (by rw [if_pos hmo1] at hmu93; rw [if_pos rfl]; omega)
              refine g_lsub ([(0, .ref (m 0)), (1, iv (if st then 1 else 0)), (2, iv (1))]) [1, 2, 0] rfl ?_
              exact lp93 (_ + 1) 1 m_fx (fun q => if q < m_nc then m_lo q else 0) m_fr m_fs m_cs m_cn m_ck m_cd m_ch m_tb m_cr m_un m_tr (fun _ => 0) 0 1 0 (fun _ => 0) 0 0 (Or.inr rfl) (se_0) (fun k _ => Or.inl rfl) (fun q hq => by show -20 ≤ (if q < m_nc then m_lo q else 0) ∧ (if q < m_nc then m_lo q else 0) ≤ 20; rw [if_pos hq]; exact hlo q) (fun _ => ⟨as_0 hP hle, fun g hg hb => absurd hb (fun z => bf_0 hg z)⟩) (fun z => absurd z (by decide)) (Nat.lt_succ_self _)
            · skip
              refine g_aload_n F 0 rfl rfl dX7_search_43 ?_
              refine g_get F hV iX7 0 rfl rfl 13 (by decide) (List.mem_of_getElem? (i := 5) rfl) rfl dX7_search_44 ?_
              refine g_iload_n F 2 rfl rfl dX7_search_47 ?_
              refine g_lconst F (z := 0) dX7_search_48 (by decide) ?_
              refine g_last F 20 rfl (c) (by omega) (by omega) (by decide) (wMO cA m (((m_nc : Nat) : Int)) (((m_nr : Nat) : Int)) (m_ke) (m_so) (m_bu) (m_bc) (m_pu) (m_qu) (m_fs) (m_cd) (m_un) (0) (0) (0) ++ wMP cA m (m_kd) (m_lo) (m_hi) (m_co) (m_pa) (m_rk) (m_nu) (m_ct) (m_sa) ++ wME cA m (m_fr) (m_cs) (m_cn) (m_ck) (m_ch) (m_tb) (m_cr) ++ wMX cA m (m_fx) (vx) (m_sn) ++ wMB cA m (va_up bx c 0) (m_tr) (wx)) rfl dX7_search_49 ?_
              refine g_aload_n F 0 rfl rfl dX7_search_50 ?_
              refine g_get F hV iX7 0 rfl rfl 31 (by decide) (List.mem_of_getElem? (i := 6) rfl) rfl dX7_search_51 ?_
              refine g_iload_n F 2 rfl rfl dX7_search_54 ?_
              refine g_iload_n F 2 rfl rfl dX7_search_55 ?_
              refine g_aload_n F 0 rfl rfl dX7_search_56 ?_
              refine g_get F hV iX7 0 rfl rfl 0 (by decide) (List.mem_of_getElem? (i := 7) rfl) rfl dX7_search_57 ?_
              refine g_icmp_ge F (tgt := 73) dX7_search_60 (by decide) ⟨by omega, by omega⟩ ⟨by omega, by omega⟩ (fun c_13 => ?_) (fun c_13 => ?_)
              · skip
                refine g_lconst F (z := 0) dX7_search_73 (by decide) ?_
                refine g_last F 18 rfl (c) (by omega) (by omega) (by decide) (wMO cA m (((m_nc : Nat) : Int)) (((m_nr : Nat) : Int)) (m_ke) (m_so) (m_bu) (m_bc) (m_pu) (m_qu) (m_fs) (m_cd) (m_un) (0) (0) (0) ++ wMP cA m (m_kd) (m_lo) (m_hi) (m_co) (m_pa) (m_rk) (m_nu) (m_ct) (m_sa) ++ wME cA m (m_fr) (m_cs) (m_cn) (m_ck) (m_ch) (m_tb) (m_cr) ++ wMX cA m (m_fx) (va_up vx c 0) (m_sn) ++ wMB cA m (va_up bx c 0) (m_tr) (wx)) rfl dX7_search_74 ?_
                refine g_iinc F 2 rfl ([(2, iv ((((c : Nat) : Int)) + 1)), (0, .ref (m 0)), (1, iv (if st then 1 else 0))]) rfl (by decide) dX7_search_75 ?_
                refine g_goto F (tgt := 38) dX7_search_78 (by decide) ?_
                refine g_lsub ([(0, .ref (m 0)), (1, iv (if st then 1 else 0)), (2, iv ((((c : Nat) : Int)) + 1))]) [1, 2, 0] rfl ?_
                exact ih38 (c + 1) (va_up bx c 0) (va_up vx c 0) (by omega) (fun q hq => by by_cases e : q = c; (subst e; rw [up_same]); (rw [up_ne e]; exact hbx q (by omega))) (fun q hq => by rcases (show q < c ∨ q = c by omega) with y | y; (rw [up_ne (by omega)]; exact hvx q y); (rw [y, up_same]; first | (rw [if_pos (by omega)]) | (rw [if_neg (by omega)]))) (by omega)
              · skip
                refine g_aload_n F 0 rfl rfl dX7_search_63 ?_
                refine g_get F hV iX7 0 rfl rfl 2 (by decide) (List.mem_of_getElem? (i := 8) rfl) rfl dX7_search_64 ?_
                refine g_iload_n F 2 rfl rfl dX7_search_67 ?_
                have r_14 := hlo (c)
                refine g_iald F hV 2 rfl (c) (by omega) (by omega) (by decide) dX7_search_68 ?_
                refine g_i2l F ⟨by omega, by omega⟩ dX7_search_69 ?_
                refine g_goto F (tgt := 74) dX7_search_70 (by decide) ?_
                refine g_last F 18 rfl (c) (by omega) (by omega) (by decide) (wMO cA m (((m_nc : Nat) : Int)) (((m_nr : Nat) : Int)) (m_ke) (m_so) (m_bu) (m_bc) (m_pu) (m_qu) (m_fs) (m_cd) (m_un) (0) (0) (0) ++ wMP cA m (m_kd) (m_lo) (m_hi) (m_co) (m_pa) (m_rk) (m_nu) (m_ct) (m_sa) ++ wME cA m (m_fr) (m_cs) (m_cn) (m_ck) (m_ch) (m_tb) (m_cr) ++ wMX cA m (m_fx) (va_up vx c (m_lo c)) (m_sn) ++ wMB cA m (va_up bx c 0) (m_tr) (wx)) rfl dX7_search_74 ?_
                refine g_iinc F 2 rfl ([(2, iv ((((c : Nat) : Int)) + 1)), (0, .ref (m 0)), (1, iv (if st then 1 else 0))]) rfl (by decide) dX7_search_75 ?_
                refine g_goto F (tgt := 38) dX7_search_78 (by decide) ?_
                refine g_lsub ([(0, .ref (m 0)), (1, iv (if st then 1 else 0)), (2, iv ((((c : Nat) : Int)) + 1))]) [1, 2, 0] rfl ?_
                exact ih38 (c + 1) (va_up bx c 0) (va_up vx c (m_lo c)) (by omega) (fun q hq => by by_cases e : q = c; (subst e; rw [up_same]); (rw [up_ne e]; exact hbx q (by omega))) (fun q hq => by rcases (show q < c ∨ q = c by omega) with y | y; (rw [up_ne (by omega)]; exact hvx q y); (rw [y, up_same]; first | (rw [if_pos (by omega)]) | (rw [if_neg (by omega)]))) (by omega)
        refine g_lsub ([(0, .ref (m 0)), (1, iv (if st then 1 else 0)), (2, iv (0))]) [1, 2, 0] rfl ?_
        exact lp38 (_ + 1) 0 m_be m_fv (by omega) (fun q hq => absurd hq (Nat.not_lt_zero q)) (fun q hq => absurd hq (Nat.not_lt_zero q)) (Nat.lt_succ_self _)
      · skip
        refine g_aload_n F 0 rfl rfl dX7_search_23 ?_
        refine g_get F hV iX7 0 rfl rfl 35 (by decide) (List.mem_of_getElem? (i := 4) rfl) rfl dX7_search_24 ?_
        refine g_iload_n F 2 rfl rfl dX7_search_27 ?_
        refine g_iconst F dX7_search_28 ?_
        refine g_iast F 22 rfl (k) (by omega) (by omega) (by decide) (wMO cA m (((m_nc : Nat) : Int)) (((m_nr : Nat) : Int)) (m_ke) (m_so) (m_bu) (m_bc) (m_pu) (m_qu) (m_fs) (m_cd) (m_un) (0) (0) (0) ++ wMP cA m (m_kd) (m_lo) (m_hi) (m_co) (m_pa) (m_rk) (m_nu) (m_ct) (m_sa) ++ wME cA m (m_fr) (m_cs) (m_cn) (m_ck) (m_ch) (m_tb) (m_cr) ++ wMX cA m (m_fx) (m_fv) (m_sn) ++ wMB cA m (m_be) (m_tr) (va_up wx k 0)) rfl dX7_search_29 ?_
        refine g_iinc F 2 rfl ([(2, iv ((((k : Nat) : Int)) + 1)), (0, .ref (m 0)), (1, iv (if st then 1 else 0))]) rfl (by decide) dX7_search_30 ?_
        refine g_goto F (tgt := 17) dX7_search_33 (by decide) ?_
        refine g_lsub ([(0, .ref (m 0)), (1, iv (if st then 1 else 0)), (2, iv ((((k : Nat) : Int)) + 1))]) [1, 2, 0] rfl ?_
        exact ih17 (k + 1) (va_up wx k 0) (by omega) (fun q hq => by by_cases e : q = k; (subst e; rw [up_same]); (rw [up_ne e]; exact hwx q (by omega))) (by omega)
  refine g_lsub ([(0, .ref (m 0)), (1, iv (if st then 1 else 0)), (2, iv (0))]) [1, 2, 0] rfl ?_
  exact lp17 (_ + 1) 0 m_wy (by omega) (fun q hq => absurd hq (Nat.not_lt_zero q)) (Nat.lt_succ_self _)
