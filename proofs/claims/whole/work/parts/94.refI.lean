/-- no corner of the choice t is as G says -/
def novC (n K : Nat) (cs cn ck : Nat → Int) (G : (Nat → Int) → Prop) (t : Nat → Int) : Prop := ∀ q u, crnO n cs cn t = some (q, u) → plP n K (cdV n cs cn) ck (ptV q u) → ¬ G q
def hasC (n K : Nat) (cs cn ck : Nat → Int) (G : (Nat → Int) → Prop) : Prop := ∃ t q u, chV n K t ∧ crnO n cs cn t = some (q, u) ∧ 0 < u ∧ plP n K (cdV n cs cn) ck (ptV q u) ∧ G q
theorem nov_none {n K : Nat} {cs cn ck chx : Nat → Int} {G : (Nat → Int) → Prop} (hc : crnO n cs cn chx = none) {t : Nat → Int} (he : eqC n t chx) : novC n K cs cn ck G t := by
  intro q u h1 h2
  obtain ⟨q', e1, e2⟩ := crn_cong he h1
  rw [hc] at e1; cases e1
theorem nov_not {n K : Nat} {cs cn ck chx cr : Nat → Int} {G : (Nat → Int) → Prop} (hG : ∀ q q', (∀ j, j < n → q j = q' j) → G q → G q') {un : Int} {q0 : Nat → Int} (hc : crnO n cs cn chx = some (q0, un)) (hq : ∀ j, j < n → cr j = q0 j) (hp : ¬ (plP n K (cdV n cs cn) ck (ptV cr un) ∧ G cr)) {t : Nat → Int} (he : eqC n t chx) : novC n K cs cn ck G t := by
  intro q u h1 h2 h3
  obtain ⟨q', e1, e2⟩ := crn_cong he h1
  rw [hc] at e1
  obtain ⟨e4, e5⟩ := Prod.mk.inj (Option.some.inj e1)
  have hqq : ∀ j, j < n → q j = cr j := fun j hj => by rw [hq j hj, e4, e2 j hj]
  apply hp
  rw [e5]
  exact ⟨pl_pt hqq h2, hG q cr hqq h3⟩
theorem has_one {n K : Nat} {cs cn ck chx cr : Nat → Int} {G : (Nat → Int) → Prop} (hG : ∀ q q', (∀ j, j < n → q j = q' j) → G q → G q') {un : Int} {q0 : Nat → Int} (hch : chV n K chx) (hu : 0 < un) (hc : crnO n cs cn chx = some (q0, un)) (hq : ∀ j, j < n → cr j = q0 j) (hp : plP n K (cdV n cs cn) ck (ptV cr un)) (hg : G cr) : hasC n K cs cn ck G :=
  ⟨chx, q0, un, hch, hc, hu, pl_pt hq hp, hG cr q0 hq hg⟩
abbrev yesG : (Nat → Int) → Prop := fun _ => True
set_option maxHeartbeats 4000000 in
set_option maxRecDepth 100000 in
theorem kX7_corners_one (l : Launch) (D : va_G) (cA : Nat → ClassId) (m : Nat → Nat) (m_nc : Nat) (m_nr : Nat) (m_ke : Int) (m_so : Int) (m_bu : Int) (m_bc : Int) (m_pu : Int) (m_qu : Int) (m_fs : Nat) (m_cd : Nat) (m_un : Int) (m_hb : Int) (m_pf : Int) (m_ef : Int) (m_fr : Nat → Int) (m_cs : Nat → Int) (m_cn : Nat → Int) (m_ck : Nat → Int) (m_ch : Nat → Int) (m_tb : Nat → Int) (m_cr : Nat → Int) (hsk : smK m_fs m_cd m_cs m_cn m_ck) (hK : m_cd ≤ 20) (hn : m_fs ≤ 5) : CT l yX7_corners wsX7_corners ({ frames := 2, cells := 0, slots := 0, locals := 58 }) D cA [.ref (m 0), iv (1)] (wMO cA m (((m_nc : Nat) : Int)) (((m_nr : Nat) : Int)) (m_ke) (m_so) (m_bu) (m_bc) (m_pu) (m_qu) (((m_fs : Nat) : Int)) (((m_cd : Nat) : Int)) (m_un) (m_hb) (m_pf) (m_ef) ++ wME cA m (m_fr) (m_cs) (m_cn) (m_ck) (m_ch) (m_tb) (m_cr)) (fun ov ow => ∃ (so : Int) (ch : Nat → Int) (tb : Nat → Int) (cr : Nat → Int) (un : Int), ((so = 0 ∨ so = 1) ∧ (so = 1 → hasC m_fs m_cd m_cs m_cn m_ck yesG) ∧ (so = 0 → ∀ t, chV m_fs m_cd t → novC m_fs m_cd m_cs m_cn m_ck yesG t)) ∧ ov = some (iv (so)) ∧ ow = wMO cA m (((m_nc : Nat) : Int)) (((m_nr : Nat) : Int)) (m_ke) (m_so) (m_bu) (m_bc) (m_pu) (m_qu) (((m_fs : Nat) : Int)) (((m_cd : Nat) : Int)) (un) (m_hb) (m_pf) (m_ef) ++ wME cA m (m_fr) (m_cs) (m_cn) (m_ck) (ch) (tb) (cr)) 0 0 := by
  refine CT.mk (cc := cX7_corners) (maxL := 4) (ret := (some .boolean)) (by decide +kernel) rfl (Nat.le_of_ble_eq_true rfl) ?_
  intro p_ e_ s_ m_ b_ me_ c_ A F hnm hA
  have hV := @IM_P D s_ A
  refine g_lsub ([(0, .ref (m 0)), (1, iv (1))]) [0, 1] rfl ?_
  refine g_iconst F dX7_corners_0 ?_
  refine g_istore_n F ([(2, iv (0)), (0, .ref (m 0)), (1, iv (1))]) rfl rfl (by decide) dX7_corners_1 ?_
  refine g_aload_n F 1 rfl rfl dX7_corners_2 ?_
  refine g_callV F (As := []) (rest := []) (wr := []) (kX7_first l D cA m m_nc m_nr m_ke m_so m_bu m_bc m_pu m_qu m_fs m_cd m_un m_hb m_pf m_ef m_fr m_cs m_cn m_ck m_ch m_tb m_cr (hn) (hK)) (cwV 0 F.2.2.2.2.1 gX7_corners_X7_first rfl rfl rfl (by decide +kernel) ⟨Nat.le_of_ble_eq_true rfl, Nat.le_of_ble_eq_true rfl⟩) rfl rfl (q0 := 0) rfl [0, 1, 2, 3, 4, 5, 6, 7] [] rfl rfl (by decide) (by decide) (by decide) rfl rfl (Nat.le_of_ble_eq_true rfl) ⟨Nat.le_of_ble_eq_true rfl, Nat.le_of_ble_eq_true rfl⟩ hA dX7_corners_3 (fun v w hv => ?_)
  obtain ⟨hv, hw⟩ := hv
  subst hv
  subst hw
  refine g_wsub (wMO cA m (((m_nc : Nat) : Int)) (((m_nr : Nat) : Int)) (m_ke) (m_so) (m_bu) (m_bc) (m_pu) (m_qu) (((m_fs : Nat) : Int)) (((m_cd : Nat) : Int)) (m_un) (m_hb) (m_pf) (m_ef) ++ wME cA m (m_fr) (m_cs) (m_cn) (m_ck) (mixZ (fun q => (q : Int)) m_ch m_fs) (m_tb) (m_cr)) [0, 1, 2, 3, 4, 5, 6, 7] (by decide) rfl ?_
  refine g_eq (st' := [iv (if m_fs ≤ m_cd then 1 else 0)]) rfl rfl rfl ?_
  refine g_eq (st' := [iv (if decide (m_fs ≤ m_cd) = true then 1 else 0)]) rfl rfl (congrArg (fun zz => [iv zz]) (show (if m_fs ≤ m_cd then 1 else 0 : Int) = if decide (m_fs ≤ m_cd) = true then 1 else 0 from (ite01 (by rw [decide_eq_true_eq])))) ?_
  refine g_istore_n F ([(3, iv (if decide (m_fs ≤ m_cd) = true then 1 else 0)), (2, iv (0)), (0, .ref (m 0)), (1, iv (1))]) rfl rfl (by decide) dX7_corners_6 ?_
  have lp7 : ∀ (n : Nat) (so : Int) (mo : Bool) (chx : Nat → Int) (tbx : Nat → Int) (crx : Nat → Int) (unx : Int) (hso : so = 0 ∨ so = 1) (hs1 : so = 1 → hasC m_fs m_cd m_cs m_cn m_ck yesG) (hmt : mo = true → chV m_fs m_cd chx ∧ (so = 0 → ∀ t, chV m_fs m_cd t → ltC m_fs t chx → novC m_fs m_cd m_cs m_cn m_ck yesG t)) (hmf : so = 0 → mo = false → ∀ t, chV m_fs m_cd t → novC m_fs m_cd m_cs m_cn m_ck yesG t), (if mo = true then muC m_fs chx + 1 else 0) < n → GW p_ l e_ (headSpec wsX7_corners ({ frames := 2, cells := 0, slots := 0, locals := 58 })).room s_ m_ ([.ref (m 0), iv (1)]).toArray b_ me_ c_ (MQ b_ (Qm D (fun ov ow => ∃ (so : Int) (ch : Nat → Int) (tb : Nat → Int) (cr : Nat → Int) (un : Int), ((so = 0 ∨ so = 1) ∧ (so = 1 → hasC m_fs m_cd m_cs m_cn m_ck yesG) ∧ (so = 0 → ∀ t, chV m_fs m_cd t → novC m_fs m_cd m_cs m_cn m_ck yesG t)) ∧ ov = some (iv (so)) ∧ ow = wMO cA m (((m_nc : Nat) : Int)) (((m_nr : Nat) : Int)) (m_ke) (m_so) (m_bu) (m_bc) (m_pu) (m_qu) (((m_fs : Nat) : Int)) (((m_cd : Nat) : Int)) (un) (m_hb) (m_pf) (m_ef) ++ wME cA m (m_fr) (m_cs) (m_cn) (m_ck) (ch) (tb) (cr)) A) ([.ref (m 0), iv (1)]).toArray s_ 0 0 A) (IM D s_ A) 4 0 0 (wMO cA m (((m_nc : Nat) : Int)) (((m_nr : Nat) : Int)) (m_ke) (m_so) (m_bu) (m_bc) (m_pu) (m_qu) (((m_fs : Nat) : Int)) (((m_cd : Nat) : Int)) (unx) (m_hb) (m_pf) (m_ef) ++ wME cA m (m_fr) (m_cs) (m_cn) (m_ck) (chx) (tbx) (crx)) ([(0, .ref (m 0)), (1, iv (1)), (2, iv (so)), (3, iv (if mo = true then 1 else 0))]) [] 7 := by
    intro n; induction n with
    | zero => intro so mo chx tbx crx unx; intros; omega
    | succ n ih7 =>
      intro so mo chx tbx crx unx hso hs1 hmt hmf hmu7
      refine g_iload_n F 3 rfl rfl dX7_corners_7 ?_
      refine g_ifb_eq F (tgt := 51) dX7_corners_8 (by decide) (fun c_1 => ?_) (fun c_1 => ?_)
      · skip
        refine g_iload_n F 2 rfl rfl dX7_corners_51 ?_
        exact g_zret F rfl (nar_01 (by omega)) (by decide) (by decide) ⟨so, chx, tbx, crx, unx, ⟨hso, hs1, fun z => by first | exact hmf z (Bool.eq_false_iff.mpr (by assumption)) | (exfalso; omega)⟩, congrArg (fun z => some (iv z)) (show (so : Int) = so by rfl), rfl⟩ dX7_corners_52
      · skip
        have hmo : mo = true := by assumption
        obtain ⟨hchx, hlt⟩ := hmt hmo
        refine g_iload_n F 1 rfl rfl dX7_corners_11 ?_
        refine g_if_eq F (tgt := 19) dX7_corners_12 (by decide) ⟨by decide, by decide⟩ (fun c_2 => ?_) (fun c_2 => ?_)
        · skip
          exfalso; omega
        · skip
          refine g_iload_n F 2 rfl rfl dX7_corners_15 ?_
          refine g_if_ne F (tgt := 51) dX7_corners_16 (by decide) ⟨by omega, by omega⟩ (fun c_3 => ?_) (fun c_3 => ?_)
          · skip
            refine g_iload_n F 2 rfl rfl dX7_corners_51 ?_
            exact g_zret F rfl (nar_01 (by omega)) (by decide) (by decide) ⟨so, chx, tbx, crx, unx, ⟨hso, hs1, fun z => by first | exact hmf z (Bool.eq_false_iff.mpr (by assumption)) | (exfalso; omega)⟩, congrArg (fun z => some (iv z)) (show (so : Int) = so by rfl), rfl⟩ dX7_corners_52
          · skip
            refine g_aload_n F 0 rfl rfl dX7_corners_19 ?_
            refine g_callV F (As := []) (rest := []) (wr := []) (kX7_meets l D cA m m_nc m_nr m_ke m_so m_bu m_bc m_pu m_qu m_fs m_cd unx m_hb m_pf m_ef m_fr m_cs m_cn m_ck chx tbx crx (hn) (hK) (hchx) (hsk.1)) (cwV 0 F.2.2.2.2.1 gX7_corners_X7_meets rfl rfl rfl (by decide +kernel) ⟨Nat.le_of_ble_eq_true rfl, Nat.le_of_ble_eq_true rfl⟩) rfl rfl (q0 := 0) rfl [0, 1, 2, 3, 4, 5, 6, 7] [] rfl rfl (by decide) (by decide) (by decide) rfl rfl (Nat.le_of_ble_eq_true rfl) ⟨Nat.le_of_ble_eq_true rfl, Nat.le_of_ble_eq_true rfl⟩ hA dX7_corners_20 (fun v w hv => ?_)
            obtain ⟨r20, tb20, cr20, un20, hmeets20, hv, hw⟩ := hv
            subst hv
            subst hw
            refine g_wsub (wMO cA m (((m_nc : Nat) : Int)) (((m_nr : Nat) : Int)) (m_ke) (m_so) (m_bu) (m_bc) (m_pu) (m_qu) (((m_fs : Nat) : Int)) (((m_cd : Nat) : Int)) (un20) (m_hb) (m_pf) (m_ef) ++ wME cA m (m_fr) (m_cs) (m_cn) (m_ck) (chx) (tb20) (cr20)) [0, 1, 2, 3, 4, 5, 6, 7] (by decide) rfl ?_
            refine g_eq (st' := [iv (if r20 = true then 1 else 0)]) rfl rfl rfl ?_
            refine g_ifb_eq F (tgt := 43) dX7_corners_23 (by decide) (fun c_4 => ?_) (fun c_4 => ?_)
            · skip
              have hs2 := hs1
              have hv2 : so = 0 → ∀ t, chV m_fs m_cd t → (eqC m_fs t chx ∨ ltC m_fs t chx) → novC m_fs m_cd m_cs m_cn m_ck yesG t := fun w0 t ht hh => by rcases hh with y | y; exact nov_none (by rcases hmeets20 with z | z; exact absurd z.1 c_4; exact z.2) y; exact hlt w0 t ht y
              refine g_aload_n F 0 rfl rfl dX7_corners_43 ?_
              refine g_callV F (As := []) (rest := []) (wr := []) (kX7_another l D cA m m_nc m_nr m_ke m_so m_bu m_bc m_pu m_qu m_fs m_cd un20 m_hb m_pf m_ef m_fr m_cs m_cn m_ck chx tb20 cr20 (hn) (hK) (hchx)) (cwV 0 F.2.2.2.2.1 gX7_corners_X7_another rfl rfl rfl (by decide +kernel) ⟨Nat.le_of_ble_eq_true rfl, Nat.le_of_ble_eq_true rfl⟩) rfl rfl (q0 := 0) rfl [0, 1, 2, 3, 4, 5, 6, 7] [] rfl rfl (by decide) (by decide) (by decide) rfl rfl (Nat.le_of_ble_eq_true rfl) ⟨Nat.le_of_ble_eq_true rfl, Nat.le_of_ble_eq_true rfl⟩ hA dX7_corners_44 (fun v w hv => ?_)
              obtain ⟨r44, ch44, hano44, hv, hw⟩ := hv
              subst hv
              subst hw
              refine g_wsub (wMO cA m (((m_nc : Nat) : Int)) (((m_nr : Nat) : Int)) (m_ke) (m_so) (m_bu) (m_bc) (m_pu) (m_qu) (((m_fs : Nat) : Int)) (((m_cd : Nat) : Int)) (un20) (m_hb) (m_pf) (m_ef) ++ wME cA m (m_fr) (m_cs) (m_cn) (m_ck) (ch44) (tb20) (cr20)) [0, 1, 2, 3, 4, 5, 6, 7] (by decide) rfl ?_
              refine g_eq (st' := [iv (if r44 = true then 1 else 0)]) rfl rfl rfl ?_
              have hnx := an_next hn hK hchx hano44
              refine g_istore_n F ([(3, iv (if r44 = true then 1 else 0)), (0, .ref (m 0)), (1, iv (1)), (2, iv (so))]) rfl rfl (by decide) dX7_corners_47 ?_
              refine g_goto F (tgt := 7) dX7_corners_48 (by decide) ?_
              refine g_lsub ([(0, .ref (m 0)), (1, iv (1)), (2, iv (so)), (3, iv (if r44 = true then 1 else 0))]) [1, 2, 3, 0] rfl ?_
              exact ih7 so r44 ch44 tb20 cr20 un20 (by omega) (hs2) (fun z => ⟨(hnx.1 z).1, fun y t ht hl => hv2 y t ht ((hnx.1 z).2 t ht hl)⟩) (fun y z t ht => hv2 y t ht (hnx.2.1 z t ht)) (by rw [if_pos hmo] at hmu7; omega)
            · skip
              obtain ⟨q0, hq1, hq2⟩ : ∃ q, crnO m_fs m_cs m_cn chx = some (q, un20) ∧ ∀ j, j < m_fs → cr20 j = q j := by rcases hmeets20 with z | z; exact z.2; exact absurd (c_4.symm.trans z.1) (by decide)
              have hq3 := crn_bnd2 hn hsk.1 hchx hq1
              refine g_aload_n F 0 rfl rfl dX7_corners_26 ?_
              refine g_callV F (As := []) (rest := []) (wr := []) (kX7_keepsAll l D cA m m_nc m_nr m_ke m_so m_bu m_bc m_pu m_qu m_fs m_cd un20 m_hb m_pf m_ef m_fr m_cs m_cn m_ck chx tb20 cr20 (hn) (hK) (hsk.1) (hsk.2) (fun j hj => by rw [hq2 j hj]; exact Nat.le_trans (hq3.2.2 j hj) (by decide)) (⟨hq3.1, hq3.2.1⟩)) (cwV 0 F.2.2.2.2.1 gX7_corners_X7_keepsAll rfl rfl rfl (by decide +kernel) ⟨Nat.le_of_ble_eq_true rfl, Nat.le_of_ble_eq_true rfl⟩) rfl rfl (q0 := 0) rfl [0, 1, 2, 3, 4, 5, 6, 7] [] rfl rfl (by decide) (by decide) (by decide) rfl rfl (Nat.le_of_ble_eq_true rfl) ⟨Nat.le_of_ble_eq_true rfl, Nat.le_of_ble_eq_true rfl⟩ hA dX7_corners_27 (fun v w hv => ?_)
              obtain ⟨r27, hkeeps27, hv, hw⟩ := hv
              subst hv
              subst hw
              refine g_wsub (wMO cA m (((m_nc : Nat) : Int)) (((m_nr : Nat) : Int)) (m_ke) (m_so) (m_bu) (m_bc) (m_pu) (m_qu) (((m_fs : Nat) : Int)) (((m_cd : Nat) : Int)) (un20) (m_hb) (m_pf) (m_ef) ++ wME cA m (m_fr) (m_cs) (m_cn) (m_ck) (chx) (tb20) (cr20)) [0, 1, 2, 3, 4, 5, 6, 7] (by decide) rfl ?_
              refine g_eq (st' := [iv (if r27 = true then 1 else 0)]) rfl rfl rfl ?_
              refine g_ifb_eq F (tgt := 43) dX7_corners_30 (by decide) (fun c_5 => ?_) (fun c_5 => ?_)
              · skip
                have hs2 := hs1
                have hv2 : so = 0 → ∀ t, chV m_fs m_cd t → (eqC m_fs t chx ∨ ltC m_fs t chx) → novC m_fs m_cd m_cs m_cn m_ck yesG t := fun w0 t ht hh => by rcases hh with y | y; exact nov_not (fun _ _ _ _ => trivial) hq1 hq2 (fun z => c_5 (hkeeps27.mpr z.1)) y; exact hlt w0 t ht y
                refine g_aload_n F 0 rfl rfl dX7_corners_43 ?_
                refine g_callV F (As := []) (rest := []) (wr := []) (kX7_another l D cA m m_nc m_nr m_ke m_so m_bu m_bc m_pu m_qu m_fs m_cd un20 m_hb m_pf m_ef m_fr m_cs m_cn m_ck chx tb20 cr20 (hn) (hK) (hchx)) (cwV 0 F.2.2.2.2.1 gX7_corners_X7_another rfl rfl rfl (by decide +kernel) ⟨Nat.le_of_ble_eq_true rfl, Nat.le_of_ble_eq_true rfl⟩) rfl rfl (q0 := 0) rfl [0, 1, 2, 3, 4, 5, 6, 7] [] rfl rfl (by decide) (by decide) (by decide) rfl rfl (Nat.le_of_ble_eq_true rfl) ⟨Nat.le_of_ble_eq_true rfl, Nat.le_of_ble_eq_true rfl⟩ hA dX7_corners_44 (fun v w hv => ?_)
                obtain ⟨r44, ch44, hano44, hv, hw⟩ := hv
                subst hv
                subst hw
                refine g_wsub (wMO cA m (((m_nc : Nat) : Int)) (((m_nr : Nat) : Int)) (m_ke) (m_so) (m_bu) (m_bc) (m_pu) (m_qu) (((m_fs : Nat) : Int)) (((m_cd : Nat) : Int)) (un20) (m_hb) (m_pf) (m_ef) ++ wME cA m (m_fr) (m_cs) (m_cn) (m_ck) (ch44) (tb20) (cr20)) [0, 1, 2, 3, 4, 5, 6, 7] (by decide) rfl ?_
                refine g_eq (st' := [iv (if r44 = true then 1 else 0)]) rfl rfl rfl ?_
                have hnx := an_next hn hK hchx hano44
                refine g_istore_n F ([(3, iv (if r44 = true then 1 else 0)), (0, .ref (m 0)), (1, iv (1)), (2, iv (so))]) rfl rfl (by decide) dX7_corners_47 ?_
                refine g_goto F (tgt := 7) dX7_corners_48 (by decide) ?_
                refine g_lsub ([(0, .ref (m 0)), (1, iv (1)), (2, iv (so)), (3, iv (if r44 = true then 1 else 0))]) [1, 2, 3, 0] rfl ?_
                exact ih7 so r44 ch44 tb20 cr20 un20 (by omega) (hs2) (fun z => ⟨(hnx.1 z).1, fun y t ht hl => hv2 y t ht ((hnx.1 z).2 t ht hl)⟩) (fun y z t ht => hv2 y t ht (hnx.2.1 z t ht)) (by rw [if_pos hmo] at hmu7; omega)
              · skip
                have hpl := hkeeps27.mp (by assumption)
                have hs2 : (1 : Int) = 1 → hasC m_fs m_cd m_cs m_cn m_ck yesG := fun _ => has_one (fun _ _ _ _ => trivial) hchx hq3.1 hq1 hq2 hpl trivial
                have hv2 : (1 : Int) = 0 → ∀ t, chV m_fs m_cd t → (eqC m_fs t chx ∨ ltC m_fs t chx) → novC m_fs m_cd m_cs m_cn m_ck yesG t := fun z => absurd z (by decide)
                refine g_iconst F dX7_corners_33 ?_
                refine g_istore_n F ([(2, iv (1)), (0, .ref (m 0)), (1, iv (1)), (3, iv (if mo = true then 1 else 0))]) rfl rfl (by decide) dX7_corners_34 ?_
                refine g_iload_n F 2 rfl rfl dX7_corners_35 ?_
                refine g_if_ne F (tgt := 43) dX7_corners_36 (by decide) ⟨by decide, by decide⟩ (fun c_6 => ?_) (fun c_6 => ?_)
                · skip
                  refine g_aload_n F 1 rfl rfl dX7_corners_43 ?_
                  refine g_callV F (As := []) (rest := []) (wr := []) (kX7_another l D cA m m_nc m_nr m_ke m_so m_bu m_bc m_pu m_qu m_fs m_cd un20 m_hb m_pf m_ef m_fr m_cs m_cn m_ck chx tb20 cr20 (hn) (hK) (hchx)) (cwV 0 F.2.2.2.2.1 gX7_corners_X7_another rfl rfl rfl (by decide +kernel) ⟨Nat.le_of_ble_eq_true rfl, Nat.le_of_ble_eq_true rfl⟩) rfl rfl (q0 := 0) rfl [0, 1, 2, 3, 4, 5, 6, 7] [] rfl rfl (by decide) (by decide) (by decide) rfl rfl (Nat.le_of_ble_eq_true rfl) ⟨Nat.le_of_ble_eq_true rfl, Nat.le_of_ble_eq_true rfl⟩ hA dX7_corners_44 (fun v w hv => ?_)
                  obtain ⟨r44, ch44, hano44, hv, hw⟩ := hv
                  subst hv
                  subst hw
                  refine g_wsub (wMO cA m (((m_nc : Nat) : Int)) (((m_nr : Nat) : Int)) (m_ke) (m_so) (m_bu) (m_bc) (m_pu) (m_qu) (((m_fs : Nat) : Int)) (((m_cd : Nat) : Int)) (un20) (m_hb) (m_pf) (m_ef) ++ wME cA m (m_fr) (m_cs) (m_cn) (m_ck) (ch44) (tb20) (cr20)) [0, 1, 2, 3, 4, 5, 6, 7] (by decide) rfl ?_
                  refine g_eq (st' := [iv (if r44 = true then 1 else 0)]) rfl rfl rfl ?_
                  have hnx := an_next hn hK hchx hano44
                  refine g_istore_n F ([(3, iv (if r44 = true then 1 else 0)), (2, iv (1)), (0, .ref (m 0)), (1, iv (1))]) rfl rfl (by decide) dX7_corners_47 ?_
                  refine g_goto F (tgt := 7) dX7_corners_48 (by decide) ?_
                  refine g_lsub ([(0, .ref (m 0)), (1, iv (1)), (2, iv (1)), (3, iv (if r44 = true then 1 else 0))]) [2, 3, 1, 0] rfl ?_
                  exact ih7 1 r44 ch44 tb20 cr20 un20 (by omega) (hs2) (fun z => ⟨(hnx.1 z).1, fun y t ht hl => hv2 y t ht ((hnx.1 z).2 t ht hl)⟩) (fun y z t ht => hv2 y t ht (hnx.2.1 z t ht)) (by rw [if_pos hmo] at hmu7; omega)
                · skip
                  exfalso; omega
  refine g_lsub ([(0, .ref (m 0)), (1, iv (1)), (2, iv (0)), (3, iv (if decide (m_fs ≤ m_cd) = true then 1 else 0))]) [2, 3, 1, 0] rfl ?_
  exact lp7 (_ + 1) 0 (decide (m_fs ≤ m_cd)) (mixZ (fun q => (q : Int)) m_ch m_fs) m_tb m_cr m_un (Or.inl rfl) (fun z => absurd z (by decide)) (fun z => ⟨(first_ok (of_decide_eq_true z)).1, fun _ t ht hl => absurd hl ((first_ok (of_decide_eq_true z)).2 t ht)⟩) (fun _ z t ht => absurd (ch_size ht) (of_decide_eq_false z)) (Nat.lt_succ_self _)
