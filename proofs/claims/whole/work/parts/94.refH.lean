def visC (nc n K : Nat) (fx : Nat → Bool) (fr : Nat → Nat) (fv cs cn ck co : Nat → Int) (so : Prop) (b : BS4) (t : Nat → Int) : Prop := ∀ q u, crnO n cs cn t = some (q, u) → plP n K (cdV n cs cn) ck (ptV q u) → so ∧ ∃ y, isFu nc n fx fr fv (ptV q u) y ∧ leqP nc co (bpV nc b) y
def crI (nc n K : Nat) (fx : Nat → Bool) (fr : Nat → Nat) (fv cs cn ck co be0 : Nat → Int) (bc0 bu0 hb0 : Int) (be : Nat → Int) (bc bu hb so : Int) : Prop :=
  bsI nc co be bc bu hb ∧ (so = 0 ∨ so = 1) ∧ (so = 1 → hb = 1) ∧ (hb0 = 1 → hb = 1 ∧ leqP nc co (bpV nc (be, bc, bu, 0)) (bpV nc (be0, bc0, bu0, 0))) ∧
  ((be = be0 ∧ bc = bc0 ∧ bu = bu0 ∧ hb = hb0) ∨ (so = 1 ∧ ∃ q, plP n K (cdV n cs cn) ck (ptV q bu) ∧ isFu nc n fx fr fv (ptV q bu) (bpV nc (be, bc, bu, 0)))) ∧ (∀ j, nc ≤ j → be j = be0 j) ∧ (so = 1 → ∃ q u, 0 < u ∧ plP n K (cdV n cs cn) ck (ptV q u))
theorem cr_0 {nc n K : Nat} {fx : Nat → Bool} {fr : Nat → Nat} {fv cs cn ck co be0 : Nat → Int} {bc0 bu0 hb0 : Int} (h : bsI nc co be0 bc0 bu0 hb0) : crI nc n K fx fr fv cs cn ck co be0 bc0 bu0 hb0 be0 bc0 bu0 hb0 0 :=
  ⟨h, Or.inl rfl, fun z => absurd z (by decide), fun z => ⟨z, leq_self _ _ _⟩, Or.inl ⟨rfl, rfl, rfl, rfl⟩, fun _ _ => rfl, fun z => absurd z (by decide)⟩
theorem bp_eqv {nc n : Nat} {fx : Nat → Bool} {fr : Nat → Nat} (hf : frI nc n fx fr) {fv z tr be : Nat → Int} {un bc : Int} (h : isFu nc n fx fr fv z (ptV tr un)) : isFu nc n fx fr fv z (bpV nc (mixZ tr be nc, bc, un, 0)) := by
  obtain ⟨h1, h2, h3⟩ := h
  have ec : ∀ c, c < nc → bpV nc (mixZ tr be nc, bc, un, 0) (1 + c) = ptV tr un (1 + c) := fun c hc => by rw [pt_c, bp_c _ hc]; exact mix_lt hc
  refine ⟨by rw [bp_0, ← h1, pt_0], fun c hc hx => ?_, fun j hj => ?_⟩
  · rw [ec c hc, bp_0, h2 c hc hx, pt_0]
  · rw [ec _ (fr_at hf hj).1]; exact h3 j hj
theorem crI_put {nc n K : Nat} (hnc : nc ≤ 5) {fx : Nat → Bool} {fr : Nat → Nat} (hf : frI nc n fx fr) {fv cs cn ck co be0 be cr tr be' : Nat → Int} {bc0 bu0 hb0 bc bu hb so un bc' bu' hb' : Int} (hco : ∀ j, -9 ≤ co j ∧ co j ≤ 9) (hun : 0 < un ∧ un ≤ 7085880) (h00 : 0 < bu0)
    (h : crI nc n K fx fr fv cs cn ck co be0 bc0 bu0 hb0 be bc bu hb so) (ho : offI nc co be bc bu hb un tr be' bc' bu' hb') (hi : isFu nc n fx fr fv (ptV cr un) (ptV tr un)) (hp : plP n K (cdV n cs cn) ck (ptV cr un)) : crI nc n K fx fr fv cs cn ck co be0 bc0 bu0 hb0 be' bc' bu' hb' 1 := by
  obtain ⟨h1, h2, h3, h4, h5, h6, h7⟩ := h
  have hbs := off_bs hnc hco hun h1 ho
  obtain ⟨o1, o2, o3, o4, o5⟩ := ho
  refine ⟨hbs, Or.inr rfl, fun _ => o2, fun z => ⟨o2, ?_⟩, ?_, fun j hj => ?_, fun _ => ⟨cr, un, hun.1, hp⟩⟩
  · obtain ⟨a1, a2⟩ := h4 z
    exact leq_trans (by rw [bp_0]; exact hbs.2.1.1) (by rw [bp_0]; exact h1.2.1.1) (by rw [bp_0]; exact h00) (o4 a1) a2
  · rcases o3 with ⟨e1, e2, e3, e4⟩ | ⟨e1, e2, e3⟩
    · rcases h5 with ⟨f1, f2, f3, f4⟩ | ⟨-, q, q1, q2⟩
      · exact Or.inl ⟨by rw [e1, f1], by rw [e3, f2], by rw [e2, f3], by rw [o2, ← f4, e4]⟩
      · refine Or.inr ⟨rfl, q, ?_⟩
        rw [e1, e2, e3]; exact ⟨q1, q2⟩
    · refine Or.inr ⟨rfl, cr, ?_, ?_⟩
      · rw [e2]; exact hp
      · rw [e1, e2]; exact bp_eqv hf hi
  · rcases o3 with ⟨e1, -, -, -⟩ | ⟨e1, -, -⟩
    · rw [e1]; exact h6 j hj
    · rw [e1, mix_ge hj]; exact h6 j hj
theorem vis_mono {nc n K : Nat} (hn : n ≤ 5) {fx : Nat → Bool} {fr : Nat → Nat} {fv cs cn ck co : Nat → Int} {so so' : Prop} {b b' : BS4} (hs : smallC n K cs cn) (hso : so → so') (hb : 0 < b.2.2.1) (hb' : 0 < b'.2.2.1) (hl : so → leqP nc co (bpV nc b') (bpV nc b)) {t : Nat → Int} (ht : chV n K t) (h : visC nc n K fx fr fv cs cn ck co so b t) : visC nc n K fx fr fv cs cn ck co so' b' t := by
  intro q u h1 h2
  obtain ⟨a1, y, a2, a3⟩ := h q u h1 h2
  refine ⟨hso a1, y, a2, leq_trans (by rw [bp_0]; exact hb') (by rw [bp_0]; exact hb) ?_ (hl a1) a3⟩
  rw [a2.1, pt_0]; exact (crn_bnd hn hs ht h1).1
theorem vis_new {nc n K : Nat} {fx : Nat → Bool} {fr : Nat → Nat} {fv cs cn ck co chx cr tr : Nat → Int} {so : Prop} {b : BS4} {un : Int} {q0 : Nat → Int} (hc : crnO n cs cn chx = some (q0, un)) (hq : ∀ j, j < n → cr j = q0 j) (hi : isFu nc n fx fr fv (ptV cr un) (ptV tr un)) (hl : leqP nc co (bpV nc b) (ptV tr un)) (hso : so) {t : Nat → Int} (he : eqC n t chx) : visC nc n K fx fr fv cs cn ck co so b t := by
  intro q u h1 h2
  obtain ⟨q', e1, e2⟩ := crn_cong he h1
  rw [hc] at e1
  have e3 := Prod.mk.inj (Option.some.inj e1)
  obtain ⟨e4, e5⟩ := e3
  rw [← e5]
  exact ⟨hso, _, fu_pt (fun j hj => by rw [hq j hj, e4, e2 j hj]) hi, hl⟩
theorem vis_none {nc n K : Nat} {fx : Nat → Bool} {fr : Nat → Nat} {fv cs cn ck co chx : Nat → Int} {so : Prop} {b : BS4} (hc : crnO n cs cn chx = none) {t : Nat → Int} (he : eqC n t chx) : visC nc n K fx fr fv cs cn ck co so b t := by
  intro q u h1 h2
  obtain ⟨q', e1, e2⟩ := crn_cong he h1
  rw [hc] at e1; cases e1
theorem vis_not {nc n K : Nat} {fx : Nat → Bool} {fr : Nat → Nat} {fv cs cn ck co chx cr : Nat → Int} {so : Prop} {b : BS4} {un : Int} {q0 : Nat → Int} (hc : crnO n cs cn chx = some (q0, un)) (hq : ∀ j, j < n → cr j = q0 j) (hp : ¬ plP n K (cdV n cs cn) ck (ptV cr un)) {t : Nat → Int} (he : eqC n t chx) : visC nc n K fx fr fv cs cn ck co so b t := by
  intro q u h1 h2
  obtain ⟨q', e1, e2⟩ := crn_cong he h1
  rw [hc] at e1
  obtain ⟨e4, e5⟩ := Prod.mk.inj (Option.some.inj e1)
  exfalso
  apply hp
  rw [e5]
  exact pl_pt (fun j hj => by rw [hq j hj, e4, e2 j hj]) h2
theorem ch_cong {n K : Nat} {c c' : Nat → Int} (h : ∀ j, j < n → c' j = c j) (hc : chV n K c) : chV n K c' := ⟨fun i hi => by rw [h i hi]; exact hc.1 i hi, fun i j hij hj => by rw [h i (by omega), h j hj]; exact hc.2 i j hij hj⟩
theorem lt_cong {n : Nat} {c c' t : Nat → Int} (h : ∀ j, j < n → c' j = c j) (hl : ltC n t c') : ltC n t c := by
  obtain ⟨i, h1, h2, h3⟩ := hl
  exact ⟨i, h1, by rw [← h i h1]; exact h2, fun j hj => by rw [h3 j hj, h j (by omega)]⟩
theorem lt_congl {n : Nat} {c c' t : Nat → Int} (h : ∀ j, j < n → c' j = c j) (hl : ltC n t c) : ltC n t c' := lt_cong (fun j hj => (h j hj).symm) hl
def muC (n : Nat) (c : Nat → Int) : Nat := 33554433 - (cdC c n).toNat
theorem mu_lt {n K : Nat} (hn : n ≤ 5) (hK : K ≤ 20) {c t : Nat → Int} (hc : chV n K c) (ht : chV n K t) (h : ltC n c t) : muC n t < muC n c := by
  have h1 := cdC_lt (show K ≤ 31 by omega) hc ht h
  have h2 := cdC_rng (show K ≤ 31 by omega) hc n (Nat.le_refl n)
  have h3 := cdC_rng (show K ≤ 31 by omega) ht n (Nat.le_refl n)
  have h4 : (32 : Int) ^ n ≤ 33554432 := by
    rcases (show n = 0 ∨ n = 1 ∨ n = 2 ∨ n = 3 ∨ n = 4 ∨ n = 5 by omega) with e | e | e | e | e | e <;> subst e <;> decide
  unfold muC
  omega
/-- one choice on: all that were seen, or all there are -/
theorem an_next {n K : Nat} (hn : n ≤ 5) (hK : K ≤ 20) {chx ch' : Nat → Int} {r : Bool} (hch : chV n K chx) (h : (r = false ∧ pvI n K chx n < 0) ∨ (r = true ∧ ∃ i0 : Nat, pvI n K chx n = (i0 : Int) ∧ ∀ j, j < n → ch' j = nxC chx i0 j)) : (r = true → chV n K ch' ∧ ∀ t, chV n K t → ltC n t ch' → (eqC n t chx ∨ ltC n t chx)) ∧ (r = false → ∀ t, chV n K t → (eqC n t chx ∨ ltC n t chx)) ∧ (if r = true then muC n ch' + 1 else 0) < muC n chx + 1 := by
  rcases h with ⟨e, h1⟩ | ⟨e, i0, h1, h2⟩
  · subst e
    refine ⟨fun z => absurd z (by decide), fun _ t ht => ch_last h1 ht, ?_⟩
    rw [if_neg (by decide)]; omega
  · subst e
    obtain ⟨a1, a2, a3, a4⟩ := ch_next hch h1
    have hc' : chV n K ch' := ch_cong h2 a2
    refine ⟨fun _ => ⟨hc', fun t ht hl => a4 t ht (lt_cong h2 hl)⟩, fun z => absurd z (by decide), ?_⟩
    rw [if_pos rfl]
    have := mu_lt hn hK hch hc' (lt_congl h2 a3)
    omega
theorem first_ok {n K : Nat} {ch : Nat → Int} (h : n ≤ K) : chV n K (mixZ (fun q => (q : Int)) ch n) ∧ ∀ t, chV n K t → ¬ ltC n t (mixZ (fun q => (q : Int)) ch n) := by
  have e : ∀ j, j < n → mixZ (fun q => (q : Int)) ch n j = (j : Int) := fun j hj => mix_lt hj
  exact ⟨ch_cong e (ch_first h), fun t ht hl => first_least ht (lt_cong e hl)⟩
set_option maxHeartbeats 4000000 in
set_option maxRecDepth 100000 in
theorem kX7_corners_all (l : Launch) (D : va_G) (cA : Nat → ClassId) (m : Nat → Nat) (m_nc : Nat) (m_nr : Nat) (m_ke : Int) (m_so : Int) (m_bu : Int) (m_bc : Int) (m_pu : Int) (m_qu : Int) (m_fs : Nat) (m_cd : Nat) (m_un : Int) (m_hb : Int) (m_pf : Int) (m_ef : Int) (m_kd : Nat → Int) (m_lo : Nat → Int) (m_hi : Nat → Int) (m_co : Nat → Int) (m_pa : Nat → Int) (m_rk : Nat → Int) (m_nu : Nat → Int) (m_ct : Nat → Int) (m_sa : Nat → Int) (m_fr : Nat → Int) (m_cs : Nat → Int) (m_cn : Nat → Int) (m_ck : Nat → Int) (m_ch : Nat → Int) (m_tb : Nat → Int) (m_cr : Nat → Int) (m_fx : Nat → Int) (m_fv : Nat → Int) (m_sn : Nat → Int) (m_be : Nat → Int) (m_tr : Nat → Int) (m_wy : Nat → Int) (qnc : m_nc ≤ 5) (hfx : ∀ j, j < m_nc → 0 ≤ m_fx j ∧ m_fx j ≤ 1) (hfv : ∀ j, j < m_nc → m_fx j ≠ 0 → -20 ≤ m_fv j ∧ m_fv j ≤ 20) (hco : ∀ j, -9 ≤ m_co j ∧ m_co j ≤ 9) (hbs : bsI m_nc m_co m_be m_bc m_bu m_hb) (hfr : frI m_nc m_fs (bzF m_fx) (frN m_fr)) (hfj : ∀ j, j < m_fs → 0 ≤ m_fr j ∧ m_fr j < (m_nc : Int)) (hsk : smK m_fs m_cd m_cs m_cn m_ck) (hK : m_cd ≤ 20) (hn : m_fs ≤ 5) : CT l yX7_corners wsX7_corners ({ frames := 2, cells := 0, slots := 0, locals := 58 }) D cA [.ref (m 0), iv (0)] (wMO cA m (((m_nc : Nat) : Int)) (((m_nr : Nat) : Int)) (m_ke) (m_so) (m_bu) (m_bc) (m_pu) (m_qu) (((m_fs : Nat) : Int)) (((m_cd : Nat) : Int)) (m_un) (m_hb) (m_pf) (m_ef) ++ wMP cA m (m_kd) (m_lo) (m_hi) (m_co) (m_pa) (m_rk) (m_nu) (m_ct) (m_sa) ++ wME cA m (m_fr) (m_cs) (m_cn) (m_ck) (m_ch) (m_tb) (m_cr) ++ wMX cA m (m_fx) (m_fv) (m_sn) ++ wMB cA m (m_be) (m_tr) (m_wy)) (fun ov ow => ∃ (so : Int) (ch : Nat → Int) (tb : Nat → Int) (cr : Nat → Int) (un : Int) (tr : Nat → Int) (be : Nat → Int) (bc : Int) (bu : Int) (hb : Int), (crI m_nc m_fs m_cd (bzF m_fx) (frN m_fr) m_fv m_cs m_cn m_ck m_co m_be m_bc m_bu m_hb be bc bu hb so ∧ ∀ t, chV m_fs m_cd t → visC m_nc m_fs m_cd (bzF m_fx) (frN m_fr) m_fv m_cs m_cn m_ck m_co (so = 1) (be, bc, bu, 0) t) ∧ ov = some (iv (so)) ∧ ow = wMO cA m (((m_nc : Nat) : Int)) (((m_nr : Nat) : Int)) (m_ke) (m_so) (bu) (bc) (m_pu) (m_qu) (((m_fs : Nat) : Int)) (((m_cd : Nat) : Int)) (un) (hb) (m_pf) (m_ef) ++ wMP cA m (m_kd) (m_lo) (m_hi) (m_co) (m_pa) (m_rk) (m_nu) (m_ct) (m_sa) ++ wME cA m (m_fr) (m_cs) (m_cn) (m_ck) (ch) (tb) (cr) ++ wMX cA m (m_fx) (m_fv) (m_sn) ++ wMB cA m (be) (tr) (m_wy)) 0 0 := by
  refine CT.mk (cc := cX7_corners) (maxL := 4) (ret := (some .boolean)) (by decide +kernel) rfl (Nat.le_of_ble_eq_true rfl) ?_
  intro p_ e_ s_ m_ b_ me_ c_ A F hnm hA
  have hV := @IM_P D s_ A
  refine g_lsub ([(0, .ref (m 0)), (1, iv (0))]) [0, 1] rfl ?_
  refine g_iconst F dX7_corners_0 ?_
  refine g_istore_n F ([(2, iv (0)), (0, .ref (m 0)), (1, iv (0))]) rfl rfl (by decide) dX7_corners_1 ?_
  refine g_aload_n F 1 rfl rfl dX7_corners_2 ?_
  refine g_callV F (As := []) (rest := []) (wr := wMP cA m (m_kd) (m_lo) (m_hi) (m_co) (m_pa) (m_rk) (m_nu) (m_ct) (m_sa) ++ wMX cA m (m_fx) (m_fv) (m_sn) ++ wMB cA m (m_be) (m_tr) (m_wy)) (kX7_first l D cA m m_nc m_nr m_ke m_so m_bu m_bc m_pu m_qu m_fs m_cd m_un m_hb m_pf m_ef m_fr m_cs m_cn m_ck m_ch m_tb m_cr (hn) (hK)) (cwV 0 F.2.2.2.2.1 gX7_corners_X7_first rfl rfl rfl (by decide +kernel) ⟨Nat.le_of_ble_eq_true rfl, Nat.le_of_ble_eq_true rfl⟩) rfl rfl (q0 := 0) rfl [0, 10, 11, 12, 13, 14, 15, 16] [1, 2, 3, 4, 5, 6, 7, 8, 9, 17, 18, 19, 20, 21, 22] rfl rfl (by decide) (by decide) (by decide) rfl rfl (Nat.le_of_ble_eq_true rfl) ⟨Nat.le_of_ble_eq_true rfl, Nat.le_of_ble_eq_true rfl⟩ hA dX7_corners_3 (fun v w hv => ?_)
  obtain ⟨hv, hw⟩ := hv
  subst hv
  subst hw
  refine g_wsub (wMO cA m (((m_nc : Nat) : Int)) (((m_nr : Nat) : Int)) (m_ke) (m_so) (m_bu) (m_bc) (m_pu) (m_qu) (((m_fs : Nat) : Int)) (((m_cd : Nat) : Int)) (m_un) (m_hb) (m_pf) (m_ef) ++ wMP cA m (m_kd) (m_lo) (m_hi) (m_co) (m_pa) (m_rk) (m_nu) (m_ct) (m_sa) ++ wME cA m (m_fr) (m_cs) (m_cn) (m_ck) (mixZ (fun q => (q : Int)) m_ch m_fs) (m_tb) (m_cr) ++ wMX cA m (m_fx) (m_fv) (m_sn) ++ wMB cA m (m_be) (m_tr) (m_wy)) [15, 0, 1, 2, 3, 4, 5, 6, 7, 8, 16, 17, 18, 19, 20, 21, 22, 9, 10, 11, 12, 13, 14] (by decide) rfl ?_
  refine g_eq (st' := [iv (if m_fs ≤ m_cd then 1 else 0)]) rfl rfl rfl ?_
  refine g_eq (st' := [iv (if decide (m_fs ≤ m_cd) = true then 1 else 0)]) rfl rfl (congrArg (fun zz => [iv zz]) (show (if m_fs ≤ m_cd then 1 else 0 : Int) = if decide (m_fs ≤ m_cd) = true then 1 else 0 from (ite01 (by rw [decide_eq_true_eq])))) ?_
  refine g_istore_n F ([(3, iv (if decide (m_fs ≤ m_cd) = true then 1 else 0)), (2, iv (0)), (0, .ref (m 0)), (1, iv (0))]) rfl rfl (by decide) dX7_corners_6 ?_
  have lp7 : ∀ (n : Nat) (so : Int) (mo : Bool) (chx : Nat → Int) (tbx : Nat → Int) (crx : Nat → Int) (unx : Int) (trx : Nat → Int) (bex : Nat → Int) (bcx : Int) (bux : Int) (hbx : Int) (hso : so = 0 ∨ so = 1) (hci : crI m_nc m_fs m_cd (bzF m_fx) (frN m_fr) m_fv m_cs m_cn m_ck m_co m_be m_bc m_bu m_hb bex bcx bux hbx so) (hmt : mo = true → chV m_fs m_cd chx ∧ ∀ t, chV m_fs m_cd t → ltC m_fs t chx → visC m_nc m_fs m_cd (bzF m_fx) (frN m_fr) m_fv m_cs m_cn m_ck m_co (so = 1) (bex, bcx, bux, 0) t) (hmf : mo = false → ∀ t, chV m_fs m_cd t → visC m_nc m_fs m_cd (bzF m_fx) (frN m_fr) m_fv m_cs m_cn m_ck m_co (so = 1) (bex, bcx, bux, 0) t), (if mo = true then muC m_fs chx + 1 else 0) < n → GW p_ l e_ (headSpec wsX7_corners ({ frames := 2, cells := 0, slots := 0, locals := 58 })).room s_ m_ ([.ref (m 0), iv (0)]).toArray b_ me_ c_ (MQ b_ (Qm D (fun ov ow => ∃ (so : Int) (ch : Nat → Int) (tb : Nat → Int) (cr : Nat → Int) (un : Int) (tr : Nat → Int) (be : Nat → Int) (bc : Int) (bu : Int) (hb : Int), (crI m_nc m_fs m_cd (bzF m_fx) (frN m_fr) m_fv m_cs m_cn m_ck m_co m_be m_bc m_bu m_hb be bc bu hb so ∧ ∀ t, chV m_fs m_cd t → visC m_nc m_fs m_cd (bzF m_fx) (frN m_fr) m_fv m_cs m_cn m_ck m_co (so = 1) (be, bc, bu, 0) t) ∧ ov = some (iv (so)) ∧ ow = wMO cA m (((m_nc : Nat) : Int)) (((m_nr : Nat) : Int)) (m_ke) (m_so) (bu) (bc) (m_pu) (m_qu) (((m_fs : Nat) : Int)) (((m_cd : Nat) : Int)) (un) (hb) (m_pf) (m_ef) ++ wMP cA m (m_kd) (m_lo) (m_hi) (m_co) (m_pa) (m_rk) (m_nu) (m_ct) (m_sa) ++ wME cA m (m_fr) (m_cs) (m_cn) (m_ck) (ch) (tb) (cr) ++ wMX cA m (m_fx) (m_fv) (m_sn) ++ wMB cA m (be) (tr) (m_wy)) A) ([.ref (m 0), iv (0)]).toArray s_ 0 0 A) (IM D s_ A) 4 0 0 (wMO cA m (((m_nc : Nat) : Int)) (((m_nr : Nat) : Int)) (m_ke) (m_so) (bux) (bcx) (m_pu) (m_qu) (((m_fs : Nat) : Int)) (((m_cd : Nat) : Int)) (unx) (hbx) (m_pf) (m_ef) ++ wMP cA m (m_kd) (m_lo) (m_hi) (m_co) (m_pa) (m_rk) (m_nu) (m_ct) (m_sa) ++ wME cA m (m_fr) (m_cs) (m_cn) (m_ck) (chx) (tbx) (crx) ++ wMX cA m (m_fx) (m_fv) (m_sn) ++ wMB cA m (bex) (trx) (m_wy)) ([(0, .ref (m 0)), (1, iv (0)), (2, iv (so)), (3, iv (if mo = true then 1 else 0))]) [] 7 := by
    intro n; induction n with
    | zero => intro so mo chx tbx crx unx trx bex bcx bux hbx; intros; omega
    | succ n ih7 =>
      intro so mo chx tbx crx unx trx bex bcx bux hbx hso hci hmt hmf hmu7
      refine g_iload_n F 3 rfl rfl dX7_corners_7 ?_
      refine g_ifb_eq F (tgt := 51) dX7_corners_8 (by decide) (fun c_1 => ?_) (fun c_1 => ?_)
      · skip
        refine g_iload_n F 2 rfl rfl dX7_corners_51 ?_
        exact g_zret F rfl (nar_01 (by omega)) (by decide) (by decide) ⟨so, chx, tbx, crx, unx, trx, bex, bcx, bux, hbx, ⟨hci, hmf (Bool.eq_false_iff.mpr (by assumption))⟩, congrArg (fun z => some (iv z)) (show (so : Int) = so by rfl), rfl⟩ dX7_corners_52
      · skip
        have hmo : mo = true := by assumption
        obtain ⟨hchx, hlt⟩ := hmt hmo
        refine g_iload_n F 1 rfl rfl dX7_corners_11 ?_
        refine g_if_eq F (tgt := 19) dX7_corners_12 (by decide) ⟨by decide, by decide⟩ (fun c_2 => ?_) (fun c_2 => ?_)
        · skip
          refine g_aload_n F 0 rfl rfl dX7_corners_19 ?_
          refine g_callV F (As := []) (rest := []) (wr := wMP cA m (m_kd) (m_lo) (m_hi) (m_co) (m_pa) (m_rk) (m_nu) (m_ct) (m_sa) ++ wMX cA m (m_fx) (m_fv) (m_sn) ++ wMB cA m (bex) (trx) (m_wy)) (kX7_meets l D cA m m_nc m_nr m_ke m_so bux bcx m_pu m_qu m_fs m_cd unx hbx m_pf m_ef m_fr m_cs m_cn m_ck chx tbx crx (hn) (hK) (hchx) (hsk.1)) (cwV 0 F.2.2.2.2.1 gX7_corners_X7_meets rfl rfl rfl (by decide +kernel) ⟨Nat.le_of_ble_eq_true rfl, Nat.le_of_ble_eq_true rfl⟩) rfl rfl (q0 := 0) rfl [0, 10, 11, 12, 13, 14, 15, 16] [1, 2, 3, 4, 5, 6, 7, 8, 9, 17, 18, 19, 20, 21, 22] rfl rfl (by decide) (by decide) (by decide) rfl rfl (Nat.le_of_ble_eq_true rfl) ⟨Nat.le_of_ble_eq_true rfl, Nat.le_of_ble_eq_true rfl⟩ hA dX7_corners_20 (fun v w hv => ?_)
          obtain ⟨r20, tb20, cr20, un20, hmeets20, hv, hw⟩ := hv
          subst hv
          subst hw
          refine g_wsub (wMO cA m (((m_nc : Nat) : Int)) (((m_nr : Nat) : Int)) (m_ke) (m_so) (bux) (bcx) (m_pu) (m_qu) (((m_fs : Nat) : Int)) (((m_cd : Nat) : Int)) (un20) (hbx) (m_pf) (m_ef) ++ wMP cA m (m_kd) (m_lo) (m_hi) (m_co) (m_pa) (m_rk) (m_nu) (m_ct) (m_sa) ++ wME cA m (m_fr) (m_cs) (m_cn) (m_ck) (chx) (tb20) (cr20) ++ wMX cA m (m_fx) (m_fv) (m_sn) ++ wMB cA m (bex) (trx) (m_wy)) [15, 0, 1, 2, 3, 4, 5, 6, 7, 8, 16, 17, 18, 19, 20, 21, 22, 9, 10, 11, 12, 13, 14] (by decide) rfl ?_
          refine g_eq (st' := [iv (if r20 = true then 1 else 0)]) rfl rfl rfl ?_
          refine g_ifb_eq F (tgt := 43) dX7_corners_23 (by decide) (fun c_3 => ?_) (fun c_3 => ?_)
          · skip
            have hci2 := hci
            have hv2 : ∀ t, chV m_fs m_cd t → (eqC m_fs t chx ∨ ltC m_fs t chx) → visC m_nc m_fs m_cd (bzF m_fx) (frN m_fr) m_fv m_cs m_cn m_ck m_co (so = 1) (bex, bcx, bux, 0) t := fun t ht hh => by rcases hh with y | y; exact vis_none (by rcases hmeets20 with z | z; exact absurd z.1 c_3; exact z.2) y; exact hlt t ht y
            refine g_aload_n F 0 rfl rfl dX7_corners_43 ?_
            refine g_callV F (As := []) (rest := []) (wr := wMP cA m (m_kd) (m_lo) (m_hi) (m_co) (m_pa) (m_rk) (m_nu) (m_ct) (m_sa) ++ wMX cA m (m_fx) (m_fv) (m_sn) ++ wMB cA m (bex) (trx) (m_wy)) (kX7_another l D cA m m_nc m_nr m_ke m_so bux bcx m_pu m_qu m_fs m_cd un20 hbx m_pf m_ef m_fr m_cs m_cn m_ck chx tb20 cr20 (hn) (hK) (hchx)) (cwV 0 F.2.2.2.2.1 gX7_corners_X7_another rfl rfl rfl (by decide +kernel) ⟨Nat.le_of_ble_eq_true rfl, Nat.le_of_ble_eq_true rfl⟩) rfl rfl (q0 := 0) rfl [0, 10, 11, 12, 13, 14, 15, 16] [1, 2, 3, 4, 5, 6, 7, 8, 9, 17, 18, 19, 20, 21, 22] rfl rfl (by decide) (by decide) (by decide) rfl rfl (Nat.le_of_ble_eq_true rfl) ⟨Nat.le_of_ble_eq_true rfl, Nat.le_of_ble_eq_true rfl⟩ hA dX7_corners_44 (fun v w hv => ?_)
            obtain ⟨r44, ch44, hano44, hv, hw⟩ := hv
            subst hv
            subst hw
            refine g_wsub (wMO cA m (((m_nc : Nat) : Int)) (((m_nr : Nat) : Int)) (m_ke) (m_so) (bux) (bcx) (m_pu) (m_qu) (((m_fs : Nat) : Int)) (((m_cd : Nat) : Int)) (un20) (hbx) (m_pf) (m_ef) ++ wMP cA m (m_kd) (m_lo) (m_hi) (m_co) (m_pa) (m_rk) (m_nu) (m_ct) (m_sa) ++ wME cA m (m_fr) (m_cs) (m_cn) (m_ck) (ch44) (tb20) (cr20) ++ wMX cA m (m_fx) (m_fv) (m_sn) ++ wMB cA m (bex) (trx) (m_wy)) [15, 0, 1, 2, 3, 4, 5, 6, 7, 8, 16, 17, 18, 19, 20, 21, 22, 9, 10, 11, 12, 13, 14] (by decide) rfl ?_
            refine g_eq (st' := [iv (if r44 = true then 1 else 0)]) rfl rfl rfl ?_
            have hnx := an_next hn hK hchx hano44
            refine g_istore_n F ([(3, iv (if r44 = true then 1 else 0)), (0, .ref (m 0)), (1, iv (0)), (2, iv (so))]) rfl rfl (by decide) dX7_corners_47 ?_
            refine g_goto F (tgt := 7) dX7_corners_48 (by decide) ?_
            refine g_lsub ([(0, .ref (m 0)), (1, iv (0)), (2, iv (so)), (3, iv (if r44 = true then 1 else 0))]) [1, 2, 3, 0] rfl ?_
            exact ih7 so r44 ch44 tb20 cr20 un20 trx bex bcx bux hbx (by omega) (hci2) (fun z => ⟨(hnx.1 z).1, fun t ht hl => hv2 t ht ((hnx.1 z).2 t ht hl)⟩) (fun z t ht => hv2 t ht (hnx.2.1 z t ht)) (by rw [if_pos hmo] at hmu7; omega)
          · skip
            obtain ⟨q0, hq1, hq2⟩ : ∃ q, crnO m_fs m_cs m_cn chx = some (q, un20) ∧ ∀ j, j < m_fs → cr20 j = q j := by rcases hmeets20 with z | z; exact z.2; exact absurd (c_3.symm.trans z.1) (by decide)
            have hq3 := crn_bnd2 hn hsk.1 hchx hq1
            refine g_aload_n F 0 rfl rfl dX7_corners_26 ?_
            refine g_callV F (As := []) (rest := []) (wr := wMP cA m (m_kd) (m_lo) (m_hi) (m_co) (m_pa) (m_rk) (m_nu) (m_ct) (m_sa) ++ wMX cA m (m_fx) (m_fv) (m_sn) ++ wMB cA m (bex) (trx) (m_wy)) (kX7_keepsAll l D cA m m_nc m_nr m_ke m_so bux bcx m_pu m_qu m_fs m_cd un20 hbx m_pf m_ef m_fr m_cs m_cn m_ck chx tb20 cr20 (hn) (hK) (hsk.1) (hsk.2) (fun j hj => by rw [hq2 j hj]; exact Nat.le_trans (hq3.2.2 j hj) (by decide)) (⟨hq3.1, hq3.2.1⟩)) (cwV 0 F.2.2.2.2.1 gX7_corners_X7_keepsAll rfl rfl rfl (by decide +kernel) ⟨Nat.le_of_ble_eq_true rfl, Nat.le_of_ble_eq_true rfl⟩) rfl rfl (q0 := 0) rfl [0, 10, 11, 12, 13, 14, 15, 16] [1, 2, 3, 4, 5, 6, 7, 8, 9, 17, 18, 19, 20, 21, 22] rfl rfl (by decide) (by decide) (by decide) rfl rfl (Nat.le_of_ble_eq_true rfl) ⟨Nat.le_of_ble_eq_true rfl, Nat.le_of_ble_eq_true rfl⟩ hA dX7_corners_27 (fun v w hv => ?_)
            obtain ⟨r27, hkeeps27, hv, hw⟩ := hv
            subst hv
            subst hw
            refine g_wsub (wMO cA m (((m_nc : Nat) : Int)) (((m_nr : Nat) : Int)) (m_ke) (m_so) (bux) (bcx) (m_pu) (m_qu) (((m_fs : Nat) : Int)) (((m_cd : Nat) : Int)) (un20) (hbx) (m_pf) (m_ef) ++ wMP cA m (m_kd) (m_lo) (m_hi) (m_co) (m_pa) (m_rk) (m_nu) (m_ct) (m_sa) ++ wME cA m (m_fr) (m_cs) (m_cn) (m_ck) (chx) (tb20) (cr20) ++ wMX cA m (m_fx) (m_fv) (m_sn) ++ wMB cA m (bex) (trx) (m_wy)) [15, 0, 1, 2, 3, 4, 5, 6, 7, 8, 16, 17, 18, 19, 20, 21, 22, 9, 10, 11, 12, 13, 14] (by decide) rfl ?_
            refine g_eq (st' := [iv (if r27 = true then 1 else 0)]) rfl rfl rfl ?_
            refine g_ifb_eq F (tgt := 43) dX7_corners_30 (by decide) (fun c_4 => ?_) (fun c_4 => ?_)
            · skip
              have hci2 := hci
              have hv2 : ∀ t, chV m_fs m_cd t → (eqC m_fs t chx ∨ ltC m_fs t chx) → visC m_nc m_fs m_cd (bzF m_fx) (frN m_fr) m_fv m_cs m_cn m_ck m_co (so = 1) (bex, bcx, bux, 0) t := fun t ht hh => by rcases hh with y | y; exact vis_not hq1 hq2 (fun z => c_4 (hkeeps27.mpr z)) y; exact hlt t ht y
              refine g_aload_n F 0 rfl rfl dX7_corners_43 ?_
              refine g_callV F (As := []) (rest := []) (wr := wMP cA m (m_kd) (m_lo) (m_hi) (m_co) (m_pa) (m_rk) (m_nu) (m_ct) (m_sa) ++ wMX cA m (m_fx) (m_fv) (m_sn) ++ wMB cA m (bex) (trx) (m_wy)) (kX7_another l D cA m m_nc m_nr m_ke m_so bux bcx m_pu m_qu m_fs m_cd un20 hbx m_pf m_ef m_fr m_cs m_cn m_ck chx tb20 cr20 (hn) (hK) (hchx)) (cwV 0 F.2.2.2.2.1 gX7_corners_X7_another rfl rfl rfl (by decide +kernel) ⟨Nat.le_of_ble_eq_true rfl, Nat.le_of_ble_eq_true rfl⟩) rfl rfl (q0 := 0) rfl [0, 10, 11, 12, 13, 14, 15, 16] [1, 2, 3, 4, 5, 6, 7, 8, 9, 17, 18, 19, 20, 21, 22] rfl rfl (by decide) (by decide) (by decide) rfl rfl (Nat.le_of_ble_eq_true rfl) ⟨Nat.le_of_ble_eq_true rfl, Nat.le_of_ble_eq_true rfl⟩ hA dX7_corners_44 (fun v w hv => ?_)
              obtain ⟨r44, ch44, hano44, hv, hw⟩ := hv
              subst hv
              subst hw
              refine g_wsub (wMO cA m (((m_nc : Nat) : Int)) (((m_nr : Nat) : Int)) (m_ke) (m_so) (bux) (bcx) (m_pu) (m_qu) (((m_fs : Nat) : Int)) (((m_cd : Nat) : Int)) (un20) (hbx) (m_pf) (m_ef) ++ wMP cA m (m_kd) (m_lo) (m_hi) (m_co) (m_pa) (m_rk) (m_nu) (m_ct) (m_sa) ++ wME cA m (m_fr) (m_cs) (m_cn) (m_ck) (ch44) (tb20) (cr20) ++ wMX cA m (m_fx) (m_fv) (m_sn) ++ wMB cA m (bex) (trx) (m_wy)) [15, 0, 1, 2, 3, 4, 5, 6, 7, 8, 16, 17, 18, 19, 20, 21, 22, 9, 10, 11, 12, 13, 14] (by decide) rfl ?_
              refine g_eq (st' := [iv (if r44 = true then 1 else 0)]) rfl rfl rfl ?_
              have hnx := an_next hn hK hchx hano44
              refine g_istore_n F ([(3, iv (if r44 = true then 1 else 0)), (0, .ref (m 0)), (1, iv (0)), (2, iv (so))]) rfl rfl (by decide) dX7_corners_47 ?_
              refine g_goto F (tgt := 7) dX7_corners_48 (by decide) ?_
              refine g_lsub ([(0, .ref (m 0)), (1, iv (0)), (2, iv (so)), (3, iv (if r44 = true then 1 else 0))]) [1, 2, 3, 0] rfl ?_
              exact ih7 so r44 ch44 tb20 cr20 un20 trx bex bcx bux hbx (by omega) (hci2) (fun z => ⟨(hnx.1 z).1, fun t ht hl => hv2 t ht ((hnx.1 z).2 t ht hl)⟩) (fun z t ht => hv2 t ht (hnx.2.1 z t ht)) (by rw [if_pos hmo] at hmu7; omega)
            · skip
              have hpl := hkeeps27.mp (by assumption)
              refine g_iconst F dX7_corners_33 ?_
              refine g_istore_n F ([(2, iv (1)), (0, .ref (m 0)), (1, iv (0)), (3, iv (if mo = true then 1 else 0))]) rfl rfl (by decide) dX7_corners_34 ?_
              refine g_iload_n F 2 rfl rfl dX7_corners_35 ?_
              refine g_if_ne F (tgt := 43) dX7_corners_36 (by decide) ⟨by decide, by decide⟩ (fun c_5 => ?_) (fun c_5 => ?_)
              · skip
                exfalso; omega
              · skip
                refine g_aload_n F 1 rfl rfl dX7_corners_39 ?_
                refine g_callV F (As := []) (rest := []) (wr := []) (kX7_offer l D cA m m_nc m_nr m_ke m_so bux bcx m_pu m_qu m_fs m_cd un20 hbx m_pf m_ef m_kd m_lo m_hi m_co m_pa m_rk m_nu m_ct m_sa m_fr m_cs m_cn m_ck chx tb20 cr20 m_fx m_fv m_sn bex trx m_wy (qnc) (hn) (hfx) (hfv) (hfr) (hfj) (fun j hj => by rw [hq2 j hj]; exact hq3.2.2 j hj) (⟨hq3.1, hq3.2.1⟩) (hco) (hci.1)) (cwV 0 F.2.2.2.2.1 gX7_corners_X7_offer rfl rfl rfl (by decide +kernel) ⟨Nat.le_of_ble_eq_true rfl, Nat.le_of_ble_eq_true rfl⟩) rfl rfl (q0 := 0) rfl [0, 1, 2, 3, 4, 5, 6, 7, 8, 9, 10, 11, 12, 13, 14, 15, 16, 17, 18, 19, 20, 21, 22] [] rfl rfl (by decide) (by decide) (by decide) rfl rfl (Nat.le_of_ble_eq_true rfl) ⟨Nat.le_of_ble_eq_true rfl, Nat.le_of_ble_eq_true rfl⟩ hA dX7_corners_40 (fun v w hv => ?_)
                obtain ⟨tr40, be40, bc40, bu40, hb40, hoffer40, hv, hw⟩ := hv
                subst hv
                subst hw
                refine g_wsub (wMO cA m (((m_nc : Nat) : Int)) (((m_nr : Nat) : Int)) (m_ke) (m_so) (bu40) (bc40) (m_pu) (m_qu) (((m_fs : Nat) : Int)) (((m_cd : Nat) : Int)) (un20) (hb40) (m_pf) (m_ef) ++ wMP cA m (m_kd) (m_lo) (m_hi) (m_co) (m_pa) (m_rk) (m_nu) (m_ct) (m_sa) ++ wME cA m (m_fr) (m_cs) (m_cn) (m_ck) (chx) (tb20) (cr20) ++ wMX cA m (m_fx) (m_fv) (m_sn) ++ wMB cA m (be40) (tr40) (m_wy)) [0, 1, 2, 3, 4, 5, 6, 7, 8, 9, 10, 11, 12, 13, 14, 15, 16, 17, 18, 19, 20, 21, 22] (by decide) rfl ?_
                refine g_eq (st' := []) rfl rfl rfl ?_
                have hci2 := crI_put qnc hfr hco ⟨hq3.1, hq3.2.1⟩ hbs.2.1.1 hci hoffer40.2 hoffer40.1 hpl
                have hv2 : ∀ t, chV m_fs m_cd t → (eqC m_fs t chx ∨ ltC m_fs t chx) → visC m_nc m_fs m_cd (bzF m_fx) (frN m_fr) m_fv m_cs m_cn m_ck m_co ((1 : Int) = 1) (be40, bc40, bu40, 0) t := fun t ht hh => by rcases hh with y | y; exact vis_new hq1 hq2 hoffer40.1 hoffer40.2.2.2.2.2 rfl y; exact vis_mono hn hsk.1 (fun _ => rfl) hci.1.2.1.1 hci2.1.2.1.1 (fun z => hoffer40.2.2.2.2.1 (hci.2.2.1 z)) ht (hlt t ht y)
                refine g_aload_n F 1 rfl rfl dX7_corners_43 ?_
                refine g_callV F (As := []) (rest := []) (wr := wMP cA m (m_kd) (m_lo) (m_hi) (m_co) (m_pa) (m_rk) (m_nu) (m_ct) (m_sa) ++ wMX cA m (m_fx) (m_fv) (m_sn) ++ wMB cA m (be40) (tr40) (m_wy)) (kX7_another l D cA m m_nc m_nr m_ke m_so bu40 bc40 m_pu m_qu m_fs m_cd un20 hb40 m_pf m_ef m_fr m_cs m_cn m_ck chx tb20 cr20 (hn) (hK) (hchx)) (cwV 0 F.2.2.2.2.1 gX7_corners_X7_another rfl rfl rfl (by decide +kernel) ⟨Nat.le_of_ble_eq_true rfl, Nat.le_of_ble_eq_true rfl⟩) rfl rfl (q0 := 0) rfl [0, 10, 11, 12, 13, 14, 15, 16] [1, 2, 3, 4, 5, 6, 7, 8, 9, 17, 18, 19, 20, 21, 22] rfl rfl (by decide) (by decide) (by decide) rfl rfl (Nat.le_of_ble_eq_true rfl) ⟨Nat.le_of_ble_eq_true rfl, Nat.le_of_ble_eq_true rfl⟩ hA dX7_corners_44 (fun v w hv => ?_)
                obtain ⟨r44, ch44, hano44, hv, hw⟩ := hv
                subst hv
                subst hw
                refine g_wsub (wMO cA m (((m_nc : Nat) : Int)) (((m_nr : Nat) : Int)) (m_ke) (m_so) (bu40) (bc40) (m_pu) (m_qu) (((m_fs : Nat) : Int)) (((m_cd : Nat) : Int)) (un20) (hb40) (m_pf) (m_ef) ++ wMP cA m (m_kd) (m_lo) (m_hi) (m_co) (m_pa) (m_rk) (m_nu) (m_ct) (m_sa) ++ wME cA m (m_fr) (m_cs) (m_cn) (m_ck) (ch44) (tb20) (cr20) ++ wMX cA m (m_fx) (m_fv) (m_sn) ++ wMB cA m (be40) (tr40) (m_wy)) [15, 0, 1, 2, 3, 4, 5, 6, 7, 8, 16, 17, 18, 19, 20, 21, 22, 9, 10, 11, 12, 13, 14] (by decide) rfl ?_
                refine g_eq (st' := [iv (if r44 = true then 1 else 0)]) rfl rfl rfl ?_
                have hnx := an_next hn hK hchx hano44
                refine g_istore_n F ([(3, iv (if r44 = true then 1 else 0)), (2, iv (1)), (0, .ref (m 0)), (1, iv (0))]) rfl rfl (by decide) dX7_corners_47 ?_
                refine g_goto F (tgt := 7) dX7_corners_48 (by decide) ?_
                refine g_lsub ([(0, .ref (m 0)), (1, iv (0)), (2, iv (1)), (3, iv (if r44 = true then 1 else 0))]) [2, 3, 1, 0] rfl ?_
                exact ih7 1 r44 ch44 tb20 cr20 un20 tr40 be40 bc40 bu40 hb40 (by omega) (hci2) (fun z => ⟨(hnx.1 z).1, fun t ht hl => hv2 t ht ((hnx.1 z).2 t ht hl)⟩) (fun z t ht => hv2 t ht (hnx.2.1 z t ht)) (by rw [if_pos hmo] at hmu7; omega)
        · skip
          exfalso; omega
  refine g_lsub ([(0, .ref (m 0)), (1, iv (0)), (2, iv (0)), (3, iv (if decide (m_fs ≤ m_cd) = true then 1 else 0))]) [2, 3, 1, 0] rfl ?_
  exact lp7 (_ + 1) 0 (decide (m_fs ≤ m_cd)) (mixZ (fun q => (q : Int)) m_ch m_fs) m_tb m_cr m_un m_tr m_be m_bc m_bu m_hb (Or.inl rfl) (cr_0 hbs) (fun z => ⟨(first_ok (of_decide_eq_true z)).1, fun t ht hl => absurd hl ((first_ok (of_decide_eq_true z)).2 t ht)⟩) (fun z t ht => absurd (ch_size ht) (of_decide_eq_false z)) (Nat.lt_succ_self _)
