theorem ix_30 {w a : Nat} (hw : w ≤ 6) (ha : a < 5) : w * a + w ≤ 30 := by
  have h1 : w * a ≤ w * 4 := Nat.mul_le_mul (Nat.le_refl _) (by omega)
  omega
theorem ix_eq {w a i j q : Nat} (hj : j < w) (hq : q < w) (h : w * i + q = w * a + j) : i = a ∧ q = j := by
  have h1 := congrArg (· % w) h
  have h2 := congrArg (· / w) h
  simp only [Nat.mul_add_mod, Nat.mod_eq_of_lt hj, Nat.mod_eq_of_lt hq] at h1
  simp only [Nat.mul_add_div (show 0 < w by omega), Nat.div_eq_of_lt hj, Nat.div_eq_of_lt hq, Nat.add_zero] at h2
  exact ⟨h2, h1⟩
theorem sw_step {w a b j : Nat} {tx T : Nat → Int} (hj : j < w) (hab : a ≠ b) (h : ∀ i q, q < w → tx (w * i + q) = if q < j then swM (fun i j => T (w * i + j)) a b i q else T (w * i + q)) : ∀ i q, q < w → va_up (va_up tx (w * a + j) (-(tx (w * b + j)))) (w * b + j) (tx (w * a + j)) (w * i + q) = if q < j + 1 then swM (fun i j => T (w * i + j)) a b i q else T (w * i + q) := by
  intro i q hq
  have ha := h a j hj
  have hb := h b j hj
  rw [if_neg (Nat.lt_irrefl j)] at ha hb
  by_cases e1 : i = b ∧ q = j
  · obtain ⟨r1, r2⟩ := e1
    subst r1; subst r2
    rw [up_same, if_pos (by omega), ha]
    unfold swM
    rw [if_neg hab, if_neg (fun z => hab z.symm), if_pos rfl]
  · rw [up_ne (fun z => e1 (ix_eq hj hq z))]
    by_cases e2 : i = a ∧ q = j
    · obtain ⟨r1, r2⟩ := e2
      subst r1; subst r2
      rw [up_same, if_pos (by omega), hb]
      unfold swM
      rw [if_neg hab, if_pos rfl]
    · rw [up_ne (fun z => e2 (ix_eq hj hq z)), h i q hq]
      by_cases e3 : q = j
      · subst e3
        rw [if_neg (by omega), if_pos (by omega)]
        unfold swM
        rw [if_neg hab, if_neg (fun z => e2 ⟨z, rfl⟩), if_neg (fun z => e1 ⟨z, rfl⟩)]
      · by_cases e4 : q < j
        · rw [if_pos e4, if_pos (by omega)]
        · rw [if_neg e4, if_neg (by omega)]
theorem sw_end {w a b j : Nat} {tx T : Nat → Int} (hj : w ≤ j ∨ (a = b ∧ j = 0)) (h : ∀ i q, q < w → tx (w * i + q) = if q < j then swM (fun i j => T (w * i + j)) a b i q else T (w * i + q)) : ∀ i q, q < w → tx (w * i + q) = swM (fun i j => T (w * i + j)) a b i q := by
  intro i q hq
  rw [h i q hq]
  rcases hj with e | ⟨e, e2⟩
  · rw [if_pos (by omega)]
  · rw [if_neg (by omega)]
    unfold swM
    rw [if_pos e]
theorem cl_64 {x y o piv : Int} (hx : x.natAbs ≤ 70858800000) (hy : y.natAbs ≤ 70858800000) (ho : o.natAbs ≤ 7085880) (hp : piv.natAbs ≤ 7085880) : -9223372036854775808 < x * piv - o * y ∧ x * piv - o * y ≤ 9223372036854775807 := by
  have h1 := mul_nat hx hp
  have h2 := mul_nat ho hy
  omega
theorem cl_step {w i p j : Nat} {tx T : Nat → Int} {piv bef : Int} (hj : j < w) (hip : i ≠ p) (h : ∀ r q, q < w → tx (w * r + q) = if r = i ∧ q < j then clM (fun i j => T (w * i + j)) p piv bef i q else T (w * r + q)) : ∀ r q, q < w → va_up tx (w * i + j) (Int.tdiv (T (w * i + j) * piv - T (w * i + p) * T (w * p + j)) bef) (w * r + q) = if r = i ∧ q < j + 1 then clM (fun i j => T (w * i + j)) p piv bef i q else T (w * r + q) := by
  intro r q hq
  by_cases e : r = i ∧ q = j
  · obtain ⟨r1, r2⟩ := e
    subst r1; subst r2
    rw [up_same, if_pos ⟨rfl, by omega⟩]
    unfold clM
    rw [if_neg hip]
  · rw [up_ne (fun z => e (ix_eq hj hq z)), h r q hq]
    by_cases e2 : r = i ∧ q < j
    · rw [if_pos e2, if_pos ⟨e2.1, by omega⟩]
    · rw [if_neg e2, if_neg (fun z => e2 ⟨z.1, by
        rcases (show q < j ∨ q = j by omega) with w1 | w1
        · exact w1
        · exact absurd ⟨z.1, w1⟩ e⟩)]
theorem mt_small {n K : Nat} {cs cn ch : Nat → Int} (hs : smallC n K cs cn) (hc : chV n K ch) : (∀ i j, i < n → j < n → (mtM n cs cn ch i j).natAbs ≤ 9) ∧ ∀ i, i < n → (mtM n cs cn ch i n).natAbs ≤ 2000 := by
  refine ⟨fun i j hi hj => ?_, fun i hi => ?_⟩
  · have h1 := hc.1 i hi
    unfold mtM
    rw [if_pos hj]
    exact hs.1 _ j (by omega) hj
  · have h1 := hc.1 i hi
    unfold mtM
    rw [if_neg (Nat.lt_irrefl n)]
    exact hs.2 _ (by omega)
theorem el_none {n : Nat} {M : Nat → Nat → Int} {p : Nat} (h : elM n M p = none) : ∀ d, elM n M (p + d) = none
  | 0 => h
  | d + 1 => by
    show elM n M (p + d + 1) = none
    unfold elM
    rw [el_none h d]
theorem el_stop {n : Nat} {M T : Nat → Nat → Int} {p : Nat} {bef : Int} (h : elM n M p = some (T, bef)) (ha : atN T p n (n - p) = n) (hp : p < n) : elM n M n = none := by
  have h1 : elM n M (p + 1) = none := by
    unfold elM
    rw [h]
    show (if atN T p n (n - p) = n then none else _) = none
    rw [if_pos ha]
  have h2 := el_none h1 (n - (p + 1))
  rw [show p + 1 + (n - (p + 1)) = n by omega] at h2
  exact h2
theorem crn_none {n : Nat} {cs cn ch : Nat → Int} {T : Nat → Nat → Int} {p : Nat} {bef : Int} (h : elM n (mtM n cs cn ch) p = some (T, bef)) (ha : atN T p n (n - p) = n) (hp : p < n) : crnO n cs cn ch = none := by
  unfold crnO
  rw [el_stop h ha hp]
theorem el_go {n : Nat} {M T : Nat → Nat → Int} {p a : Nat} {bef : Int} (h : elM n M p = some (T, bef)) (ha : atN T p n (n - p) = a) (hn : a ≠ n) : elM n M (p + 1) = some (clM (swM T a p) p (swM T a p p p) bef, swM T a p p p) := by
  unfold elM
  rw [h]
  show (if atN T p n (n - p) = n then none else _) = _
  rw [if_neg (by rw [ha]; exact hn), ha]
theorem at_go {T : Nat → Nat → Int} {p n z : Nat} (hz : z < n) (h0 : T z p = 0) : atN T p n (n - (z + 1)) = atN T p n (n - z) := by
  have e : n - z = (n - (z + 1)) + 1 := by omega
  rw [e]
  show _ = if T (n - (n - (z + 1) + 1)) p = 0 then _ else _
  rw [show n - (n - (z + 1) + 1) = z by omega, if_pos h0]
theorem at_hit {T : Nat → Nat → Int} {p n z : Nat} (hz : z < n) (h0 : T z p ≠ 0) : atN T p n (n - z) = z := by
  have e : n - z = (n - (z + 1)) + 1 := by omega
  rw [e]
  show (if T (n - (n - (z + 1) + 1)) p = 0 then _ else n - (n - (z + 1) + 1)) = _
  rw [show n - (n - (z + 1) + 1) = z by omega, if_neg h0]
theorem crn_some {n : Nat} {cs cn ch : Nat → Int} {T : Nat → Nat → Int} {bef : Int} (h : elM n (mtM n cs cn ch) n = some (T, bef)) : crnO n cs cn ch = some (if bef < 0 then (fun i => -T i n, -bef) else (fun i => T i n, bef)) := by
  unfold crnO
  rw [h]
theorem fl_step {w n i j : Nat} {tx : Nat → Int} {M : Nat → Nat → Int} {v : Int} (hw : w = n + 1) (hj : j < w) (hv : v = M i j) (h : ∀ r q, q < w → (r < i ∨ (r = i ∧ q < j)) → tx (w * r + q) = M r q) : ∀ r q, q < w → (r < i ∨ (r = i ∧ q < j + 1)) → va_up tx (w * i + j) v (w * r + q) = M r q := by
  intro r q hq hr
  by_cases e : r = i ∧ q = j
  · obtain ⟨r1, r2⟩ := e
    subst r1; subst r2
    rw [up_same, hv]
  · rw [up_ne (fun z => e (ix_eq hj hq z))]
    refine h r q hq ?_
    rcases hr with h1 | ⟨h1, h2⟩
    · exact Or.inl h1
    · refine Or.inr ⟨h1, ?_⟩
      rcases (show q < j ∨ q = j by omega) with w1 | w1
      · exact w1
      · exact absurd ⟨h1, w1⟩ e
theorem sw_cong {n w a p : Nat} {tx : Nat → Int} {T : Nat → Nat → Int} (ha : a < n) (hp : p < n) (h : ∀ r q, r < n → q < w → tx (w * r + q) = T r q) {r q : Nat} (hr : r < n) (hq : q < w) : swM (fun i j => tx (w * i + j)) a p r q = swM T a p r q := by
  unfold swM
  simp only [h r q hr hq, h a q ha hq, h p q hp hq]
/-- rows ahead of i cleared -/
theorem cl_next {n w p i : Nat} {ty tz : Nat → Int} {S : Nat → Nat → Int} {piv bef : Int} (hp : p < n) (hpw : p < w) (hi : i < n) (hy : ∀ r q, r < n → q < w → ty (w * r + q) = if r < i then clM S p piv bef r q else S r q) (hz : ∀ r j, j < w → tz (w * r + j) = if r = i then clM (fun i j => ty (w * i + j)) p piv bef i j else ty (w * r + j)) : ∀ r q, r < n → q < w → tz (w * r + q) = if r < i + 1 then clM S p piv bef r q else S r q := by
  intro r q hr hq
  have hpp : ∀ q, q < w → ty (w * p + q) = S p q := fun q hq => by
    rw [hy p q hp hq]
    split
    · unfold clM; rw [if_pos rfl]
    · rfl
  rw [hz r q hq]
  by_cases e : r = i
  · subst e
    rw [if_pos rfl, if_pos (by omega)]
    unfold clM
    by_cases e2 : r = p
    · rw [if_pos e2, if_pos e2]; exact hpp q hq
    · rw [if_neg e2, if_neg e2]
      show Int.tdiv (ty (w * r + q) * piv - ty (w * r + p) * ty (w * p + q)) bef = _
      rw [hpp q hq, hy r q hr hq, hy r p hr hpw, if_neg (Nat.lt_irrefl r), if_neg (Nat.lt_irrefl r)]
  · rw [if_neg e, hy r q hr hq]
    by_cases e2 : r < i
    · rw [if_pos e2, if_pos (by omega)]
    · rw [if_neg e2, if_neg (by omega)]
set_option maxHeartbeats 4000000 in
set_option maxRecDepth 100000 in
theorem kX7_condition (l : Launch) (D : va_G) (cA : Nat → ClassId) (m : Nat → Nat) (m_nc : Nat) (m_nr : Nat) (m_ke : Int) (m_so : Int) (m_bu : Int) (m_bc : Int) (m_pu : Int) (m_qu : Int) (m_fs : Int) (m_cd : Nat) (m_un : Int) (m_hb : Int) (m_pf : Int) (m_ef : Int) (m_fr : Nat → Int) (m_cs : Nat → Int) (m_cn : Nat → Int) (m_ck : Nat → Int) (m_ch : Nat → Int) (m_tb : Nat → Int) (m_cr : Nat → Int) (k : Int) (x : Int) (hcd : m_cd < 20) : CT l yX7_condition wsX7_condition ({ frames := 0, cells := 0, slots := 0, locals := 0 }) D cA [.ref (m 0), iv (k), jv (x)] (wMO cA m (((m_nc : Nat) : Int)) (((m_nr : Nat) : Int)) (m_ke) (m_so) (m_bu) (m_bc) (m_pu) (m_qu) (m_fs) (((m_cd : Nat) : Int)) (m_un) (m_hb) (m_pf) (m_ef) ++ wME cA m (m_fr) (m_cs) (m_cn) (m_ck) (m_ch) (m_tb) (m_cr)) (fun ov ow => ov = some (iv (((m_cd : Nat) : Int))) ∧ ow = wMO cA m (((m_nc : Nat) : Int)) (((m_nr : Nat) : Int)) (m_ke) (m_so) (m_bu) (m_bc) (m_pu) (m_qu) (m_fs) (((m_cd + 1 : Nat) : Int)) (m_un) (m_hb) (m_pf) (m_ef) ++ wME cA m (m_fr) (rowZ m_cs (m_cd * 5) (fun _ => 0) 5) (va_up m_cn m_cd x) (va_up m_ck m_cd k) (m_ch) (m_tb) (m_cr)) 0 0 := by
  refine CT.mk (cc := cX7_condition) (maxL := 5) (ret := (some .int)) (by decide +kernel) rfl (Nat.le_of_ble_eq_true rfl) ?_
  intro p_ e_ s_ m_ b_ me_ c_ A F hnm hA
  have hV := @IM_P D s_ A
  have iX7 : ∀ w ∈ u_ws RX7 TX7 38, w ∈ wsX7_condition := by decide +kernel
  refine g_lsub ([(0, .ref (m 0)), (1, iv (k)), (2, jv (x))]) [0, 1, 2] rfl ?_
  refine g_iconst F dX7_condition_0 ?_
  refine g_istore F ([(4, iv (0)), (0, .ref (m 0)), (1, iv (k)), (2, jv (x))]) rfl (by decide) dX7_condition_1 ?_
  have lp3 : ∀ (n : Nat) (j : Nat) (sx : Nat → Int) (hj : j ≤ 5) (hsx : sx = rowZ m_cs (m_cd * 5) (fun _ => 0) j), 5 - j < n → GW p_ l e_ (headSpec wsX7_condition ({ frames := 0, cells := 0, slots := 0, locals := 0 })).room s_ m_ ([.ref (m 0), iv (k), jv (x)]).toArray b_ me_ c_ (MQ b_ (Qm D (fun ov ow => ov = some (iv (((m_cd : Nat) : Int))) ∧ ow = wMO cA m (((m_nc : Nat) : Int)) (((m_nr : Nat) : Int)) (m_ke) (m_so) (m_bu) (m_bc) (m_pu) (m_qu) (m_fs) (((m_cd + 1 : Nat) : Int)) (m_un) (m_hb) (m_pf) (m_ef) ++ wME cA m (m_fr) (rowZ m_cs (m_cd * 5) (fun _ => 0) 5) (va_up m_cn m_cd x) (va_up m_ck m_cd k) (m_ch) (m_tb) (m_cr)) A) ([.ref (m 0), iv (k), jv (x)]).toArray s_ 0 0 A) (IM D s_ A) 5 0 0 (wMO cA m (((m_nc : Nat) : Int)) (((m_nr : Nat) : Int)) (m_ke) (m_so) (m_bu) (m_bc) (m_pu) (m_qu) (m_fs) (((m_cd : Nat) : Int)) (m_un) (m_hb) (m_pf) (m_ef) ++ wME cA m (m_fr) (sx) (m_cn) (m_ck) (m_ch) (m_tb) (m_cr)) ([(0, .ref (m 0)), (1, iv (k)), (2, jv (x)), (4, iv (((j : Nat) : Int)))]) [] 3 := by
    intro n; induction n with
    | zero => intro j sx; intros; omega
    | succ n ih3 =>
      intro j sx hj hsx hmu3
      refine g_iload F 3 rfl dX7_condition_3 ?_
      refine g_iconst F dX7_condition_5 ?_
      refine g_icmp_ge F (tgt := 30) dX7_condition_6 (by decide) ⟨by omega, by omega⟩ ⟨by decide, by decide⟩ (fun c_1 => ?_) (fun c_1 => ?_)
      · skip
        refine g_aload_n F 0 rfl rfl dX7_condition_30 ?_
        refine g_get F hV iX7 0 rfl rfl 24 (by decide) (List.mem_of_getElem? (i := 3) rfl) rfl dX7_condition_31 ?_
        refine g_aload_n F 0 rfl rfl dX7_condition_34 ?_
        refine g_get F hV iX7 0 rfl rfl 22 (by decide) (List.mem_of_getElem? (i := 2) rfl) rfl dX7_condition_35 ?_
        refine g_lload_n F 2 rfl rfl dX7_condition_38 ?_
        refine g_last F 3 rfl (m_cd) (by omega) (by omega) (by decide) (wMO cA m (((m_nc : Nat) : Int)) (((m_nr : Nat) : Int)) (m_ke) (m_so) (m_bu) (m_bc) (m_pu) (m_qu) (m_fs) (((m_cd : Nat) : Int)) (m_un) (m_hb) (m_pf) (m_ef) ++ wME cA m (m_fr) (sx) (va_up m_cn m_cd x) (m_ck) (m_ch) (m_tb) (m_cr)) rfl dX7_condition_39 ?_
        refine g_aload_n F 0 rfl rfl dX7_condition_40 ?_
        refine g_get F hV iX7 0 rfl rfl 25 (by decide) (List.mem_of_getElem? (i := 4) rfl) rfl dX7_condition_41 ?_
        refine g_aload_n F 0 rfl rfl dX7_condition_44 ?_
        refine g_get F hV iX7 0 rfl rfl 22 (by decide) (List.mem_of_getElem? (i := 2) rfl) rfl dX7_condition_45 ?_
        refine g_iload_n F 1 rfl rfl dX7_condition_48 ?_
        refine g_iast F 4 rfl (m_cd) (by omega) (by omega) (by decide) (wMO cA m (((m_nc : Nat) : Int)) (((m_nr : Nat) : Int)) (m_ke) (m_so) (m_bu) (m_bc) (m_pu) (m_qu) (m_fs) (((m_cd : Nat) : Int)) (m_un) (m_hb) (m_pf) (m_ef) ++ wME cA m (m_fr) (sx) (va_up m_cn m_cd x) (va_up m_ck m_cd k) (m_ch) (m_tb) (m_cr)) rfl dX7_condition_49 ?_
        refine g_aload_n F 0 rfl rfl dX7_condition_50 ?_
        refine g_dup F rfl dX7_condition_51 ?_
        refine g_get F hV iX7 0 rfl rfl 22 (by decide) (List.mem_of_getElem? (i := 2) rfl) rfl dX7_condition_52 ?_
        refine g_iconst F dX7_condition_55 ?_
        refine g_iadd F dX7_condition_56 ?_
        refine g_put F iX7 tyX7 tyX7_ok nmX7 0 rfl rfl 22 (by decide) (List.mem_of_getElem? (i := 2) rfl) rfl rfl rfl (Nat.le_of_ble_eq_true rfl) (wMO cA m (((m_nc : Nat) : Int)) (((m_nr : Nat) : Int)) (m_ke) (m_so) (m_bu) (m_bc) (m_pu) (m_qu) (m_fs) ((((m_cd : Nat) : Int)) + 1) (m_un) (m_hb) (m_pf) (m_ef) ++ wME cA m (m_fr) (sx) (va_up m_cn m_cd x) (va_up m_ck m_cd k) (m_ch) (m_tb) (m_cr)) rfl dX7_condition_57 ?_
        refine g_aload_n F 0 rfl rfl dX7_condition_60 ?_
        refine g_get F hV iX7 0 rfl rfl 22 (by decide) (List.mem_of_getElem? (i := 2) rfl) rfl dX7_condition_61 ?_
        refine g_iconst F dX7_condition_64 ?_
        refine g_isub F dX7_condition_65 ?_
        exact g_zret F rfl rfl (by decide) (by decide) ⟨congrArg (fun z => some (iv z)) (show (((((m_cd : Nat) : Int)) + 1) - 1 : Int) = ((m_cd : Nat) : Int) by first | rfl | omega), (by rw [hsx, show j = 5 by omega]; rfl)⟩ dX7_condition_66
      · skip
        refine g_aload_n F 0 rfl rfl dX7_condition_9 ?_
        refine g_get F hV iX7 0 rfl rfl 23 (by decide) (List.mem_of_getElem? (i := 1) rfl) rfl dX7_condition_10 ?_
        refine g_iconst F dX7_condition_13 ?_
        refine g_aload_n F 0 rfl rfl dX7_condition_14 ?_
        refine g_get F hV iX7 0 rfl rfl 22 (by decide) (List.mem_of_getElem? (i := 2) rfl) rfl dX7_condition_15 ?_
        refine g_imul F dX7_condition_18 ?_
        refine g_iload F 3 rfl dX7_condition_19 ?_
        refine g_iadd F dX7_condition_21 ?_
        refine g_iconst F dX7_condition_22 ?_
        refine g_iast F 2 rfl (m_cd * 5 + j) (by omega) (by omega) (by decide) (wMO cA m (((m_nc : Nat) : Int)) (((m_nr : Nat) : Int)) (m_ke) (m_so) (m_bu) (m_bc) (m_pu) (m_qu) (m_fs) (((m_cd : Nat) : Int)) (m_un) (m_hb) (m_pf) (m_ef) ++ wME cA m (m_fr) (va_up sx (m_cd * 5 + j) 0) (m_cn) (m_ck) (m_ch) (m_tb) (m_cr)) rfl dX7_condition_23 ?_
        refine g_iinc F 3 rfl ([(4, iv ((((j : Nat) : Int)) + 1)), (0, .ref (m 0)), (1, iv (k)), (2, jv (x))]) rfl (by decide) dX7_condition_24 ?_
        refine g_goto F (tgt := 3) dX7_condition_27 (by decide) ?_
        refine g_lsub ([(0, .ref (m 0)), (1, iv (k)), (2, jv (x)), (4, iv ((((j : Nat) : Int)) + 1))]) [1, 2, 3, 0] rfl ?_
        exact ih3 (j + 1) (va_up sx (m_cd * 5 + j) 0) (by omega) (by rw [hsx]; exact row_up rfl) (by omega)
  refine g_lsub ([(0, .ref (m 0)), (1, iv (k)), (2, jv (x)), (4, iv (0))]) [1, 2, 3, 0] rfl ?_
  exact lp3 (_ + 1) 0 m_cs (by omega) (row_0 _ _ _).symm (Nat.lt_succ_self _)

set_option maxHeartbeats 4000000 in
set_option maxRecDepth 100000 in
theorem kX7_swap (l : Launch) (D : va_G) (cA : Nat → ClassId) (m : Nat → Nat) (m_nc : Nat) (m_nr : Nat) (m_ke : Int) (m_so : Int) (m_bu : Int) (m_bc : Int) (m_pu : Int) (m_qu : Int) (m_fs : Int) (m_cd : Int) (m_un : Int) (m_hb : Int) (m_pf : Int) (m_ef : Int) (m_fr : Nat → Int) (m_cs : Nat → Int) (m_cn : Nat → Int) (m_ck : Nat → Int) (m_ch : Nat → Int) (m_tb : Nat → Int) (m_cr : Nat → Int) (a : Nat) (b : Nat) (w : Nat) (hw : w ≤ 6) (ha : a < 5) (hb : b < 5) : CT l yX7_swap wsX7_swap ({ frames := 0, cells := 0, slots := 0, locals := 0 }) D cA [.ref (m 0), iv (((a : Nat) : Int)), iv (((b : Nat) : Int)), iv (((w : Nat) : Int))] (wMO cA m (((m_nc : Nat) : Int)) (((m_nr : Nat) : Int)) (m_ke) (m_so) (m_bu) (m_bc) (m_pu) (m_qu) (m_fs) (m_cd) (m_un) (m_hb) (m_pf) (m_ef) ++ wME cA m (m_fr) (m_cs) (m_cn) (m_ck) (m_ch) (m_tb) (m_cr)) (fun ov ow => ∃ (tb : Nat → Int), (∀ i j, j < w → tb (w * i + j) = swM (fun i j => m_tb (w * i + j)) a b i j) ∧ ov = none ∧ ow = wMO cA m (((m_nc : Nat) : Int)) (((m_nr : Nat) : Int)) (m_ke) (m_so) (m_bu) (m_bc) (m_pu) (m_qu) (m_fs) (m_cd) (m_un) (m_hb) (m_pf) (m_ef) ++ wME cA m (m_fr) (m_cs) (m_cn) (m_ck) (m_ch) (tb) (m_cr)) 0 0 := by
  refine CT.mk (cc := cX7_swap) (maxL := 7) (ret := none) (by decide +kernel) rfl (Nat.le_of_ble_eq_true rfl) ?_
  intro p_ e_ s_ m_ b_ me_ c_ A F hnm hA
  have hV := @IM_P D s_ A
  have iX7 : ∀ w ∈ u_ws RX7 TX7 38, w ∈ wsX7_swap := by decide +kernel
  have hwa := ix_30 hw ha
  have hwb := ix_30 hw hb
  refine g_lsub ([(0, .ref (m 0)), (1, iv (((a : Nat) : Int))), (2, iv (((b : Nat) : Int))), (3, iv (((w : Nat) : Int)))]) [0, 1, 2, 3] rfl ?_
  refine g_iconst F dX7_swap_0 ?_
  refine g_istore F ([(4, iv (0)), (0, .ref (m 0)), (1, iv (((a : Nat) : Int))), (2, iv (((b : Nat) : Int))), (3, iv (((w : Nat) : Int)))]) rfl (by decide) dX7_swap_1 ?_
  have lp3 : ∀ (n : Nat) (j : Nat) (tx : Nat → Int) (hj : j ≤ w) (hab : a = b → j = 0) (hI : ∀ i q, q < w → tx (w * i + q) = if q < j then swM (fun i j => m_tb (w * i + j)) a b i q else m_tb (w * i + q)), w - j < n → GW p_ l e_ (headSpec wsX7_swap ({ frames := 0, cells := 0, slots := 0, locals := 0 })).room s_ m_ ([.ref (m 0), iv (((a : Nat) : Int)), iv (((b : Nat) : Int)), iv (((w : Nat) : Int))]).toArray b_ me_ c_ (MQ b_ (Qm D (fun ov ow => ∃ (tb : Nat → Int), (∀ i j, j < w → tb (w * i + j) = swM (fun i j => m_tb (w * i + j)) a b i j) ∧ ov = none ∧ ow = wMO cA m (((m_nc : Nat) : Int)) (((m_nr : Nat) : Int)) (m_ke) (m_so) (m_bu) (m_bc) (m_pu) (m_qu) (m_fs) (m_cd) (m_un) (m_hb) (m_pf) (m_ef) ++ wME cA m (m_fr) (m_cs) (m_cn) (m_ck) (m_ch) (tb) (m_cr)) A) ([.ref (m 0), iv (((a : Nat) : Int)), iv (((b : Nat) : Int)), iv (((w : Nat) : Int))]).toArray s_ 0 0 A) (IM D s_ A) 7 0 0 (wMO cA m (((m_nc : Nat) : Int)) (((m_nr : Nat) : Int)) (m_ke) (m_so) (m_bu) (m_bc) (m_pu) (m_qu) (m_fs) (m_cd) (m_un) (m_hb) (m_pf) (m_ef) ++ wME cA m (m_fr) (m_cs) (m_cn) (m_ck) (m_ch) (tx) (m_cr)) ([(0, .ref (m 0)), (1, iv (((a : Nat) : Int))), (2, iv (((b : Nat) : Int))), (3, iv (((w : Nat) : Int))), (4, iv (((j : Nat) : Int)))]) [] 3 := by
    intro n; induction n with
    | zero => intro j tx; intros; omega
    | succ n ih3 =>
      intro j tx hj hab hI hmu3
      refine g_iload F 4 rfl dX7_swap_3 ?_
      refine g_iload_n F 3 rfl rfl dX7_swap_5 ?_
      refine g_icmp_ge F (tgt := 69) dX7_swap_6 (by decide) ⟨by omega, by omega⟩ ⟨by omega, by omega⟩ (fun c_1 => ?_) (fun c_1 => ?_)
      · skip
        exact g_vret F rfl (by decide) (by decide) ⟨tx, (sw_end (by omega) hI), rfl, rfl⟩ dX7_swap_69
      · skip
        refine g_iload_n F 1 rfl rfl dX7_swap_9 ?_
        refine g_iload_n F 2 rfl rfl dX7_swap_10 ?_
        refine g_icmp_eq F (tgt := 69) dX7_swap_11 (by decide) ⟨by omega, by omega⟩ ⟨by omega, by omega⟩ (fun c_2 => ?_) (fun c_2 => ?_)
        · skip
          exact g_vret F rfl (by decide) (by decide) ⟨tx, (sw_end (by omega) hI), rfl, rfl⟩ dX7_swap_69
        · skip
          refine g_aload_n F 0 rfl rfl dX7_swap_14 ?_
          refine g_get F hV iX7 0 rfl rfl 27 (by decide) (List.mem_of_getElem? (i := 1) rfl) rfl dX7_swap_15 ?_
          refine g_iload_n F 3 rfl rfl dX7_swap_18 ?_
          refine g_iload_n F 1 rfl rfl dX7_swap_19 ?_
          refine g_imul F dX7_swap_20 ?_
          refine g_iload F 4 rfl dX7_swap_21 ?_
          refine g_iadd F dX7_swap_23 ?_
          refine g_lald F hV 6 rfl ((w * a) + j) (by omega) (by omega) (by decide) dX7_swap_24 ?_
          refine g_lstore F ([(5, jv (tx ((w * a) + j))), (0, .ref (m 0)), (1, iv (((a : Nat) : Int))), (2, iv (((b : Nat) : Int))), (3, iv (((w : Nat) : Int))), (4, iv (((j : Nat) : Int)))]) rfl (by decide) dX7_swap_25 ?_
          refine g_aload_n F 1 rfl rfl dX7_swap_27 ?_
          refine g_get F hV iX7 0 rfl rfl 27 (by decide) (List.mem_of_getElem? (i := 1) rfl) rfl dX7_swap_28 ?_
          refine g_iload_n F 4 rfl rfl dX7_swap_31 ?_
          refine g_iload_n F 2 rfl rfl dX7_swap_32 ?_
          refine g_imul F dX7_swap_33 ?_
          refine g_iload F 5 rfl dX7_swap_34 ?_
          refine g_iadd F dX7_swap_36 ?_
          refine g_aload_n F 1 rfl rfl dX7_swap_37 ?_
          refine g_get F hV iX7 0 rfl rfl 27 (by decide) (List.mem_of_getElem? (i := 1) rfl) rfl dX7_swap_38 ?_
          refine g_iload_n F 4 rfl rfl dX7_swap_41 ?_
          refine g_iload_n F 3 rfl rfl dX7_swap_42 ?_
          refine g_imul F dX7_swap_43 ?_
          refine g_iload F 5 rfl dX7_swap_44 ?_
          refine g_iadd F dX7_swap_46 ?_
          refine g_lald F hV 6 rfl ((w * b) + j) (by omega) (by omega) (by decide) dX7_swap_47 ?_
          refine g_lneg F dX7_swap_48 ?_
          refine g_last F 6 rfl ((w * a) + j) (by omega) (by omega) (by decide) (wMO cA m (((m_nc : Nat) : Int)) (((m_nr : Nat) : Int)) (m_ke) (m_so) (m_bu) (m_bc) (m_pu) (m_qu) (m_fs) (m_cd) (m_un) (m_hb) (m_pf) (m_ef) ++ wME cA m (m_fr) (m_cs) (m_cn) (m_ck) (m_ch) (va_up tx ((w * a) + j) (-(tx ((w * b) + j)))) (m_cr)) rfl dX7_swap_49 ?_
          refine g_aload_n F 1 rfl rfl dX7_swap_50 ?_
          refine g_get F hV iX7 0 rfl rfl 27 (by decide) (List.mem_of_getElem? (i := 1) rfl) rfl dX7_swap_51 ?_
          refine g_iload_n F 4 rfl rfl dX7_swap_54 ?_
          refine g_iload_n F 3 rfl rfl dX7_swap_55 ?_
          refine g_imul F dX7_swap_56 ?_
          refine g_iload F 5 rfl dX7_swap_57 ?_
          refine g_iadd F dX7_swap_59 ?_
          refine g_lload F 0 rfl dX7_swap_60 ?_
          refine g_last F 6 rfl ((w * b) + j) (by omega) (by omega) (by decide) (wMO cA m (((m_nc : Nat) : Int)) (((m_nr : Nat) : Int)) (m_ke) (m_so) (m_bu) (m_bc) (m_pu) (m_qu) (m_fs) (m_cd) (m_un) (m_hb) (m_pf) (m_ef) ++ wME cA m (m_fr) (m_cs) (m_cn) (m_ck) (m_ch) (va_up (va_up tx ((w * a) + j) (-(tx ((w * b) + j)))) ((w * b) + j) (tx ((w * a) + j))) (m_cr)) rfl dX7_swap_62 ?_
          refine g_iinc F 5 rfl ([(4, iv ((((j : Nat) : Int)) + 1)), (5, jv (tx ((w * a) + j))), (0, .ref (m 0)), (1, iv (((a : Nat) : Int))), (2, iv (((b : Nat) : Int))), (3, iv (((w : Nat) : Int)))]) rfl (by decide) dX7_swap_63 ?_
          refine g_goto F (tgt := 3) dX7_swap_66 (by decide) ?_
          refine g_lsub ([(0, .ref (m 0)), (1, iv (((a : Nat) : Int))), (2, iv (((b : Nat) : Int))), (3, iv (((w : Nat) : Int))), (4, iv ((((j : Nat) : Int)) + 1))]) [2, 3, 4, 5, 0] rfl ?_
          exact ih3 (j + 1) (va_up (va_up tx ((w * a) + j) (-(tx ((w * b) + j)))) ((w * b) + j) (tx ((w * a) + j))) (by omega) (fun z => absurd z (by omega)) (sw_step (by omega) (by omega) hI) (by omega)
  refine g_lsub ([(0, .ref (m 0)), (1, iv (((a : Nat) : Int))), (2, iv (((b : Nat) : Int))), (3, iv (((w : Nat) : Int))), (4, iv (0))]) [1, 2, 3, 4, 0] rfl ?_
  exact lp3 (_ + 1) 0 m_tb (by omega) (fun _ => rfl) (fun i q _ => by rw [if_neg (Nat.not_lt_zero q)]) (Nat.lt_succ_self _)

set_option maxHeartbeats 4000000 in
set_option maxRecDepth 100000 in
theorem kX7_clear (l : Launch) (D : va_G) (cA : Nat → ClassId) (m : Nat → Nat) (m_nc : Nat) (m_nr : Nat) (m_ke : Int) (m_so : Int) (m_bu : Int) (m_bc : Int) (m_pu : Int) (m_qu : Int) (m_fs : Int) (m_cd : Int) (m_un : Int) (m_hb : Int) (m_pf : Int) (m_ef : Int) (m_fr : Nat → Int) (m_cs : Nat → Int) (m_cn : Nat → Int) (m_ck : Nat → Int) (m_ch : Nat → Int) (m_tb : Nat → Int) (m_cr : Nat → Int) (i : Nat) (p : Nat) (w : Nat) (piv : Int) (bef : Int) (hw : w ≤ 6) (hi : i < 5) (hp : p < 5) (hpw : p < w) (hTi : ∀ j, j < w → (m_tb (w * i + j)).natAbs ≤ 70858800000) (hTp : ∀ j, j < w → (m_tb (w * p + j)).natAbs ≤ 70858800000) (hown : (m_tb (w * i + p)).natAbs ≤ 7085880) (hpiv : piv.natAbs ≤ 7085880) (hbef : bef ≠ 0 ∧ bef.natAbs ≤ 7085880) : CT l yX7_clear wsX7_clear ({ frames := 0, cells := 0, slots := 0, locals := 0 }) D cA [.ref (m 0), iv (((i : Nat) : Int)), iv (((p : Nat) : Int)), iv (((w : Nat) : Int)), jv (piv), jv (bef)] (wMO cA m (((m_nc : Nat) : Int)) (((m_nr : Nat) : Int)) (m_ke) (m_so) (m_bu) (m_bc) (m_pu) (m_qu) (m_fs) (m_cd) (m_un) (m_hb) (m_pf) (m_ef) ++ wME cA m (m_fr) (m_cs) (m_cn) (m_ck) (m_ch) (m_tb) (m_cr)) (fun ov ow => ∃ (tb : Nat → Int), (∀ r j, j < w → tb (w * r + j) = if r = i then clM (fun i j => m_tb (w * i + j)) p piv bef i j else m_tb (w * r + j)) ∧ ov = none ∧ ow = wMO cA m (((m_nc : Nat) : Int)) (((m_nr : Nat) : Int)) (m_ke) (m_so) (m_bu) (m_bc) (m_pu) (m_qu) (m_fs) (m_cd) (m_un) (m_hb) (m_pf) (m_ef) ++ wME cA m (m_fr) (m_cs) (m_cn) (m_ck) (m_ch) (tb) (m_cr)) 0 0 := by
  refine CT.mk (cc := cX7_clear) (maxL := 11) (ret := none) (by decide +kernel) rfl (Nat.le_of_ble_eq_true rfl) ?_
  intro p_ e_ s_ m_ b_ me_ c_ A F hnm hA
  have hV := @IM_P D s_ A
  have iX7 : ∀ w ∈ u_ws RX7 TX7 38, w ∈ wsX7_clear := by decide +kernel
  have hwi := ix_30 hw hi
  have hwp := ix_30 hw hp
  refine g_lsub ([(0, .ref (m 0)), (1, iv (((i : Nat) : Int))), (2, iv (((p : Nat) : Int))), (3, iv (((w : Nat) : Int))), (4, jv (piv)), (6, jv (bef))]) [0, 1, 2, 3, 4, 5] rfl ?_
  refine g_iload_n F 1 rfl rfl dX7_clear_0 ?_
  refine g_iload_n F 2 rfl rfl dX7_clear_1 ?_
  refine g_icmp_ne F (tgt := 6) dX7_clear_2 (by decide) ⟨by omega, by omega⟩ ⟨by omega, by omega⟩ (fun c_1 => ?_) (fun c_1 => ?_)
  · skip
    refine g_aload_n F 0 rfl rfl dX7_clear_6 ?_
    refine g_get F hV iX7 0 rfl rfl 27 (by decide) (List.mem_of_getElem? (i := 1) rfl) rfl dX7_clear_7 ?_
    refine g_iload_n F 3 rfl rfl dX7_clear_10 ?_
    refine g_iload_n F 1 rfl rfl dX7_clear_11 ?_
    refine g_imul F dX7_clear_12 ?_
    refine g_iload_n F 2 rfl rfl dX7_clear_13 ?_
    refine g_iadd F dX7_clear_14 ?_
    refine g_lald F hV 6 rfl ((w * i) + p) (by omega) (by omega) (by decide) dX7_clear_15 ?_
    refine g_lstore F ([(8, jv (m_tb ((w * i) + p))), (0, .ref (m 0)), (1, iv (((i : Nat) : Int))), (2, iv (((p : Nat) : Int))), (3, iv (((w : Nat) : Int))), (4, jv (piv)), (6, jv (bef))]) rfl (by decide) dX7_clear_16 ?_
    refine g_iconst F dX7_clear_18 ?_
    refine g_istore F ([(10, iv (0)), (8, jv (m_tb ((w * i) + p))), (0, .ref (m 0)), (1, iv (((i : Nat) : Int))), (2, iv (((p : Nat) : Int))), (3, iv (((w : Nat) : Int))), (4, jv (piv)), (6, jv (bef))]) rfl (by decide) dX7_clear_19 ?_
    have lp21 : ∀ (n : Nat) (j : Nat) (tx : Nat → Int) (hj : j ≤ w) (hI : ∀ r q, q < w → tx (w * r + q) = if r = i ∧ q < j then clM (fun i j => m_tb (w * i + j)) p piv bef i q else m_tb (w * r + q)), w - j < n → GW p_ l e_ (headSpec wsX7_clear ({ frames := 0, cells := 0, slots := 0, locals := 0 })).room s_ m_ ([.ref (m 0), iv (((i : Nat) : Int)), iv (((p : Nat) : Int)), iv (((w : Nat) : Int)), jv (piv), jv (bef)]).toArray b_ me_ c_ (MQ b_ (Qm D (fun ov ow => ∃ (tb : Nat → Int), (∀ r j, j < w → tb (w * r + j) = if r = i then clM (fun i j => m_tb (w * i + j)) p piv bef i j else m_tb (w * r + j)) ∧ ov = none ∧ ow = wMO cA m (((m_nc : Nat) : Int)) (((m_nr : Nat) : Int)) (m_ke) (m_so) (m_bu) (m_bc) (m_pu) (m_qu) (m_fs) (m_cd) (m_un) (m_hb) (m_pf) (m_ef) ++ wME cA m (m_fr) (m_cs) (m_cn) (m_ck) (m_ch) (tb) (m_cr)) A) ([.ref (m 0), iv (((i : Nat) : Int)), iv (((p : Nat) : Int)), iv (((w : Nat) : Int)), jv (piv), jv (bef)]).toArray s_ 0 0 A) (IM D s_ A) 11 0 0 (wMO cA m (((m_nc : Nat) : Int)) (((m_nr : Nat) : Int)) (m_ke) (m_so) (m_bu) (m_bc) (m_pu) (m_qu) (m_fs) (m_cd) (m_un) (m_hb) (m_pf) (m_ef) ++ wME cA m (m_fr) (m_cs) (m_cn) (m_ck) (m_ch) (tx) (m_cr)) ([(0, .ref (m 0)), (1, iv (((i : Nat) : Int))), (2, iv (((p : Nat) : Int))), (3, iv (((w : Nat) : Int))), (4, jv (piv)), (6, jv (bef)), (8, jv (m_tb ((w * i) + p))), (10, iv (((j : Nat) : Int)))]) [] 21 := by
      intro n; induction n with
      | zero => intro j tx; intros; omega
      | succ n ih21 =>
        intro j tx hj hI hmu21
        refine g_iload F 7 rfl dX7_clear_21 ?_
        refine g_iload_n F 3 rfl rfl dX7_clear_23 ?_
        refine g_icmp_ge F (tgt := 76) dX7_clear_24 (by decide) ⟨by omega, by omega⟩ ⟨by omega, by omega⟩ (fun c_2 => ?_) (fun c_2 => ?_)
        · skip
          exact g_vret F rfl (by decide) (by decide) ⟨tx, (fun r q hq => by rw [hI r q hq]; by_cases z : r = i; (rw [if_pos ⟨z, by omega⟩, if_pos z]); (rw [if_neg (fun y => z y.1), if_neg z])), rfl, rfl⟩ dX7_clear_76
        · skip
          have e1 : tx (w * i + j) = m_tb (w * i + j) := by rw [hI i j (by omega), if_neg (fun z => absurd z.2 (Nat.lt_irrefl j))]
          have e2 : tx (w * p + j) = m_tb (w * p + j) := by rw [hI p j (by omega), if_neg (fun z => absurd z.1 (by omega))]
          have hc9 := cl_64 (hTi j (by omega)) (hTp j (by omega)) hown hpiv
          refine g_aload_n F 0 rfl rfl dX7_clear_27 ?_
          refine g_get F hV iX7 0 rfl rfl 27 (by decide) (List.mem_of_getElem? (i := 1) rfl) rfl dX7_clear_28 ?_
          refine g_iload_n F 3 rfl rfl dX7_clear_31 ?_
          refine g_iload_n F 1 rfl rfl dX7_clear_32 ?_
          refine g_imul F dX7_clear_33 ?_
          refine g_iload F 7 rfl dX7_clear_34 ?_
          refine g_iadd F dX7_clear_36 ?_
          refine g_aload_n F 0 rfl rfl dX7_clear_37 ?_
          refine g_get F hV iX7 0 rfl rfl 27 (by decide) (List.mem_of_getElem? (i := 1) rfl) rfl dX7_clear_38 ?_
          refine g_iload_n F 3 rfl rfl dX7_clear_41 ?_
          refine g_iload_n F 1 rfl rfl dX7_clear_42 ?_
          refine g_imul F dX7_clear_43 ?_
          refine g_iload F 7 rfl dX7_clear_44 ?_
          refine g_iadd F dX7_clear_46 ?_
          refine g_lald F hV 6 rfl ((w * i) + j) (by omega) (by omega) (by decide) dX7_clear_47 ?_
          refine g_lload F 4 rfl dX7_clear_48 ?_
          refine g_lmul F dX7_clear_50 ?_
          refine g_lload F 6 rfl dX7_clear_51 ?_
          refine g_aload_n F 0 rfl rfl dX7_clear_53 ?_
          refine g_get F hV iX7 0 rfl rfl 27 (by decide) (List.mem_of_getElem? (i := 1) rfl) rfl dX7_clear_54 ?_
          refine g_iload_n F 3 rfl rfl dX7_clear_57 ?_
          refine g_iload_n F 2 rfl rfl dX7_clear_58 ?_
          refine g_imul F dX7_clear_59 ?_
          refine g_iload F 7 rfl dX7_clear_60 ?_
          refine g_iadd F dX7_clear_62 ?_
          refine g_lald F hV 6 rfl ((w * p) + j) (by omega) (by omega) (by decide) dX7_clear_63 ?_
          refine g_lmul F dX7_clear_64 ?_
          refine g_lsub2 F dX7_clear_65 ?_
          refine g_lload F 5 rfl dX7_clear_66 ?_
          refine g_ldiv F (by rw [e1, e2]; exact ⟨by omega, by omega⟩) ⟨by omega, by omega⟩ (by omega) (by rw [e1, e2]; exact tdiv_64 ⟨by omega, by omega⟩ (by omega) (by omega)) dX7_clear_68 ?_
          refine g_last F 6 rfl ((w * i) + j) (by omega) (by omega) (by decide) (wMO cA m (((m_nc : Nat) : Int)) (((m_nr : Nat) : Int)) (m_ke) (m_so) (m_bu) (m_bc) (m_pu) (m_qu) (m_fs) (m_cd) (m_un) (m_hb) (m_pf) (m_ef) ++ wME cA m (m_fr) (m_cs) (m_cn) (m_ck) (m_ch) (va_up tx ((w * i) + j) (Int.tdiv (((tx ((w * i) + j)) * piv) - ((m_tb ((w * i) + p)) * (tx ((w * p) + j)))) bef)) (m_cr)) rfl dX7_clear_69 ?_
          refine g_iinc F 7 rfl ([(10, iv ((((j : Nat) : Int)) + 1)), (0, .ref (m 0)), (1, iv (((i : Nat) : Int))), (2, iv (((p : Nat) : Int))), (3, iv (((w : Nat) : Int))), (4, jv (piv)), (6, jv (bef)), (8, jv (m_tb ((w * i) + p)))]) rfl (by decide) dX7_clear_70 ?_
          refine g_goto F (tgt := 21) dX7_clear_73 (by decide) ?_
          refine g_lsub ([(0, .ref (m 0)), (1, iv (((i : Nat) : Int))), (2, iv (((p : Nat) : Int))), (3, iv (((w : Nat) : Int))), (4, jv (piv)), (6, jv (bef)), (8, jv (m_tb ((w * i) + p))), (10, iv ((((j : Nat) : Int)) + 1))]) [1, 2, 3, 4, 5, 6, 7, 0] rfl ?_
          exact ih21 (j + 1) (va_up tx ((w * i) + j) (Int.tdiv (((tx ((w * i) + j)) * piv) - ((m_tb ((w * i) + p)) * (tx ((w * p) + j)))) bef)) (by omega) (by rw [e1, e2]; exact cl_step (by omega) (by omega) hI) (by omega)
    refine g_lsub ([(0, .ref (m 0)), (1, iv (((i : Nat) : Int))), (2, iv (((p : Nat) : Int))), (3, iv (((w : Nat) : Int))), (4, jv (piv)), (6, jv (bef)), (8, jv (m_tb ((w * i) + p))), (10, iv (0))]) [2, 3, 4, 5, 6, 7, 1, 0] rfl ?_
    exact lp21 (_ + 1) 0 m_tb (by omega) (fun r q _ => by rw [if_neg (fun z => absurd z.2 (Nat.not_lt_zero q))]) (Nat.lt_succ_self _)
  · skip
    exact g_vret F rfl (by decide) (by decide) ⟨m_tb, (fun r j _ => by have e : i = p := (by omega); subst e; by_cases z : r = i; (subst z; rw [if_pos rfl]; unfold clM; rw [if_pos rfl]); (rw [if_neg z])), rfl, rfl⟩ dX7_clear_5
