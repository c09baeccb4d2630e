theorem many_s (b r : Nat) : bitsN b = (b >>> 0 &&& 1) + (b >>> 1 &&& 1) + (b >>> 2 &&& 1) + (b >>> 3 &&& 1) + (b >>> 4 &&& 1) + (b >>> 5 &&& 1) + (b >>> 6 &&& 1) := by
  unfold bitsN
  simp only [Nat.shiftRight_eq_div_pow, Nat.and_one_is_mod, Nat.pow_zero, Nat.div_one]
  try rfl
def mnN (b : Nat) : Nat → Nat
  | 0 => 0
  | r + 1 => mnN b r + (b >>> r &&& 1)
theorem mn_7 (b : Nat) : mnN b 7 = bitsN b := by
  rw [many_s b 0]
  show 0 + (b >>> 0 &&& 1) + _ + _ + _ + _ + _ + _ = _
  rw [Nat.zero_add]
theorem mn_le (b : Nat) : ∀ r, mnN b r ≤ r
  | 0 => Nat.le_refl _
  | r + 1 => by
    have h1 := mn_le b r
    have h2 : b >>> r &&& 1 ≤ 1 := Nat.and_le_right
    show mnN b r + (b >>> r &&& 1) ≤ r + 1
    omega
/-- rows of a set at war, as the reference sees them -/
theorem war_iff {nc nr n K b : Nat} (hnc : nc ≤ 5) {fx fv lo hi rk num sa fr cs cn ck : Nat → Int} (hz : ∀ c, c < nc → fx c = 0) (h : layP nc nr n K (bzF fx) fv lo hi rk num sa (fun r => b.testBit r = true) fr cs cn ck) : (hasC n K cs cn ck yesG → peaceP rk num sa lo hi nc nr b) ∧ ((∀ t, chV n K t → novC n K cs cn ck yesG t) → ¬ peaceP rk num sa lo hi nc nr b) := by
  obtain ⟨l1, l2, l3, l4, l5, l6⟩ := h
  have hf : ∀ c, c < nc → bzF fx c = false := fun c hc => decide_eq_false (fun z => z (hz c hc))
  have hbit : ∀ r, b.testBit r = true ↔ bitZ b r = 1 := fun r => by
    show _ ↔ ((b >>> r &&& 1 : Nat) : Int) = 1
    rw [bit_and]
    rcases b.testBit r with _ | _
    · simp
    · simp
  have hsub : ∀ y, subP nc nr (bzF fx) fv lo hi rk num sa (fun r => b.testBit r = true) y ↔ (inBox nc lo hi y ∧ phiP rk (bitZ b) sa nc num nr y) := fun y => by
    constructor
    · rintro ⟨y0, y1, y2, y3⟩
      exact ⟨⟨y0, fun c hc => y2 c hc (hf c hc)⟩, fun r hr hb => y3 r hr ((hbit r).mpr hb)⟩
    · rintro ⟨⟨y0, y2⟩, y3⟩
      exact ⟨y0, fun c hc hx => (by rw [hf c hc] at hx; cases hx), fun c hc _ => y2 c hc, fun r hr hb => y3 r hr ((hbit r).mp hb)⟩
  constructor
  · rintro ⟨t, q, u, t1, t2, t3, t4, -⟩
    obtain ⟨y, hy⟩ := fu_ex l1 fv q u
    have hy0 : 0 < y 0 := by rw [hy.1, pt_0]; exact t3
    exact ⟨y, (hsub y).mp ((sub_iff l1 l3 hy hy0).mp t4)⟩
  · rintro hn ⟨y, hy⟩
    obtain ⟨ch, q, u, d1, d2, d3, d4, d5⟩ := sub_corner (co := fun _ => 0) hnc l1 l3 l4.1 (fun w _ _ h => by
      rw [sm_z (fun j _ => by simp)] at h
      omega) ((hsub y).mpr hy)
    exact hn ch d1 q u d2 d4 trivial
/-- the least set is one -/
theorem quar_one {pe : Nat → Prop} {C n m : Nat} (hC : C < 128) (h : quarP pe C n) (h' : quarP pe C m) : n = m := by
  have hself : subN C C := by show C ^^^ (C &&& C) = 0; rw [Nat.and_self, Nat.xor_self]
  rcases h with ⟨a1, a2⟩ | ⟨a1, a2, a3⟩ | ⟨a1, a2, a3, a4, a5, a6⟩
  · rcases h' with ⟨b1, b2⟩ | ⟨b1, b2, b3⟩ | ⟨b1, b2, b3, b4, b5, b6⟩
    · omega
    · exact absurd a1 b1
    · exact absurd a1 b1
  · rcases h' with ⟨b1, b2⟩ | ⟨b1, b2, b3⟩ | ⟨b1, b2, b3, b4, b5, b6⟩
    · exact absurd b1 a1
    · omega
    · exact absurd (a3 m b2 b3 b4) b5
  · rcases h' with ⟨b1, b2⟩ | ⟨b1, b2, b3⟩ | ⟨b1, b2, b3, b4, b5, b6⟩
    · exact absurd b1 a1
    · exact absurd (b3 n a2 a3 a4) a5
    · rcases Nat.lt_trichotomy (bitsN n) (bitsN m) with z | z | z
      · exact absurd (b6 n a2 a3 a4 (Or.inl z)) a5
      · rcases Nat.lt_trichotomy n m with w | w | w
        · exact absurd (b6 n a2 a3 a4 (Or.inr ⟨z, w⟩)) a5
        · exact w
        · exact absurd (a6 m b2 b3 b4 (Or.inr ⟨z.symm, w⟩)) b5
      · exact absurd (a6 m b2 b3 b4 (Or.inl z)) b5
theorem sub_and {m C : Nat} : subN m C ↔ m &&& C = m := by
  show m ^^^ (m &&& C) = 0 ↔ _
  constructor
  · intro h
    have h2 := congrArg (m ^^^ ·) h
    simp only [← Nat.xor_assoc, Nat.xor_self, Nat.zero_xor, Nat.xor_zero] at h2
    exact h2
  · intro h; rw [h, Nat.xor_self]
theorem pe_cong {rk f g sa lo hi : Nat → Int} {nc nr : Nat} (h : ∀ j, j < nr → f j = g j) (b : Nat) : peaceP rk f sa lo hi nc nr b ↔ peaceP rk g sa lo hi nc nr b := by
  constructor
  · rintro ⟨y, y1, y2⟩
    exact ⟨y, y1, fun r hr hb => by rw [← h r hr]; exact y2 r hr hb⟩
  · rintro ⟨y, y1, y2⟩
    exact ⟨y, y1, fun r hr hb => by rw [h r hr]; exact y2 r hr hb⟩
theorem pe_zero {rk nu sa lo hi : Nat → Int} {nc nr : Nat} (hle : ∀ c, c < nc → hi c ≠ NONEz → lo c ≤ hi c) : peaceP rk nu sa lo hi nc nr 0 := by
  refine ⟨fun x => if x = 0 then 1 else lo (x - 1), ⟨by show (0 : Int) < 1; decide, fun c hc => ?_⟩, fun r hr hb => ?_⟩
  · show lo c * 1 ≤ (if 1 + c = 0 then 1 else lo (1 + c - 1)) ∧ (hi c ≠ NONEz → (if 1 + c = 0 then 1 else lo (1 + c - 1)) ≤ hi c * 1)
    rw [if_neg (by omega), show 1 + c - 1 = c by omega]
    exact ⟨by omega, fun z => by have := hle c hc z; omega⟩
  · exfalso
    have h1 : bitZ 0 r = 0 := by show ((0 >>> r &&& 1 : Nat) : Int) = 0; simp
    rw [h1] at hb; exact absurd hb (by decide)
theorem sub_le {m C : Nat} (h : m &&& C = m) : m ≤ C := by rw [← h]; exact Nat.and_le_right
set_option maxHeartbeats 4000000 in
set_option maxRecDepth 100000 in
theorem kX7_manyOf (l : Launch) (D : va_G) (cA : Nat → ClassId) (b : Nat) (hb : b < 128) : CR l yX7_manyOf wsX7_manyOf ({ frames := 0, cells := 0, slots := 0, locals := 0 }) D cA [iv (((b : Nat) : Int))] ([]) (fun ov => ov = some (iv (((bitsN b : Nat) : Int)))) := by
  refine CR.mk (cc := cX7_manyOf) (maxL := 3) (ret := (some .int)) (by decide +kernel) rfl (Nat.le_of_ble_eq_true rfl) ?_
  intro p_ e_ s_ m_ b_ me_ c_ F
  have hV := @IR_P D s_
  refine g_lsub ([(0, iv (((b : Nat) : Int)))]) [0] rfl ?_
  refine g_iconst F dX7_manyOf_0 ?_
  refine g_istore_n F ([(1, iv (0)), (0, iv (((b : Nat) : Int)))]) rfl rfl (by decide) dX7_manyOf_1 ?_
  refine g_iconst F dX7_manyOf_2 ?_
  refine g_istore_n F ([(2, iv (0)), (1, iv (0)), (0, iv (((b : Nat) : Int)))]) rfl rfl (by decide) dX7_manyOf_3 ?_
  have lp4 : ∀ (n : Nat) (r : Nat) (x : Nat) (hr : r ≤ 7) (hx : x = mnN b r), 7 - r < n → GW p_ l e_ (headSpec wsX7_manyOf ({ frames := 0, cells := 0, slots := 0, locals := 0 })).room s_ m_ ([iv (((b : Nat) : Int))]).toArray b_ me_ c_ (MQ b_ (Qr (fun ov => ov = some (iv (((bitsN b : Nat) : Int))))) ([iv (((b : Nat) : Int))]).toArray s_ 0 0 (fun _ => False)) (IR D s_) 3 0 0 ([]) ([(0, iv (((b : Nat) : Int))), (1, iv (((x : Nat) : Int))), (2, iv (((r : Nat) : Int)))]) [] 4 := by
    intro n; induction n with
    | zero => intro r x; intros; omega
    | succ n ih4 =>
      intro r x hr hx hmu4
      refine g_iload_n F 2 rfl rfl dX7_manyOf_4 ?_
      refine g_bipush F dX7_manyOf_5 (by decide) ?_
      refine g_icmp_ge F (tgt := 24) dX7_manyOf_7 (by decide) ⟨by omega, by omega⟩ ⟨by decide, by decide⟩ (fun c_1 => ?_) (fun c_1 => ?_)
      · skip
        refine g_iload_n F 1 rfl rfl dX7_manyOf_24 ?_
        exact g_zretR F rfl rfl (congrArg (fun z => some (iv z)) (show (((x : Nat) : Int) : Int) = ((bitsN b : Nat) : Int) by rw [hx, show r = 7 by omega, mn_7])) dX7_manyOf_25
      · skip
        refine g_iload_n F 1 rfl rfl dX7_manyOf_10 ?_
        refine g_iload_n F 0 rfl rfl dX7_manyOf_11 ?_
        refine g_iload_n F 2 rfl rfl dX7_manyOf_12 ?_
        refine g_ishr F (a := b) (b := r) rfl rfl (by omega) (by omega) dX7_manyOf_13 ?_
        refine g_iconst F dX7_manyOf_14 ?_
        refine g_iand F (a := (b >>> r)) (b := 1) rfl rfl dX7_manyOf_15 ?_
        refine g_iadd F dX7_manyOf_16 ?_
        refine g_istore_n F ([(1, iv ((((x : Nat) : Int)) + ((((b >>> r) &&& 1 : Nat) : Int)))), (0, iv (((b : Nat) : Int))), (2, iv (((r : Nat) : Int)))]) rfl rfl (by decide) dX7_manyOf_17 ?_
        refine g_iinc F 2 rfl ([(2, iv ((((r : Nat) : Int)) + 1)), (1, iv ((((x : Nat) : Int)) + ((((b >>> r) &&& 1 : Nat) : Int)))), (0, iv (((b : Nat) : Int)))]) rfl (by decide) dX7_manyOf_18 ?_
        refine g_goto F (tgt := 4) dX7_manyOf_21 (by decide) ?_
        refine g_lsub ([(0, iv (((b : Nat) : Int))), (1, iv ((((x : Nat) : Int)) + ((((b >>> r) &&& 1 : Nat) : Int)))), (2, iv ((((r : Nat) : Int)) + 1))]) [2, 1, 0] rfl ?_
        exact ih4 (r + 1) (x + ((b >>> r) &&& 1)) (by omega) (by rw [hx]; rfl) (by omega)
  refine g_lsub ([(0, iv (((b : Nat) : Int))), (1, iv (0)), (2, iv (0))]) [2, 1, 0] rfl ?_
  exact lp4 (_ + 1) 0 0 (by omega) (rfl) (Nat.lt_succ_self _)

set_option maxHeartbeats 4000000 in
set_option maxRecDepth 100000 in
theorem kX7_quarrels (l : Launch) (D : va_G) (cA : Nat → ClassId) (m : Nat → Nat) (m_nc : Nat) (m_nr : Nat) (m_ke : Int) (m_so : Int) (m_bu : Int) (m_bc : Int) (m_pu : Int) (m_qu : Int) (m_fs : Int) (m_cd : Int) (m_un : Int) (m_hb : Int) (m_pf : Int) (m_ef : Int) (m_kd : Nat → Int) (m_lo : Nat → Int) (m_hi : Nat → Int) (m_co : Nat → Int) (m_pa : Nat → Int) (m_rk : Nat → Int) (m_nu : Nat → Int) (m_ct : Nat → Int) (m_sa : Nat → Int) (m_fr : Nat → Int) (m_cs : Nat → Int) (m_cn : Nat → Int) (m_ck : Nat → Int) (m_ch : Nat → Int) (m_tb : Nat → Int) (m_cr : Nat → Int) (m_fx : Nat → Int) (m_fv : Nat → Int) (m_sn : Nat → Int) (b : Nat) (qnc : m_nc ≤ 5) (qnr : m_nr ≤ 7) (qkd : ∀ j, 0 ≤ m_kd j ∧ m_kd j ≤ 2) (hsn : ∀ j, j < m_nr → -198 ≤ m_sn j ∧ m_sn j ≤ 198) (hsa : ∀ j, -9 ≤ m_sa j ∧ m_sa j ≤ 9) (hrk : ∀ j, 0 ≤ m_rk j ∧ m_rk j ≤ 2) (hlo : ∀ j, -20 ≤ m_lo j ∧ m_lo j ≤ 20) (hhi : ∀ j, m_hi j = -2000000005 ∨ (-20 ≤ m_hi j ∧ m_hi j ≤ 20)) (hb : b < 128) : CT l yX7_quarrels wsX7_quarrels ({ frames := 3, cells := 0, slots := 0, locals := 81 }) D cA [.ref (m 0), iv (((b : Nat) : Int))] (wMO cA m (((m_nc : Nat) : Int)) (((m_nr : Nat) : Int)) (m_ke) (m_so) (m_bu) (m_bc) (m_pu) (m_qu) (m_fs) (m_cd) (m_un) (m_hb) (m_pf) (m_ef) ++ wMP cA m (m_kd) (m_lo) (m_hi) (m_co) (m_pa) (m_rk) (m_nu) (m_ct) (m_sa) ++ wME cA m (m_fr) (m_cs) (m_cn) (m_ck) (m_ch) (m_tb) (m_cr) ++ wMX cA m (m_fx) (m_fv) (m_sn)) (fun ov ow => ∃ (r : Bool) (fx : Nat → Int) (fr : Nat → Int) (fs : Int) (cs : Nat → Int) (cn : Nat → Int) (ck : Nat → Int) (cd : Int) (ch : Nat → Int) (tb : Nat → Int) (cr : Nat → Int) (un : Int), (r = true ↔ ¬ peaceP m_rk m_sn m_sa m_lo m_hi m_nc m_nr b) ∧ ov = some (iv (if r = true then 1 else 0)) ∧ ow = wMO cA m (((m_nc : Nat) : Int)) (((m_nr : Nat) : Int)) (m_ke) (m_so) (m_bu) (m_bc) (m_pu) (m_qu) (fs) (cd) (un) (m_hb) (m_pf) (m_ef) ++ wMP cA m (m_kd) (m_lo) (m_hi) (m_co) (m_pa) (m_rk) (m_nu) (m_ct) (m_sa) ++ wME cA m (fr) (cs) (cn) (ck) (ch) (tb) (cr) ++ wMX cA m (fx) (m_fv) (m_sn)) 0 0 := by
  refine CT.mk (cc := cX7_quarrels) (maxL := 2) (ret := (some .boolean)) (by decide +kernel) rfl (Nat.le_of_ble_eq_true rfl) ?_
  intro p_ e_ s_ m_ b_ me_ c_ A F hnm hA
  have hV := @IM_P D s_ A
  refine g_lsub ([(0, .ref (m 0)), (1, iv (((b : Nat) : Int)))]) [0, 1] rfl ?_
  refine g_aload_n F 0 rfl rfl dX7_quarrels_0 ?_
  refine g_iconst F dX7_quarrels_1 ?_
  refine g_callV F (As := [iv (0)]) (rest := []) (wr := wME cA m (m_fr) (m_cs) (m_cn) (m_ck) (m_ch) (m_tb) (m_cr)) (kX7_fixWhole_no l D cA m m_nc m_nr m_ke m_so m_bu m_bc m_pu m_qu m_fs m_cd m_un m_hb m_pf m_ef m_kd m_lo m_hi m_co m_pa m_rk m_nu m_ct m_sa m_fx m_fv m_sn (qnc) (qkd)) (cwV 1 F.2.2.2.2.1 gX7_quarrels_X7_fixWhole rfl rfl rfl (by decide +kernel) ⟨Nat.le_of_ble_eq_true rfl, Nat.le_of_ble_eq_true rfl⟩) rfl rfl (q0 := 0) rfl [0, 1, 2, 3, 4, 5, 6, 7, 8, 9, 17, 18, 19] [10, 11, 12, 13, 14, 15, 16] rfl rfl (by decide) (by decide) (by decide) rfl rfl (Nat.le_of_ble_eq_true rfl) ⟨Nat.le_of_ble_eq_true rfl, Nat.le_of_ble_eq_true rfl⟩ hA dX7_quarrels_2 (fun v w hv => ?_)
  obtain ⟨hv, hw⟩ := hv
  subst hv
  subst hw
  refine g_wsub (wMO cA m (((m_nc : Nat) : Int)) (((m_nr : Nat) : Int)) (m_ke) (m_so) (m_bu) (m_bc) (m_pu) (m_qu) (m_fs) (m_cd) (m_un) (m_hb) (m_pf) (m_ef) ++ wMP cA m (m_kd) (m_lo) (m_hi) (m_co) (m_pa) (m_rk) (m_nu) (m_ct) (m_sa) ++ wME cA m (m_fr) (m_cs) (m_cn) (m_ck) (m_ch) (m_tb) (m_cr) ++ wMX cA m (mixZ (fun _ => 0) m_fx m_nc) (m_fv) (m_sn)) [7, 8, 9, 10, 11, 12, 13, 14, 15, 16, 0, 1, 2, 3, 4, 5, 6, 17, 18, 19] (by decide) rfl ?_
  refine g_eq (st' := []) rfl rfl rfl ?_
  have hz0 : ∀ c, c < m_nc → (mixZ (fun _ => 0) m_fx m_nc) c = 0 := fun c hc => mix_lt hc
  refine g_aload_n F 0 rfl rfl dX7_quarrels_5 ?_
  refine g_iload_n F 1 rfl rfl dX7_quarrels_6 ?_
  refine g_callV F (As := [iv (((b : Nat) : Int))]) (rest := []) (wr := []) (kX7_lay l D cA m m_nc m_nr m_ke m_so m_bu m_bc m_pu m_qu m_fs m_cd m_un m_hb m_pf m_ef m_kd m_lo m_hi m_co m_pa m_rk m_nu m_ct m_sa m_fr m_cs m_cn m_ck m_ch m_tb m_cr (mixZ (fun _ => 0) m_fx m_nc) m_fv m_sn b (qnc) (qnr) (fun j hj => by rw [hz0 j hj]; decide) (fun j hj z => absurd (hz0 j hj) z) (hsn) (hsa) (hrk) (hlo) (hhi) (hb)) (cwV 1 F.2.2.2.2.1 gX7_quarrels_X7_lay rfl rfl rfl (by decide +kernel) ⟨Nat.le_of_ble_eq_true rfl, Nat.le_of_ble_eq_true rfl⟩) rfl rfl (q0 := 0) rfl [0, 1, 2, 3, 4, 5, 6, 7, 8, 9, 10, 11, 12, 13, 14, 15, 16, 17, 18, 19] [] rfl rfl (by decide) (by decide) (by decide) rfl rfl (Nat.le_of_ble_eq_true rfl) ⟨Nat.le_of_ble_eq_true rfl, Nat.le_of_ble_eq_true rfl⟩ hA dX7_quarrels_7 (fun v w hv => ?_)
  obtain ⟨fr5, fs5, cs5, cn5, ck5, cd5, hlay5, hv, hw⟩ := hv
  subst hv
  subst hw
  refine g_wsub (wMO cA m (((m_nc : Nat) : Int)) (((m_nr : Nat) : Int)) (m_ke) (m_so) (m_bu) (m_bc) (m_pu) (m_qu) (((fs5 : Nat) : Int)) (((cd5 : Nat) : Int)) (m_un) (m_hb) (m_pf) (m_ef) ++ wMP cA m (m_kd) (m_lo) (m_hi) (m_co) (m_pa) (m_rk) (m_nu) (m_ct) (m_sa) ++ wME cA m (fr5) (cs5) (cn5) (ck5) (m_ch) (m_tb) (m_cr) ++ wMX cA m (mixZ (fun _ => 0) m_fx m_nc) (m_fv) (m_sn)) [0, 1, 2, 3, 4, 5, 6, 7, 8, 9, 10, 11, 12, 13, 14, 15, 16, 17, 18, 19] (by decide) rfl ?_
  refine g_eq (st' := []) rfl rfl rfl ?_
  refine g_aload_n F 0 rfl rfl dX7_quarrels_10 ?_
  refine g_iconst F dX7_quarrels_11 ?_
  refine g_callV F (As := [iv (1)]) (rest := []) (wr := wMP cA m (m_kd) (m_lo) (m_hi) (m_co) (m_pa) (m_rk) (m_nu) (m_ct) (m_sa) ++ wMX cA m (mixZ (fun _ => 0) m_fx m_nc) (m_fv) (m_sn)) (kX7_corners_one l D cA m m_nc m_nr m_ke m_so m_bu m_bc m_pu m_qu fs5 cd5 m_un m_hb m_pf m_ef fr5 cs5 cn5 ck5 m_ch m_tb m_cr (hlay5.2.2.2.1) (hlay5.2.2.2.2.1) (hlay5.2.2.2.2.2)) (cwV 1 F.2.2.2.2.1 gX7_quarrels_X7_corners rfl rfl rfl (by decide +kernel) ⟨Nat.le_of_ble_eq_true rfl, Nat.le_of_ble_eq_true rfl⟩) rfl rfl (q0 := 0) rfl [0, 10, 11, 12, 13, 14, 15, 16] [1, 2, 3, 4, 5, 6, 7, 8, 9, 17, 18, 19] rfl rfl (by decide) (by decide) (by decide) rfl rfl (Nat.le_of_ble_eq_true rfl) ⟨Nat.le_of_ble_eq_true rfl, Nat.le_of_ble_eq_true rfl⟩ hA dX7_quarrels_12 (fun v w hv => ?_)
  obtain ⟨so12, ch12, tb12, cr12, un12, hco12, hv, hw⟩ := hv
  subst hv
  subst hw
  refine g_wsub (wMO cA m (((m_nc : Nat) : Int)) (((m_nr : Nat) : Int)) (m_ke) (m_so) (m_bu) (m_bc) (m_pu) (m_qu) (((fs5 : Nat) : Int)) (((cd5 : Nat) : Int)) (un12) (m_hb) (m_pf) (m_ef) ++ wMP cA m (m_kd) (m_lo) (m_hi) (m_co) (m_pa) (m_rk) (m_nu) (m_ct) (m_sa) ++ wME cA m (fr5) (cs5) (cn5) (ck5) (ch12) (tb12) (cr12) ++ wMX cA m (mixZ (fun _ => 0) m_fx m_nc) (m_fv) (m_sn)) [12, 0, 1, 2, 3, 4, 5, 6, 7, 8, 13, 14, 15, 16, 17, 18, 19, 9, 10, 11] (by decide) rfl ?_
  refine g_eq (st' := [iv (so12)]) rfl rfl rfl ?_
  have hso := hco12.1
  refine g_if_ne F (tgt := 22) dX7_quarrels_15 (by decide) ⟨by omega, by omega⟩ (fun c_1 => ?_) (fun c_1 => ?_)
  · skip
    refine g_iconst F dX7_quarrels_22 ?_
    exact g_zret F rfl (nar_01 (Or.inl rfl)) (by decide) (by decide) ⟨false, (mixZ (fun _ => 0) m_fx m_nc), fr5, (((fs5 : Nat) : Int)), cs5, cn5, ck5, (((cd5 : Nat) : Int)), ch12, tb12, cr12, un12, ⟨fun z => absurd z (by decide), fun z => absurd ((war_iff qnc hz0 hlay5).1 (hco12.2.1 (by omega))) z⟩, congrArg (fun z => some (iv z)) (show (0 : Int) = if false = true then 1 else 0 by rfl), rfl⟩ dX7_quarrels_23
  · skip
    refine g_iconst F dX7_quarrels_18 ?_
    refine g_goto F (tgt := 23) dX7_quarrels_19 (by decide) ?_
    exact g_zret F rfl (nar_01 (Or.inr rfl)) (by decide) (by decide) ⟨true, (mixZ (fun _ => 0) m_fx m_nc), fr5, (((fs5 : Nat) : Int)), cs5, cn5, ck5, (((cd5 : Nat) : Int)), ch12, tb12, cr12, un12, ⟨fun _ => (war_iff qnc hz0 hlay5).2 (hco12.2.2 (by omega)), fun _ => rfl⟩, congrArg (fun z => some (iv z)) (show (1 : Int) = if true = true then 1 else 0 by rfl), rfl⟩ dX7_quarrels_23

set_option maxHeartbeats 4000000 in
set_option maxRecDepth 100000 in
theorem kX7_quarrel (l : Launch) (D : va_G) (cA : Nat → ClassId) (m : Nat → Nat) (m_nc : Nat) (m_nr : Nat) (m_ke : Int) (m_so : Int) (m_bu : Int) (m_bc : Int) (m_pu : Int) (m_qu : Int) (m_fs : Int) (m_cd : Int) (m_un : Int) (m_hb : Int) (m_pf : Int) (m_ef : Int) (m_kd : Nat → Int) (m_lo : Nat → Int) (m_hi : Nat → Int) (m_co : Nat → Int) (m_pa : Nat → Int) (m_rk : Nat → Int) (m_nu : Nat → Int) (m_ct : Nat → Int) (m_sa : Nat → Int) (m_fr : Nat → Int) (m_cs : Nat → Int) (m_cn : Nat → Int) (m_ck : Nat → Int) (m_ch : Nat → Int) (m_tb : Nat → Int) (m_cr : Nat → Int) (m_fx : Nat → Int) (m_fv : Nat → Int) (m_sn : Nat → Int) (qnc : m_nc ≤ 5) (qnr : m_nr ≤ 7) (qkd : ∀ j, 0 ≤ m_kd j ∧ m_kd j ≤ 2) (hnu : ∀ j, -99 ≤ m_nu j ∧ m_nu j ≤ 99) (hsa : ∀ j, -9 ≤ m_sa j ∧ m_sa j ≤ 9) (hrk : ∀ j, 0 ≤ m_rk j ∧ m_rk j ≤ 2) (hlo : ∀ j, -20 ≤ m_lo j ∧ m_lo j ≤ 20) (hhi : ∀ j, m_hi j = -2000000005 ∨ (-20 ≤ m_hi j ∧ m_hi j ≤ 20)) (qct : ∀ j, 0 ≤ m_ct j ∧ m_ct j ≤ 1) (hle : ∀ c, c < m_nc → m_hi c ≠ NONEz → m_lo c ≤ m_hi c) : CT l yX7_quarrel wsX7_quarrel ({ frames := 4, cells := 0, slots := 0, locals := 102 }) D cA [.ref (m 0)] (wMO cA m (((m_nc : Nat) : Int)) (((m_nr : Nat) : Int)) (m_ke) (m_so) (m_bu) (m_bc) (m_pu) (m_qu) (m_fs) (m_cd) (m_un) (m_hb) (m_pf) (m_ef) ++ wMP cA m (m_kd) (m_lo) (m_hi) (m_co) (m_pa) (m_rk) (m_nu) (m_ct) (m_sa) ++ wME cA m (m_fr) (m_cs) (m_cn) (m_ck) (m_ch) (m_tb) (m_cr) ++ wMX cA m (m_fx) (m_fv) (m_sn)) (fun ov ow => ∃ (n : Nat) (fx : Nat → Int) (fr : Nat → Int) (fs : Int) (cs : Nat → Int) (cn : Nat → Int) (ck : Nat → Int) (cd : Int) (ch : Nat → Int) (tb : Nat → Int) (cr : Nat → Int) (un : Int), (quarP (peaceP m_rk m_nu m_sa m_lo m_hi m_nc m_nr) (setZ m_ct m_nr) n) ∧ ov = some (iv (((n : Nat) : Int))) ∧ ow = wMO cA m (((m_nc : Nat) : Int)) (((m_nr : Nat) : Int)) (m_ke) (m_so) (m_bu) (m_bc) (m_pu) (m_qu) (fs) (cd) (un) (m_hb) (m_pf) (m_ef) ++ wMP cA m (m_kd) (m_lo) (m_hi) (m_co) (m_pa) (m_rk) (m_nu) (m_ct) (m_sa) ++ wME cA m (fr) (cs) (cn) (ck) (ch) (tb) (cr) ++ wMX cA m (fx) (m_fv) ((mixZ m_nu m_sn m_nr))) 0 0 := by
  refine CT.mk (cc := cX7_quarrel) (maxL := 4) (ret := (some .int)) (by decide +kernel) rfl (Nat.le_of_ble_eq_true rfl) ?_
  intro p_ e_ s_ m_ b_ me_ c_ A F hnm hA
  have hV := @IM_P D s_ A
  have hcs : (setZ m_ct m_nr) < 128 := Nat.lt_of_lt_of_le (setZ_lt m_ct m_nr) (Nat.pow_le_pow_right (n := 2) (by decide) qnr)
  have hsn : ∀ j, j < m_nr → -198 ≤ (mixZ m_nu m_sn m_nr) j ∧ (mixZ m_nu m_sn m_nr) j ≤ 198 := fun j hj => by rw [mix_lt hj]; have := hnu j; omega
  have hpe : ∀ b, peaceP m_rk (mixZ m_nu m_sn m_nr) m_sa m_lo m_hi m_nc m_nr b ↔ peaceP m_rk m_nu m_sa m_lo m_hi m_nc m_nr b := fun b => pe_cong (fun j hj => mix_lt hj) b
  refine g_lsub ([(0, .ref (m 0))]) [0] rfl ?_
  refine g_aload_n F 0 rfl rfl dX7_quarrel_0 ?_
  refine g_callV F (As := []) (rest := []) (wr := wME cA m (m_fr) (m_cs) (m_cn) (m_ck) (m_ch) (m_tb) (m_cr)) (kX7_takeNumbers l D cA m m_nc m_nr m_ke m_so m_bu m_bc m_pu m_qu m_fs m_cd m_un m_hb m_pf m_ef m_kd m_lo m_hi m_co m_pa m_rk m_nu m_ct m_sa m_fx m_fv m_sn (qnr)) (cwV 0 F.2.2.2.2.1 gX7_quarrel_X7_takeNumbers rfl rfl rfl (by decide +kernel) ⟨Nat.le_of_ble_eq_true rfl, Nat.le_of_ble_eq_true rfl⟩) rfl rfl (q0 := 0) rfl [0, 1, 2, 3, 4, 5, 6, 7, 8, 9, 17, 18, 19] [10, 11, 12, 13, 14, 15, 16] rfl rfl (by decide) (by decide) (by decide) rfl rfl (Nat.le_of_ble_eq_true rfl) ⟨Nat.le_of_ble_eq_true rfl, Nat.le_of_ble_eq_true rfl⟩ hA dX7_quarrel_1 (fun v w hv => ?_)
  obtain ⟨hv, hw⟩ := hv
  subst hv
  subst hw
  refine g_wsub (wMO cA m (((m_nc : Nat) : Int)) (((m_nr : Nat) : Int)) (m_ke) (m_so) (m_bu) (m_bc) (m_pu) (m_qu) (m_fs) (m_cd) (m_un) (m_hb) (m_pf) (m_ef) ++ wMP cA m (m_kd) (m_lo) (m_hi) (m_co) (m_pa) (m_rk) (m_nu) (m_ct) (m_sa) ++ wME cA m (m_fr) (m_cs) (m_cn) (m_ck) (m_ch) (m_tb) (m_cr) ++ wMX cA m (m_fx) (m_fv) (mixZ m_nu m_sn m_nr)) [7, 8, 9, 10, 11, 12, 13, 14, 15, 16, 0, 1, 2, 3, 4, 5, 6, 17, 18, 19] (by decide) rfl ?_
  refine g_eq (st' := []) rfl rfl rfl ?_
  refine g_aload_n F 0 rfl rfl dX7_quarrel_4 ?_
  refine g_callRV F hV (As := []) (rest := []) (kX7_counting l D cA m m_nc m_nr m_ke m_so m_bu m_bc m_pu m_qu m_fs m_cd m_un m_hb m_pf m_ef m_kd m_lo m_hi m_co m_pa m_rk m_nu m_ct m_sa (qnr) (qct)) (cwV 0 F.2.2.2.2.1 gX7_quarrel_X7_counting rfl rfl rfl (by decide +kernel) ⟨Nat.le_of_ble_eq_true rfl, Nat.le_of_ble_eq_true rfl⟩) rfl rfl (q0 := 0) rfl [0, 1, 2, 3, 4, 5, 6, 7, 8, 9] rfl rfl rfl (Nat.le_of_ble_eq_true rfl) ⟨Nat.le_of_ble_eq_true rfl, Nat.le_of_ble_eq_true rfl⟩ dX7_quarrel_5 (fun v hv => ?_)
  subst hv
  refine g_eq (st' := [iv (((setZ m_ct m_nr : Nat) : Int))]) rfl rfl rfl ?_
  refine g_istore_n F ([(1, iv (((setZ m_ct m_nr : Nat) : Int))), (0, .ref (m 0))]) rfl rfl (by decide) dX7_quarrel_8 ?_
  refine g_aload_n F 1 rfl rfl dX7_quarrel_9 ?_
  refine g_iload_n F 0 rfl rfl dX7_quarrel_10 ?_
  refine g_callV F (As := [iv (((setZ m_ct m_nr : Nat) : Int))]) (rest := []) (wr := []) (kX7_quarrels l D cA m m_nc m_nr m_ke m_so m_bu m_bc m_pu m_qu m_fs m_cd m_un m_hb m_pf m_ef m_kd m_lo m_hi m_co m_pa m_rk m_nu m_ct m_sa m_fr m_cs m_cn m_ck m_ch m_tb m_cr m_fx m_fv (mixZ m_nu m_sn m_nr) (setZ m_ct m_nr) (qnc) (qnr) (qkd) (hsn) (hsa) (hrk) (hlo) (hhi) (by omega)) (cwV 1 F.2.2.2.2.1 gX7_quarrel_X7_quarrels rfl rfl rfl (by decide +kernel) ⟨Nat.le_of_ble_eq_true rfl, Nat.le_of_ble_eq_true rfl⟩) rfl rfl (q0 := 0) rfl [0, 1, 2, 3, 4, 5, 6, 7, 8, 9, 10, 11, 12, 13, 14, 15, 16, 17, 18, 19] [] rfl rfl (by decide) (by decide) (by decide) rfl rfl (Nat.le_of_ble_eq_true rfl) ⟨Nat.le_of_ble_eq_true rfl, Nat.le_of_ble_eq_true rfl⟩ hA dX7_quarrel_11 (fun v w hv => ?_)
  obtain ⟨r11, fx11, fr11, fs11, cs11, cn11, ck11, cd11, ch11, tb11, cr11, un11, hq11, hv, hw⟩ := hv
  subst hv
  subst hw
  refine g_wsub (wMO cA m (((m_nc : Nat) : Int)) (((m_nr : Nat) : Int)) (m_ke) (m_so) (m_bu) (m_bc) (m_pu) (m_qu) (fs11) (cd11) (un11) (m_hb) (m_pf) (m_ef) ++ wMP cA m (m_kd) (m_lo) (m_hi) (m_co) (m_pa) (m_rk) (m_nu) (m_ct) (m_sa) ++ wME cA m (fr11) (cs11) (cn11) (ck11) (ch11) (tb11) (cr11) ++ wMX cA m (fx11) (m_fv) (mixZ m_nu m_sn m_nr)) [0, 1, 2, 3, 4, 5, 6, 7, 8, 9, 10, 11, 12, 13, 14, 15, 16, 17, 18, 19] (by decide) rfl ?_
  refine g_eq (st' := [iv (if r11 = true then 1 else 0)]) rfl rfl rfl ?_
  refine g_ifb_ne F (tgt := 19) dX7_quarrel_14 (by decide) (fun c_1 => ?_) (fun c_1 => ?_)
  · skip
    have hwar : ¬ peaceP m_rk m_nu m_sa m_lo m_hi m_nc m_nr (setZ m_ct m_nr) := fun z => (hq11.mp (by assumption)) ((hpe _).mpr z)
    have hc1 : 1 ≤ (setZ m_ct m_nr) := by rcases Nat.eq_zero_or_pos (setZ m_ct m_nr) with z | z; (exfalso; apply hwar; rw [z]; exact pe_zero hle); exact z
    refine g_iconst F dX7_quarrel_19 ?_
    refine g_istore_n F ([(2, iv (1)), (1, iv (((setZ m_ct m_nr : Nat) : Int))), (0, .ref (m 0))]) rfl rfl (by decide) dX7_quarrel_20 ?_
    have lp21 : ∀ (n : Nat) (k : Nat) (fxx : Nat → Int) (frx : Nat → Int) (fsx : Int) (csx : Nat → Int) (cnx : Nat → Int) (ckx : Nat → Int) (cdx : Int) (chx : Nat → Int) (tbx : Nat → Int) (crx : Nat → Int) (unx : Int) (hk : 1 ≤ k ∧ k ≤ 8) (hlow : ∀ m, 1 ≤ m → m < 128 → subN m (setZ m_ct m_nr) → bitsN m < k → peaceP m_rk m_nu m_sa m_lo m_hi m_nc m_nr m), 8 - k < n → GW p_ l e_ (headSpec wsX7_quarrel ({ frames := 4, cells := 0, slots := 0, locals := 102 })).room s_ m_ ([.ref (m 0)]).toArray b_ me_ c_ (MQ b_ (Qm D (fun ov ow => ∃ (n : Nat) (fx : Nat → Int) (fr : Nat → Int) (fs : Int) (cs : Nat → Int) (cn : Nat → Int) (ck : Nat → Int) (cd : Int) (ch : Nat → Int) (tb : Nat → Int) (cr : Nat → Int) (un : Int), (quarP (peaceP m_rk m_nu m_sa m_lo m_hi m_nc m_nr) (setZ m_ct m_nr) n) ∧ ov = some (iv (((n : Nat) : Int))) ∧ ow = wMO cA m (((m_nc : Nat) : Int)) (((m_nr : Nat) : Int)) (m_ke) (m_so) (m_bu) (m_bc) (m_pu) (m_qu) (fs) (cd) (un) (m_hb) (m_pf) (m_ef) ++ wMP cA m (m_kd) (m_lo) (m_hi) (m_co) (m_pa) (m_rk) (m_nu) (m_ct) (m_sa) ++ wME cA m (fr) (cs) (cn) (ck) (ch) (tb) (cr) ++ wMX cA m (fx) (m_fv) ((mixZ m_nu m_sn m_nr))) A) ([.ref (m 0)]).toArray s_ 0 0 A) (IM D s_ A) 4 0 0 (wMO cA m (((m_nc : Nat) : Int)) (((m_nr : Nat) : Int)) (m_ke) (m_so) (m_bu) (m_bc) (m_pu) (m_qu) (fsx) (cdx) (unx) (m_hb) (m_pf) (m_ef) ++ wMP cA m (m_kd) (m_lo) (m_hi) (m_co) (m_pa) (m_rk) (m_nu) (m_ct) (m_sa) ++ wME cA m (frx) (csx) (cnx) (ckx) (chx) (tbx) (crx) ++ wMX cA m (fxx) (m_fv) (mixZ m_nu m_sn m_nr)) ([(0, .ref (m 0)), (1, iv (((setZ m_ct m_nr : Nat) : Int))), (2, iv (((k : Nat) : Int)))]) [] 21 := by
      intro n; induction n with
      | zero => intro k fxx frx fsx csx cnx ckx cdx chx tbx crx unx; intros; omega
      | succ n ih21 =>
        intro k fxx frx fsx csx cnx ckx cdx chx tbx crx unx hk hlow hmu21
        refine g_iload_n F 2 rfl rfl dX7_quarrel_21 ?_
        refine g_bipush F dX7_quarrel_22 (by decide) ?_
        refine g_icmp_gt F (tgt := 71) dX7_quarrel_24 (by decide) ⟨by omega, by omega⟩ ⟨by decide, by decide⟩ (fun c_2 => ?_) (fun c_2 => ?_)
        · skip
          refine g_iload_n F 1 rfl rfl dX7_quarrel_71 ?_
          exact g_zret F rfl rfl (by decide) (by decide) ⟨((setZ m_ct m_nr)), fxx, frx, fsx, csx, cnx, ckx, cdx, chx, tbx, crx, unx, (absurd (hlow (setZ m_ct m_nr) hc1 hcs (by show _ ^^^ _ = 0; rw [Nat.and_self, Nat.xor_self]) (by have := bits_7 (setZ m_ct m_nr); omega)) hwar), congrArg (fun z => some (iv z)) (show (((setZ m_ct m_nr : Nat) : Int) : Int) = ((((setZ m_ct m_nr)) : Nat) : Int) by rfl), rfl⟩ dX7_quarrel_72
        · skip
          refine g_iconst F dX7_quarrel_27 ?_
          refine g_istore_n F ([(3, iv (1)), (0, .ref (m 0)), (1, iv (((setZ m_ct m_nr : Nat) : Int))), (2, iv (((k : Nat) : Int)))]) rfl rfl (by decide) dX7_quarrel_28 ?_
          have lp29 : ∀ (n : Nat) (bb : Nat) (fxx : Nat → Int) (frx : Nat → Int) (fsx : Int) (csx : Nat → Int) (cnx : Nat → Int) (ckx : Nat → Int) (cdx : Int) (chx : Nat → Int) (tbx : Nat → Int) (crx : Nat → Int) (unx : Int) (hbb : 1 ≤ bb ∧ bb ≤ (setZ m_ct m_nr) + 1) (hhere : ∀ m, 1 ≤ m → m < bb → subN m (setZ m_ct m_nr) → bitsN m = k → peaceP m_rk m_nu m_sa m_lo m_hi m_nc m_nr m), (setZ m_ct m_nr) + 1 - bb < n → GW p_ l e_ (headSpec wsX7_quarrel ({ frames := 4, cells := 0, slots := 0, locals := 102 })).room s_ m_ ([.ref (m 0)]).toArray b_ me_ c_ (MQ b_ (Qm D (fun ov ow => ∃ (n : Nat) (fx : Nat → Int) (fr : Nat → Int) (fs : Int) (cs : Nat → Int) (cn : Nat → Int) (ck : Nat → Int) (cd : Int) (ch : Nat → Int) (tb : Nat → Int) (cr : Nat → Int) (un : Int), (quarP (peaceP m_rk m_nu m_sa m_lo m_hi m_nc m_nr) (setZ m_ct m_nr) n) ∧ ov = some (iv (((n : Nat) : Int))) ∧ ow = wMO cA m (((m_nc : Nat) : Int)) (((m_nr : Nat) : Int)) (m_ke) (m_so) (m_bu) (m_bc) (m_pu) (m_qu) (fs) (cd) (un) (m_hb) (m_pf) (m_ef) ++ wMP cA m (m_kd) (m_lo) (m_hi) (m_co) (m_pa) (m_rk) (m_nu) (m_ct) (m_sa) ++ wME cA m (fr) (cs) (cn) (ck) (ch) (tb) (cr) ++ wMX cA m (fx) (m_fv) ((mixZ m_nu m_sn m_nr))) A) ([.ref (m 0)]).toArray s_ 0 0 A) (IM D s_ A) 4 0 0 (wMO cA m (((m_nc : Nat) : Int)) (((m_nr : Nat) : Int)) (m_ke) (m_so) (m_bu) (m_bc) (m_pu) (m_qu) (fsx) (cdx) (unx) (m_hb) (m_pf) (m_ef) ++ wMP cA m (m_kd) (m_lo) (m_hi) (m_co) (m_pa) (m_rk) (m_nu) (m_ct) (m_sa) ++ wME cA m (frx) (csx) (cnx) (ckx) (chx) (tbx) (crx) ++ wMX cA m (fxx) (m_fv) (mixZ m_nu m_sn m_nr)) ([(0, .ref (m 0)), (1, iv (((setZ m_ct m_nr : Nat) : Int))), (2, iv (((k : Nat) : Int))), (3, iv (((bb : Nat) : Int)))]) [] 29 := by
            intro n; induction n with
            | zero => intro bb fxx frx fsx csx cnx ckx cdx chx tbx crx unx; intros; omega
            | succ n ih29 =>
              intro bb fxx frx fsx csx cnx ckx cdx chx tbx crx unx hbb hhere hmu29
              refine g_iload_n F 3 rfl rfl dX7_quarrel_29 ?_
              refine g_iload_n F 1 rfl rfl dX7_quarrel_30 ?_
              refine g_icmp_gt F (tgt := 65) dX7_quarrel_31 (by decide) ⟨by omega, by omega⟩ ⟨by omega, by omega⟩ (fun c_3 => ?_) (fun c_3 => ?_)
              · skip
                refine g_iinc F 2 rfl ([(2, iv ((((k : Nat) : Int)) + 1)), (0, .ref (m 0)), (1, iv (((setZ m_ct m_nr : Nat) : Int))), (3, iv (((bb : Nat) : Int)))]) rfl (by decide) dX7_quarrel_65 ?_
                refine g_goto F (tgt := 21) dX7_quarrel_68 (by decide) ?_
                refine g_lsub ([(0, .ref (m 0)), (1, iv (((setZ m_ct m_nr : Nat) : Int))), (2, iv ((((k : Nat) : Int)) + 1))]) [1, 2, 0] rfl ?_
                exact ih21 (k + 1) fxx frx fsx csx cnx ckx cdx chx tbx crx unx (by omega) (fun m m1 m2 m3 m4 => by rcases (show bitsN m < k ∨ bitsN m = k by omega) with z | z; exact hlow m m1 m2 m3 z; exact hhere m m1 (by have := sub_le (sub_and.mp m3); omega) m3 z) (by omega)
              · skip
                have hbb7 : bb < 128 := by omega
                have hba := Nat.and_le_left (n := bb) (m := (setZ m_ct m_nr))
                refine g_iload_n F 3 rfl rfl dX7_quarrel_34 ?_
                refine g_iload_n F 1 rfl rfl dX7_quarrel_35 ?_
                refine g_iand F (a := bb) (b := (setZ m_ct m_nr)) rfl rfl dX7_quarrel_36 ?_
                refine g_iload_n F 3 rfl rfl dX7_quarrel_37 ?_
                refine g_icmp_ne F (tgt := 59) dX7_quarrel_38 (by decide) ⟨by omega, by omega⟩ ⟨by omega, by omega⟩ (fun c_4 => ?_) (fun c_4 => ?_)
                · skip
                  refine g_iinc F 3 rfl ([(3, iv ((((bb : Nat) : Int)) + 1)), (0, .ref (m 0)), (1, iv (((setZ m_ct m_nr : Nat) : Int))), (2, iv (((k : Nat) : Int)))]) rfl (by decide) dX7_quarrel_59 ?_
                  refine g_goto F (tgt := 29) dX7_quarrel_62 (by decide) ?_
                  refine g_lsub ([(0, .ref (m 0)), (1, iv (((setZ m_ct m_nr : Nat) : Int))), (2, iv (((k : Nat) : Int))), (3, iv ((((bb : Nat) : Int)) + 1))]) [1, 2, 3, 0] rfl ?_
                  exact ih29 (bb + 1) fxx frx fsx csx cnx ckx cdx chx tbx crx unx (by omega) (fun m m1 m2 m3 m4 => by rcases (show m < bb ∨ m = bb by omega) with z | z; exact hhere m m1 z m3 m4; (subst z; first | exact (hpe _).mp (Classical.byContradiction (fun y => absurd (hq51.mpr y) (by assumption))) | (exfalso; have m5 := sub_and.mp m3; omega))) (by omega)
                · skip
                  have hsb : bb &&& (setZ m_ct m_nr) = bb := by omega
                  refine g_iload_n F 3 rfl rfl dX7_quarrel_41 ?_
                  refine g_callRS F hV (As := [iv (((bb : Nat) : Int))]) (rest := []) (kX7_manyOf l D cA bb (by omega)) (va_cwS 1 F.2.2.2.2.1 gX7_quarrel_X7_manyOf rfl rfl rfl (by decide +kernel) ⟨Nat.le_of_ble_eq_true rfl, Nat.le_of_ble_eq_true rfl⟩) [] rfl rfl rfl (Nat.le_of_ble_eq_true rfl) ⟨Nat.le_of_ble_eq_true rfl, Nat.le_of_ble_eq_true rfl⟩ dX7_quarrel_42 (fun v hv => ?_)
                  subst hv
                  refine g_eq (st' := [iv (((bitsN bb : Nat) : Int))]) rfl rfl rfl ?_
                  have hb7 := bits_7 bb
                  refine g_iload_n F 2 rfl rfl dX7_quarrel_45 ?_
                  refine g_icmp_ne F (tgt := 59) dX7_quarrel_46 (by decide) ⟨by omega, by omega⟩ ⟨by omega, by omega⟩ (fun c_5 => ?_) (fun c_5 => ?_)
                  · skip
                    refine g_iinc F 3 rfl ([(3, iv ((((bb : Nat) : Int)) + 1)), (0, .ref (m 0)), (1, iv (((setZ m_ct m_nr : Nat) : Int))), (2, iv (((k : Nat) : Int)))]) rfl (by decide) dX7_quarrel_59 ?_
                    refine g_goto F (tgt := 29) dX7_quarrel_62 (by decide) ?_
                    refine g_lsub ([(0, .ref (m 0)), (1, iv (((setZ m_ct m_nr : Nat) : Int))), (2, iv (((k : Nat) : Int))), (3, iv ((((bb : Nat) : Int)) + 1))]) [1, 2, 3, 0] rfl ?_
                    exact ih29 (bb + 1) fxx frx fsx csx cnx ckx cdx chx tbx crx unx (by omega) (fun m m1 m2 m3 m4 => by rcases (show m < bb ∨ m = bb by omega) with z | z; exact hhere m m1 z m3 m4; (subst z; first | exact (hpe _).mp (Classical.byContradiction (fun y => absurd (hq51.mpr y) (by assumption))) | (exfalso; have m5 := sub_and.mp m3; omega))) (by omega)
                  · skip
                    refine g_aload_n F 0 rfl rfl dX7_quarrel_49 ?_
                    refine g_iload_n F 3 rfl rfl dX7_quarrel_50 ?_
                    refine g_callV F (As := [iv (((bb : Nat) : Int))]) (rest := []) (wr := []) (kX7_quarrels l D cA m m_nc m_nr m_ke m_so m_bu m_bc m_pu m_qu fsx cdx unx m_hb m_pf m_ef m_kd m_lo m_hi m_co m_pa m_rk m_nu m_ct m_sa frx csx cnx ckx chx tbx crx fxx m_fv (mixZ m_nu m_sn m_nr) bb (qnc) (qnr) (qkd) (hsn) (hsa) (hrk) (hlo) (hhi) (by omega)) (cwV 1 F.2.2.2.2.1 gX7_quarrel_X7_quarrels rfl rfl rfl (by decide +kernel) ⟨Nat.le_of_ble_eq_true rfl, Nat.le_of_ble_eq_true rfl⟩) rfl rfl (q0 := 0) rfl [0, 1, 2, 3, 4, 5, 6, 7, 8, 9, 10, 11, 12, 13, 14, 15, 16, 17, 18, 19] [] rfl rfl (by decide) (by decide) (by decide) rfl rfl (Nat.le_of_ble_eq_true rfl) ⟨Nat.le_of_ble_eq_true rfl, Nat.le_of_ble_eq_true rfl⟩ hA dX7_quarrel_51 (fun v w hv => ?_)
                    obtain ⟨r51, fx51, fr51, fs51, cs51, cn51, ck51, cd51, ch51, tb51, cr51, un51, hq51, hv, hw⟩ := hv
                    subst hv
                    subst hw
                    refine g_wsub (wMO cA m (((m_nc : Nat) : Int)) (((m_nr : Nat) : Int)) (m_ke) (m_so) (m_bu) (m_bc) (m_pu) (m_qu) (fs51) (cd51) (un51) (m_hb) (m_pf) (m_ef) ++ wMP cA m (m_kd) (m_lo) (m_hi) (m_co) (m_pa) (m_rk) (m_nu) (m_ct) (m_sa) ++ wME cA m (fr51) (cs51) (cn51) (ck51) (ch51) (tb51) (cr51) ++ wMX cA m (fx51) (m_fv) (mixZ m_nu m_sn m_nr)) [0, 1, 2, 3, 4, 5, 6, 7, 8, 9, 10, 11, 12, 13, 14, 15, 16, 17, 18, 19] (by decide) rfl ?_
                    refine g_eq (st' := [iv (if r51 = true then 1 else 0)]) rfl rfl rfl ?_
                    refine g_ifb_eq F (tgt := 59) dX7_quarrel_54 (by decide) (fun c_6 => ?_) (fun c_6 => ?_)
                    · skip
                      refine g_iinc F 3 rfl ([(3, iv ((((bb : Nat) : Int)) + 1)), (0, .ref (m 0)), (1, iv (((setZ m_ct m_nr : Nat) : Int))), (2, iv (((k : Nat) : Int)))]) rfl (by decide) dX7_quarrel_59 ?_
                      refine g_goto F (tgt := 29) dX7_quarrel_62 (by decide) ?_
                      refine g_lsub ([(0, .ref (m 0)), (1, iv (((setZ m_ct m_nr : Nat) : Int))), (2, iv (((k : Nat) : Int))), (3, iv ((((bb : Nat) : Int)) + 1))]) [1, 2, 3, 0] rfl ?_
                      exact ih29 (bb + 1) fx51 fr51 fs51 cs51 cn51 ck51 cd51 ch51 tb51 cr51 un51 (by omega) (fun m m1 m2 m3 m4 => by rcases (show m < bb ∨ m = bb by omega) with z | z; exact hhere m m1 z m3 m4; (subst z; first | exact (hpe _).mp (Classical.byContradiction (fun y => absurd (hq51.mpr y) (by assumption))) | (exfalso; have m5 := sub_and.mp m3; omega))) (by omega)
                    · skip
                      refine g_iload_n F 3 rfl rfl dX7_quarrel_57 ?_
                      exact g_zret F rfl rfl (by decide) (by decide) ⟨bb, fx51, fr51, fs51, cs51, cn51, ck51, cd51, ch51, tb51, cr51, un51, (Or.inr (Or.inr ⟨hwar, by omega, by omega, sub_and.mpr hsb, fun z => (hq51.mp (by assumption)) ((hpe _).mpr z), fun m m1 m2 m3 m4 => by rcases m4 with z | ⟨z1, z2⟩; exact hlow m m1 m2 m3 (by omega); exact hhere m m1 z2 m3 (by omega)⟩)), congrArg (fun z => some (iv z)) (show (((bb : Nat) : Int) : Int) = ((bb : Nat) : Int) by rfl), rfl⟩ dX7_quarrel_58
          refine g_lsub ([(0, .ref (m 0)), (1, iv (((setZ m_ct m_nr : Nat) : Int))), (2, iv (((k : Nat) : Int))), (3, iv (1))]) [1, 2, 3, 0] rfl ?_
          exact lp29 (_ + 1) 1 fxx frx fsx csx cnx ckx cdx chx tbx crx unx (by omega) (fun m m1 m2 => by omega) (Nat.lt_succ_self _)
    refine g_lsub ([(0, .ref (m 0)), (1, iv (((setZ m_ct m_nr : Nat) : Int))), (2, iv (1))]) [2, 1, 0] rfl ?_
    exact lp21 (_ + 1) 1 fx11 fr11 fs11 cs11 cn11 ck11 cd11 ch11 tb11 cr11 un11 (by omega) (fun m m1 m2 _ m3 => absurd (bits_1 m1 m2) (by omega)) (Nat.lt_succ_self _)
  · skip
    refine g_iconst F dX7_quarrel_17 ?_
    exact g_zret F rfl rfl (by decide) (by decide) ⟨0, fx11, fr11, fs11, cs11, cn11, ck11, cd11, ch11, tb11, cr11, un11, (Or.inl ⟨(hpe _).mp (Classical.byContradiction (fun z => absurd (hq11.mpr z) (by assumption))), rfl⟩), congrArg (fun z => some (iv z)) (show (0 : Int) = ((0 : Nat) : Int) by rfl), rfl⟩ dX7_quarrel_18
