abbrev endZ (fx hi : Nat → Int) : Nat → Int := fun c => if fx c = 0 ∧ hi c = -2000000005 then 1 else 0
def wayE (nc nr : Nat) (rk ct sa co : Nat → Int) (b : Nat) : Prop := ∃ n K fr cs cn ck, wlP nc nr n K b rk ct sa fr cs cn ck ∧ hasC n K cs cn ck (negG co fr n)
def endP (nc nr : Nat) (rk ct sa co : Nat → Int) (b : Nat) : Prop := ∃ n K fr cs cn ck, wlP nc nr n K b rk ct sa fr cs cn ck ∧ ∀ t, chV n K t → novC n K cs cn ck (negG co fr n) t
def wyI (nc nr : Nat) (rk ct sa co wy : Nat → Int) : Prop := ∀ k, k < 32 → wy k = 0 ∨ (wy k = 1 ∧ endP nc nr rk ct sa co k) ∨ (wy k = 2 ∧ wayE nc nr rk ct sa co k)
theorem wy_up {nc nr : Nat} {rk ct sa co wy : Nat → Int} {x : Nat} {v : Int} (h : wyI nc nr rk ct sa co wy) (hv : (v = 1 ∧ endP nc nr rk ct sa co x) ∨ (v = 2 ∧ wayE nc nr rk ct sa co x)) : wyI nc nr rk ct sa co (va_up wy x v) := by
  intro k hk
  by_cases e : k = x
  · subst e; rw [up_same]; exact Or.inr hv
  · rw [up_ne e]; exact h k hk
def enI (nc nr : Nat) (rk ct sa co : Nat → Int) (x : Nat) (v : Int) (wy : Nat → Int) : Prop := (v = 0 ∨ v = 1) ∧ (v = 1 → wayE nc nr rk ct sa co x) ∧ (v = 0 → endP nc nr rk ct sa co x) ∧ wyI nc nr rk ct sa co wy
theorem en_hit {nc nr : Nat} {rk ct sa co wy : Nat → Int} {x : Nat} (hx : x < 32) (h : wyI nc nr rk ct sa co wy) (h0 : wy x ≠ 0) : enI nc nr rk ct sa co x (if wy x = 2 then 1 else 0) wy := by
  rcases h x hx with e | ⟨e, e2⟩ | ⟨e, e2⟩
  · exact absurd e h0
  · rw [if_neg (by omega)]; exact ⟨Or.inl rfl, fun z => absurd z (by decide), fun _ => e2, h⟩
  · rw [if_pos e]; exact ⟨Or.inr rfl, fun _ => e2, fun z => absurd z (by decide), h⟩
set_option maxHeartbeats 4000000 in
set_option maxRecDepth 100000 in
theorem kX7_isEndless (l : Launch) (D : va_G) (cA : Nat → ClassId) (m : Nat → Nat) (m_nc : Nat) (m_nr : Nat) (m_ke : Int) (m_so : Int) (m_bu : Int) (m_bc : Int) (m_pu : Int) (m_qu : Int) (m_fs : Int) (m_cd : Int) (m_un : Int) (m_hb : Int) (m_pf : Int) (m_ef : Int) (m_kd : Nat → Int) (m_lo : Nat → Int) (m_hi : Nat → Int) (m_co : Nat → Int) (m_pa : Nat → Int) (m_rk : Nat → Int) (m_nu : Nat → Int) (m_ct : Nat → Int) (m_sa : Nat → Int) (m_fr : Nat → Int) (m_cs : Nat → Int) (m_cn : Nat → Int) (m_ck : Nat → Int) (m_ch : Nat → Int) (m_tb : Nat → Int) (m_cr : Nat → Int) (m_fx : Nat → Int) (m_fv : Nat → Int) (m_sn : Nat → Int) (m_be : Nat → Int) (m_tr : Nat → Int) (m_wy : Nat → Int) (qnc : m_nc ≤ 5) (qnr : m_nr ≤ 7) (hfx : ∀ j, j < m_nc → 0 ≤ m_fx j ∧ m_fx j ≤ 1) (hsa : ∀ j, -9 ≤ m_sa j ∧ m_sa j ≤ 9) (hrk : ∀ j, 0 ≤ m_rk j ∧ m_rk j ≤ 2) (hhi : ∀ j, m_hi j = -2000000005 ∨ (-20 ≤ m_hi j ∧ m_hi j ≤ 20)) (qct : ∀ j, 0 ≤ m_ct j ∧ m_ct j ≤ 1) (hco : ∀ j, -9 ≤ m_co j ∧ m_co j ≤ 9) (hwy : wyI m_nc m_nr m_rk m_ct m_sa m_co m_wy) : CT l yX7_isEndless wsX7_isEndless ({ frames := 3, cells := 0, slots := 0, locals := 85 }) D cA [.ref (m 0)] (wMO cA m (((m_nc : Nat) : Int)) (((m_nr : Nat) : Int)) (m_ke) (m_so) (m_bu) (m_bc) (m_pu) (m_qu) (m_fs) (m_cd) (m_un) (m_hb) (m_pf) (m_ef) ++ wMP cA m (m_kd) (m_lo) (m_hi) (m_co) (m_pa) (m_rk) (m_nu) (m_ct) (m_sa) ++ wME cA m (m_fr) (m_cs) (m_cn) (m_ck) (m_ch) (m_tb) (m_cr) ++ wMX cA m (m_fx) (m_fv) (m_sn) ++ wMB cA m (m_be) (m_tr) (m_wy)) (fun ov ow => ∃ (v : Int) (fr : Nat → Int) (fs : Int) (cs : Nat → Int) (cn : Nat → Int) (ck : Nat → Int) (cd : Int) (ch : Nat → Int) (tb : Nat → Int) (cr : Nat → Int) (un : Int) (wy : Nat → Int), (enI m_nc m_nr m_rk m_ct m_sa m_co (setZ (endZ m_fx m_hi) m_nc) v wy) ∧ ov = some (iv (v)) ∧ ow = wMO cA m (((m_nc : Nat) : Int)) (((m_nr : Nat) : Int)) (m_ke) (m_so) (m_bu) (m_bc) (m_pu) (m_qu) (fs) (cd) (un) (m_hb) (m_pf) (m_ef) ++ wMP cA m (m_kd) (m_lo) (m_hi) (m_co) (m_pa) (m_rk) (m_nu) (m_ct) (m_sa) ++ wME cA m (fr) (cs) (cn) (ck) (ch) (tb) (cr) ++ wMX cA m (m_fx) (m_fv) (m_sn) ++ wMB cA m (m_be) (m_tr) (wy)) 0 0 := by
  refine CT.mk (cc := cX7_isEndless) (maxL := 3) (ret := (some .boolean)) (by decide +kernel) rfl (Nat.le_of_ble_eq_true rfl) ?_
  intro p_ e_ s_ m_ b_ me_ c_ A F hnm hA
  have hV := @IM_P D s_ A
  have iX7 : ∀ w ∈ u_ws RX7 TX7 38, w ∈ wsX7_isEndless := by decide +kernel
  refine g_lsub ([(0, .ref (m 0))]) [0] rfl ?_
  refine g_iconst F dX7_isEndless_0 ?_
  refine g_istore_n F ([(1, iv (0)), (0, .ref (m 0))]) rfl rfl (by decide) dX7_isEndless_1 ?_
  refine g_iconst F dX7_isEndless_2 ?_
  refine g_istore_n F ([(2, iv (0)), (1, iv (0)), (0, .ref (m 0))]) rfl rfl (by decide) dX7_isEndless_3 ?_
  have lp4 : ∀ (n : Nat) (c : Nat) (x : Nat) (hc : c ≤ m_nc) (hx : x = setZ (endZ m_fx m_hi) c), m_nc - c < n → GW p_ l e_ (headSpec wsX7_isEndless ({ frames := 3, cells := 0, slots := 0, locals := 85 })).room s_ m_ ([.ref (m 0)]).toArray b_ me_ c_ (MQ b_ (Qm D (fun ov ow => ∃ (v : Int) (fr : Nat → Int) (fs : Int) (cs : Nat → Int) (cn : Nat → Int) (ck : Nat → Int) (cd : Int) (ch : Nat → Int) (tb : Nat → Int) (cr : Nat → Int) (un : Int) (wy : Nat → Int), (enI m_nc m_nr m_rk m_ct m_sa m_co (setZ (endZ m_fx m_hi) m_nc) v wy) ∧ ov = some (iv (v)) ∧ ow = wMO cA m (((m_nc : Nat) : Int)) (((m_nr : Nat) : Int)) (m_ke) (m_so) (m_bu) (m_bc) (m_pu) (m_qu) (fs) (cd) (un) (m_hb) (m_pf) (m_ef) ++ wMP cA m (m_kd) (m_lo) (m_hi) (m_co) (m_pa) (m_rk) (m_nu) (m_ct) (m_sa) ++ wME cA m (fr) (cs) (cn) (ck) (ch) (tb) (cr) ++ wMX cA m (m_fx) (m_fv) (m_sn) ++ wMB cA m (m_be) (m_tr) (wy)) A) ([.ref (m 0)]).toArray s_ 0 0 A) (IM D s_ A) 3 0 0 (wMO cA m (((m_nc : Nat) : Int)) (((m_nr : Nat) : Int)) (m_ke) (m_so) (m_bu) (m_bc) (m_pu) (m_qu) (m_fs) (m_cd) (m_un) (m_hb) (m_pf) (m_ef) ++ wMP cA m (m_kd) (m_lo) (m_hi) (m_co) (m_pa) (m_rk) (m_nu) (m_ct) (m_sa) ++ wME cA m (m_fr) (m_cs) (m_cn) (m_ck) (m_ch) (m_tb) (m_cr) ++ wMX cA m (m_fx) (m_fv) (m_sn) ++ wMB cA m (m_be) (m_tr) (m_wy)) ([(0, .ref (m 0)), (1, iv (((x : Nat) : Int))), (2, iv (((c : Nat) : Int)))]) [] 4 := by
    intro n; induction n with
    | zero => intro c x; intros; omega
    | succ n ih4 =>
      intro c x hc hx hmu4
      refine g_iload_n F 2 rfl rfl dX7_isEndless_4 ?_
      refine g_aload_n F 0 rfl rfl dX7_isEndless_5 ?_
      refine g_get F hV iX7 0 rfl rfl 0 (by decide) (List.mem_of_getElem? (i := 1) rfl) rfl dX7_isEndless_6 ?_
      refine g_icmp_ge F (tgt := 48) dX7_isEndless_9 (by decide) ⟨by omega, by omega⟩ ⟨by omega, by omega⟩ (fun c_1 => ?_) (fun c_1 => ?_)
      · skip
        have hxe : x = (setZ (endZ m_fx m_hi) m_nc) := by rw [hx, show c = m_nc by omega]
        have hx32 : x < 32 := by rw [hx]; exact Nat.lt_of_lt_of_le (setZ_lt _ c) (Nat.le_trans (Nat.pow_le_pow_right (by decide) (show c ≤ 5 by omega)) (by decide))
        have hwx := hwy x hx32
        refine g_aload_n F 0 rfl rfl dX7_isEndless_48 ?_
        refine g_get F hV iX7 0 rfl rfl 35 (by decide) (List.mem_of_getElem? (i := 5) rfl) rfl dX7_isEndless_49 ?_
        refine g_iload_n F 1 rfl rfl dX7_isEndless_52 ?_
        refine g_iald F hV 22 rfl (x) (by omega) (by omega) (by decide) dX7_isEndless_53 ?_
        refine g_if_ne F (tgt := 76) dX7_isEndless_54 (by decide) ⟨by omega, by omega⟩ (fun c_2 => ?_) (fun c_2 => ?_)
        · skip
          obtain ⟨wy2, hwe, hwy2⟩ : ∃ z, z = m_wy ∧ wyI m_nc m_nr m_rk m_ct m_sa m_co z := ⟨_, rfl, by first | exact hwy | exact wy_up hwy (Or.inr ⟨rfl, _, _, _, _, _, _, hw64.2.1, hw64.2.2.1 (by omega)⟩) | exact wy_up hwy (Or.inl ⟨rfl, _, _, _, _, _, _, hw64.2.1, hw64.2.2.2 (by omega)⟩)⟩
          have hwz : wy2 x ≠ 0 := by rw [hwe]; first | omega | (rw [up_same]; decide)
          have hwr : 0 ≤ wy2 x ∧ wy2 x ≤ 2 := by rcases hwy2 x hx32 with z | z | z <;> omega
          rw [← hwe]
          refine g_aload_n F 0 rfl rfl dX7_isEndless_76 ?_
          refine g_get F hV iX7 0 rfl rfl 35 (by decide) (List.mem_of_getElem? (i := 5) rfl) rfl dX7_isEndless_77 ?_
          refine g_iload_n F 1 rfl rfl dX7_isEndless_80 ?_
          refine g_iald F hV 22 rfl (x) (by omega) (by omega) (by decide) dX7_isEndless_81 ?_
          refine g_iconst F dX7_isEndless_82 ?_
          refine g_icmp_ne F (tgt := 90) dX7_isEndless_83 (by decide) ⟨by omega, by omega⟩ ⟨by decide, by decide⟩ (fun c_3 => ?_) (fun c_3 => ?_)
          · skip
            refine g_iconst F dX7_isEndless_90 ?_
            exact g_zret F rfl (nar_01 (Or.inl rfl)) (by decide) (by decide) ⟨0, m_fr, m_fs, m_cs, m_cn, m_ck, m_cd, m_ch, m_tb, m_cr, m_un, wy2, (by have h9 := en_hit (x := x) hx32 hwy2 (by omega); rw [← hxe]; rw [if_neg (by omega)] at h9; exact h9), congrArg (fun z => some (iv z)) (show (0 : Int) = 0 by rfl), rfl⟩ dX7_isEndless_91
          · skip
            refine g_iconst F dX7_isEndless_86 ?_
            refine g_goto F (tgt := 91) dX7_isEndless_87 (by decide) ?_
            exact g_zret F rfl (nar_01 (Or.inr rfl)) (by decide) (by decide) ⟨1, m_fr, m_fs, m_cs, m_cn, m_ck, m_cd, m_ch, m_tb, m_cr, m_un, wy2, (by have h9 := en_hit (x := x) hx32 hwy2 (by omega); rw [← hxe]; rw [if_pos (by omega)] at h9; exact h9), congrArg (fun z => some (iv z)) (show (1 : Int) = 1 by rfl), rfl⟩ dX7_isEndless_91
        · skip
          refine g_aload_n F 0 rfl rfl dX7_isEndless_57 ?_
          refine g_get F hV iX7 0 rfl rfl 35 (by decide) (List.mem_of_getElem? (i := 5) rfl) rfl dX7_isEndless_58 ?_
          refine g_iload_n F 1 rfl rfl dX7_isEndless_61 ?_
          refine g_aload_n F 0 rfl rfl dX7_isEndless_62 ?_
          refine g_iload_n F 1 rfl rfl dX7_isEndless_63 ?_
          refine g_callV F (As := [iv (((x : Nat) : Int))]) (rest := [iv (((x : Nat) : Int)), .ref (m 22)]) (wr := wMX cA m (m_fx) (m_fv) (m_sn) ++ wMB cA m (m_be) (m_tr) (m_wy)) (kX7_isWay l D cA m m_nc m_nr m_ke m_so m_bu m_bc m_pu m_qu m_fs m_cd m_un m_hb m_pf m_ef m_kd m_lo m_hi m_co m_pa m_rk m_nu m_ct m_sa m_fr m_cs m_cn m_ck m_ch m_tb m_cr x (qnc) (qnr) (hx32) (hsa) (hrk) (qct) (hco)) (cwV 1 F.2.2.2.2.1 gX7_isEndless_X7_isWay rfl rfl rfl (by decide +kernel) ⟨Nat.le_of_ble_eq_true rfl, Nat.le_of_ble_eq_true rfl⟩) rfl rfl (q0 := 0) rfl [0, 1, 2, 3, 4, 5, 6, 7, 8, 9, 10, 11, 12, 13, 14, 15, 16] [17, 18, 19, 20, 21, 22] rfl rfl (by decide) (by decide) (by decide) rfl rfl (Nat.le_of_ble_eq_true rfl) ⟨Nat.le_of_ble_eq_true rfl, Nat.le_of_ble_eq_true rfl⟩ hA dX7_isEndless_64 (fun v w hv => ?_)
          obtain ⟨so64, fr64, fs64, cs64, cn64, ck64, cd64, ch64, tb64, cr64, un64, hw64, hv, hw⟩ := hv
          subst hv
          subst hw
          refine g_wsub (wMO cA m (((m_nc : Nat) : Int)) (((m_nr : Nat) : Int)) (m_ke) (m_so) (m_bu) (m_bc) (m_pu) (m_qu) (((fs64 : Nat) : Int)) (((cd64 : Nat) : Int)) (un64) (m_hb) (m_pf) (m_ef) ++ wMP cA m (m_kd) (m_lo) (m_hi) (m_co) (m_pa) (m_rk) (m_nu) (m_ct) (m_sa) ++ wME cA m (fr64) (cs64) (cn64) (ck64) (ch64) (tb64) (cr64) ++ wMX cA m (m_fx) (m_fv) (m_sn) ++ wMB cA m (m_be) (m_tr) (m_wy)) [6, 7, 8, 9, 10, 11, 12, 13, 14, 15, 16, 17, 18, 19, 20, 21, 22, 0, 1, 2, 3, 4, 5] (by decide) rfl ?_
          refine g_eq (st' := [iv (so64), iv (((x : Nat) : Int)), .ref (m 22)]) rfl rfl rfl ?_
          refine g_if_eq F (tgt := 74) dX7_isEndless_67 (by decide) ⟨by omega, by omega⟩ (fun c_4 => ?_) (fun c_4 => ?_)
          · skip
            refine g_iconst F dX7_isEndless_74 ?_
            refine g_iast F 22 rfl (x) (by omega) (by omega) (by decide) (wMO cA m (((m_nc : Nat) : Int)) (((m_nr : Nat) : Int)) (m_ke) (m_so) (m_bu) (m_bc) (m_pu) (m_qu) (((fs64 : Nat) : Int)) (((cd64 : Nat) : Int)) (un64) (m_hb) (m_pf) (m_ef) ++ wMP cA m (m_kd) (m_lo) (m_hi) (m_co) (m_pa) (m_rk) (m_nu) (m_ct) (m_sa) ++ wME cA m (fr64) (cs64) (cn64) (ck64) (ch64) (tb64) (cr64) ++ wMX cA m (m_fx) (m_fv) (m_sn) ++ wMB cA m (m_be) (m_tr) (va_up m_wy x 1)) rfl dX7_isEndless_75 ?_
            obtain ⟨wy2, hwe, hwy2⟩ : ∃ z, z = va_up m_wy x 1 ∧ wyI m_nc m_nr m_rk m_ct m_sa m_co z := ⟨_, rfl, by first | exact hwy | exact wy_up hwy (Or.inr ⟨rfl, _, _, _, _, _, _, hw64.2.1, hw64.2.2.1 (by omega)⟩) | exact wy_up hwy (Or.inl ⟨rfl, _, _, _, _, _, _, hw64.2.1, hw64.2.2.2 (by omega)⟩)⟩
            have hwz : wy2 x ≠ 0 := by rw [hwe]; first | omega | (rw [up_same]; decide)
            have hwr : 0 ≤ wy2 x ∧ wy2 x ≤ 2 := by rcases hwy2 x hx32 with z | z | z <;> omega
            rw [← hwe]
            refine g_aload_n F 0 rfl rfl dX7_isEndless_76 ?_
            refine g_get F hV iX7 0 rfl rfl 35 (by decide) (List.mem_of_getElem? (i := 5) rfl) rfl dX7_isEndless_77 ?_
            refine g_iload_n F 1 rfl rfl dX7_isEndless_80 ?_
            refine g_iald F hV 22 rfl (x) (by omega) (by omega) (by decide) dX7_isEndless_81 ?_
            refine g_iconst F dX7_isEndless_82 ?_
            refine g_icmp_ne F (tgt := 90) dX7_isEndless_83 (by decide) ⟨by omega, by omega⟩ ⟨by decide, by decide⟩ (fun c_5 => ?_) (fun c_5 => ?_)
            · skip
              refine g_iconst F dX7_isEndless_90 ?_
              exact g_zret F rfl (nar_01 (Or.inl rfl)) (by decide) (by decide) ⟨0, fr64, (((fs64 : Nat) : Int)), cs64, cn64, ck64, (((cd64 : Nat) : Int)), ch64, tb64, cr64, un64, wy2, (by have h9 := en_hit (x := x) hx32 hwy2 (by omega); rw [← hxe]; rw [if_neg (by omega)] at h9; exact h9), congrArg (fun z => some (iv z)) (show (0 : Int) = 0 by rfl), rfl⟩ dX7_isEndless_91
            · skip
              refine g_iconst F dX7_isEndless_86 ?_
              refine g_goto F (tgt := 91) dX7_isEndless_87 (by decide) ?_
              exact g_zret F rfl (nar_01 (Or.inr rfl)) (by decide) (by decide) ⟨1, fr64, (((fs64 : Nat) : Int)), cs64, cn64, ck64, (((cd64 : Nat) : Int)), ch64, tb64, cr64, un64, wy2, (by have h9 := en_hit (x := x) hx32 hwy2 (by omega); rw [← hxe]; rw [if_pos (by omega)] at h9; exact h9), congrArg (fun z => some (iv z)) (show (1 : Int) = 1 by rfl), rfl⟩ dX7_isEndless_91
          · skip
            refine g_iconst F dX7_isEndless_70 ?_
            refine g_goto F (tgt := 75) dX7_isEndless_71 (by decide) ?_
            refine g_iast F 22 rfl (x) (by omega) (by omega) (by decide) (wMO cA m (((m_nc : Nat) : Int)) (((m_nr : Nat) : Int)) (m_ke) (m_so) (m_bu) (m_bc) (m_pu) (m_qu) (((fs64 : Nat) : Int)) (((cd64 : Nat) : Int)) (un64) (m_hb) (m_pf) (m_ef) ++ wMP cA m (m_kd) (m_lo) (m_hi) (m_co) (m_pa) (m_rk) (m_nu) (m_ct) (m_sa) ++ wME cA m (fr64) (cs64) (cn64) (ck64) (ch64) (tb64) (cr64) ++ wMX cA m (m_fx) (m_fv) (m_sn) ++ wMB cA m (m_be) (m_tr) (va_up m_wy x 2)) rfl dX7_isEndless_75 ?_
            obtain ⟨wy2, hwe, hwy2⟩ : ∃ z, z = va_up m_wy x 2 ∧ wyI m_nc m_nr m_rk m_ct m_sa m_co z := ⟨_, rfl, by first | exact hwy | exact wy_up hwy (Or.inr ⟨rfl, _, _, _, _, _, _, hw64.2.1, hw64.2.2.1 (by omega)⟩) | exact wy_up hwy (Or.inl ⟨rfl, _, _, _, _, _, _, hw64.2.1, hw64.2.2.2 (by omega)⟩)⟩
            have hwz : wy2 x ≠ 0 := by rw [hwe]; first | omega | (rw [up_same]; decide)
            have hwr : 0 ≤ wy2 x ∧ wy2 x ≤ 2 := by rcases hwy2 x hx32 with z | z | z <;> omega
            rw [← hwe]
            refine g_aload_n F 0 rfl rfl dX7_isEndless_76 ?_
            refine g_get F hV iX7 0 rfl rfl 35 (by decide) (List.mem_of_getElem? (i := 5) rfl) rfl dX7_isEndless_77 ?_
            refine g_iload_n F 1 rfl rfl dX7_isEndless_80 ?_
            refine g_iald F hV 22 rfl (x) (by omega) (by omega) (by decide) dX7_isEndless_81 ?_
            refine g_iconst F dX7_isEndless_82 ?_
            refine g_icmp_ne F (tgt := 90) dX7_isEndless_83 (by decide) ⟨by omega, by omega⟩ ⟨by decide, by decide⟩ (fun c_6 => ?_) (fun c_6 => ?_)
            · skip
              refine g_iconst F dX7_isEndless_90 ?_
              exact g_zret F rfl (nar_01 (Or.inl rfl)) (by decide) (by decide) ⟨0, fr64, (((fs64 : Nat) : Int)), cs64, cn64, ck64, (((cd64 : Nat) : Int)), ch64, tb64, cr64, un64, wy2, (by have h9 := en_hit (x := x) hx32 hwy2 (by omega); rw [← hxe]; rw [if_neg (by omega)] at h9; exact h9), congrArg (fun z => some (iv z)) (show (0 : Int) = 0 by rfl), rfl⟩ dX7_isEndless_91
            · skip
              refine g_iconst F dX7_isEndless_86 ?_
              refine g_goto F (tgt := 91) dX7_isEndless_87 (by decide) ?_
              exact g_zret F rfl (nar_01 (Or.inr rfl)) (by decide) (by decide) ⟨1, fr64, (((fs64 : Nat) : Int)), cs64, cn64, ck64, (((cd64 : Nat) : Int)), ch64, tb64, cr64, un64, wy2, (by have h9 := en_hit (x := x) hx32 hwy2 (by omega); rw [← hxe]; rw [if_pos (by omega)] at h9; exact h9), congrArg (fun z => some (iv z)) (show (1 : Int) = 1 by rfl), rfl⟩ dX7_isEndless_91
      · skip
        refine g_iload_n F 1 rfl rfl dX7_isEndless_12 ?_
        refine g_aload_n F 0 rfl rfl dX7_isEndless_13 ?_
        refine g_get F hV iX7 0 rfl rfl 30 (by decide) (List.mem_of_getElem? (i := 2) rfl) rfl dX7_isEndless_14 ?_
        refine g_iload_n F 2 rfl rfl dX7_isEndless_17 ?_
        have r_7 := hfx (c)
        refine g_zald F hV 17 rfl (c) (by omega) (by omega) (by decide) dX7_isEndless_18 ?_
        refine g_if_ne F (tgt := 39) dX7_isEndless_19 (by decide) ⟨by omega, by omega⟩ (fun c_8 => ?_) (fun c_8 => ?_)
        · skip
          refine g_iconst F dX7_isEndless_39 ?_
          refine g_ior F (a := x) (b := 0) rfl rfl dX7_isEndless_40 ?_
          refine g_istore_n F ([(1, iv (((x ||| 0 : Nat) : Int))), (0, .ref (m 0)), (2, iv (((c : Nat) : Int)))]) rfl rfl (by decide) dX7_isEndless_41 ?_
          refine g_iinc F 2 rfl ([(2, iv ((((c : Nat) : Int)) + 1)), (1, iv (((x ||| 0 : Nat) : Int))), (0, .ref (m 0))]) rfl (by decide) dX7_isEndless_42 ?_
          refine g_goto F (tgt := 4) dX7_isEndless_45 (by decide) ?_
          refine g_lsub ([(0, .ref (m 0)), (1, iv (((x ||| 0 : Nat) : Int))), (2, iv ((((c : Nat) : Int)) + 1))]) [2, 1, 0] rfl ?_
          exact ih4 (c + 1) (x ||| 0) (by omega) (by rw [hx, setZ_succ]; unfold endZ; first | (rw [if_pos (by rw [if_pos (by omega)])]; done) | (rw [if_neg (by rw [if_neg (by omega)]; decide), Nat.or_zero])) (by omega)
        · skip
          refine g_aload_n F 0 rfl rfl dX7_isEndless_22 ?_
          refine g_get F hV iX7 0 rfl rfl 3 (by decide) (List.mem_of_getElem? (i := 3) rfl) rfl dX7_isEndless_23 ?_
          refine g_iload_n F 2 rfl rfl dX7_isEndless_26 ?_
          have r_9 := hhi (c)
          refine g_iald F hV 3 rfl (c) (by omega) (by omega) (by decide) dX7_isEndless_27 ?_
          refine g_ldc F (-2000000005) (by decide) (List.mem_of_getElem? (i := 4) rfl) dX7_isEndless_28 ?_
          refine g_icmp_ne F (tgt := 39) dX7_isEndless_30 (by decide) ⟨by omega, by omega⟩ ⟨by decide, by decide⟩ (fun c_10 => ?_) (fun c_10 => ?_)
          · skip
            refine g_iconst F dX7_isEndless_39 ?_
            refine g_ior F (a := x) (b := 0) rfl rfl dX7_isEndless_40 ?_
            refine g_istore_n F ([(1, iv (((x ||| 0 : Nat) : Int))), (0, .ref (m 0)), (2, iv (((c : Nat) : Int)))]) rfl rfl (by decide) dX7_isEndless_41 ?_
            refine g_iinc F 2 rfl ([(2, iv ((((c : Nat) : Int)) + 1)), (1, iv (((x ||| 0 : Nat) : Int))), (0, .ref (m 0))]) rfl (by decide) dX7_isEndless_42 ?_
            refine g_goto F (tgt := 4) dX7_isEndless_45 (by decide) ?_
            refine g_lsub ([(0, .ref (m 0)), (1, iv (((x ||| 0 : Nat) : Int))), (2, iv ((((c : Nat) : Int)) + 1))]) [2, 1, 0] rfl ?_
            exact ih4 (c + 1) (x ||| 0) (by omega) (by rw [hx, setZ_succ]; unfold endZ; first | (rw [if_pos (by rw [if_pos (by omega)])]; done) | (rw [if_neg (by rw [if_neg (by omega)]; decide), Nat.or_zero])) (by omega)
          · skip
            refine g_iconst F dX7_isEndless_33 ?_
            refine g_iload_n F 2 rfl rfl dX7_isEndless_34 ?_
            refine g_ishl F (a := 1) (b := c) rfl rfl (by omega) (by exact shl1_lt (by omega)) dX7_isEndless_35 ?_
            refine g_goto F (tgt := 40) dX7_isEndless_36 (by decide) ?_
            refine g_ior F (a := x) (b := (1 <<< c)) rfl rfl dX7_isEndless_40 ?_
            refine g_istore_n F ([(1, iv (((x ||| (1 <<< c) : Nat) : Int))), (0, .ref (m 0)), (2, iv (((c : Nat) : Int)))]) rfl rfl (by decide) dX7_isEndless_41 ?_
            refine g_iinc F 2 rfl ([(2, iv ((((c : Nat) : Int)) + 1)), (1, iv (((x ||| (1 <<< c) : Nat) : Int))), (0, .ref (m 0))]) rfl (by decide) dX7_isEndless_42 ?_
            refine g_goto F (tgt := 4) dX7_isEndless_45 (by decide) ?_
            refine g_lsub ([(0, .ref (m 0)), (1, iv (((x ||| (1 <<< c) : Nat) : Int))), (2, iv ((((c : Nat) : Int)) + 1))]) [2, 1, 0] rfl ?_
            exact ih4 (c + 1) (x ||| (1 <<< c)) (by omega) (by rw [hx, setZ_succ]; unfold endZ; first | (rw [if_pos (by rw [if_pos (by omega)])]; done) | (rw [if_neg (by rw [if_neg (by omega)]; decide), Nat.or_zero])) (by omega)
  refine g_lsub ([(0, .ref (m 0)), (1, iv (0)), (2, iv (0))]) [2, 1, 0] rfl ?_
  exact lp4 (_ + 1) 0 0 (by omega) (rfl) (Nat.lt_succ_self _)
