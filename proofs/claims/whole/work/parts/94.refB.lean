set_option maxHeartbeats 4000000 in
set_option maxRecDepth 100000 in
theorem kX7_column (l : Launch) (D : va_G) (cA : Nat → ClassId) (m : Nat → Nat) (m_nc : Nat) (m_nr : Nat) (m_ke : Int) (m_so : Int) (m_bu : Int) (m_bc : Int) (m_pu : Int) (m_qu : Int) (m_fs : Int) (m_cd : Int) (m_un : Int) (m_hb : Int) (m_pf : Int) (m_ef : Int) (m_kd : Nat → Int) (m_lo : Nat → Int) (m_hi : Nat → Int) (m_co : Nat → Int) (m_pa : Nat → Int) (m_rk : Nat → Int) (m_nu : Nat → Int) (m_ct : Nat → Int) (m_sa : Nat → Int) (k : Int) (v : Int) (w : Int) (hk : -2147483648 ≤ k ∧ k ≤ 2147483647) (hv : -2147483648 ≤ v ∧ v ≤ 2147483647) (hw : -2147483648 ≤ w ∧ w ≤ 2147483647) (qnc : m_nc ≤ 5) (qnr : m_nr ≤ 7) (qkd : ∀ j, 0 ≤ m_kd j ∧ m_kd j ≤ 2) (zs : ∀ r c, c < 5 → (m_nr ≤ r ∨ m_nc ≤ c) → m_sa (r * 5 + c) = 0) (zc : ∀ c, m_nc ≤ c → m_co c = 0) : CT l yX7_column wsX7_column ({ frames := 2, cells := 0, slots := 0, locals := 44 }) D cA [.ref (m 0), iv (k), iv (v), iv (w)] (wMO cA m (((m_nc : Nat) : Int)) (((m_nr : Nat) : Int)) (m_ke) (m_so) (m_bu) (m_bc) (m_pu) (m_qu) (m_fs) (m_cd) (m_un) (m_hb) (m_pf) (m_ef) ++ wMP cA m (m_kd) (m_lo) (m_hi) (m_co) (m_pa) (m_rk) (m_nu) (m_ct) (m_sa)) (fun ov ow => ov = some (iv (if (0 ≤ k ∧ k ≤ 2) ∧ fitsP k v w then (if 5 ≤ m_nc then -2000000003 else (m_nc : Int)) else -2000000001)) ∧ ow = if ((0 ≤ k ∧ k ≤ 2) ∧ fitsP k v w) ∧ m_nc < 5 then wMO cA m (((m_nc + 1 : Nat) : Int)) (((m_nr : Nat) : Int)) (m_ke) (m_so) (m_bu) (m_bc) (m_pu) (m_qu) (m_fs) (m_cd) (m_un) (m_hb) (m_pf) (m_ef) ++ wMP cA m (va_up m_kd m_nc k) (va_up m_lo m_nc (if k = 2 then 0 else v)) (va_up m_hi m_nc (if k = 2 then 1 else w)) (m_co) (va_up m_pa m_nc (-2000000005)) (m_rk) (m_nu) (m_ct) (m_sa) else wMO cA m (((m_nc : Nat) : Int)) (((m_nr : Nat) : Int)) (m_ke) (m_so) (m_bu) (m_bc) (m_pu) (m_qu) (m_fs) (m_cd) (m_un) (m_hb) (m_pf) (m_ef) ++ wMP cA m (m_kd) (m_lo) (m_hi) (m_co) (m_pa) (m_rk) (m_nu) (m_ct) (m_sa)) 0 0 := by
  refine CT.mk (cc := cX7_column) (maxL := 6) (ret := (some .int)) (by decide +kernel) rfl (Nat.le_of_ble_eq_true rfl) ?_
  intro p_ e_ s_ m_ b_ me_ c_ A F hnm hA
  have hV := @IM_P D s_ A
  have iX7 : ∀ w ∈ u_ws RX7 TX7 38, w ∈ wsX7_column := by decide +kernel
  refine g_lsub ([(0, .ref (m 0)), (1, iv (k)), (2, iv (v)), (3, iv (w))]) [0, 1, 2, 3] rfl ?_
  refine g_iload_n F 1 rfl rfl dX7_column_0 ?_
  refine g_iconst F dX7_column_1 ?_
  refine g_iconst F dX7_column_2 ?_
  refine g_callRS F hV (As := [iv (k), iv (0), iv (2)]) (rest := []) (kX7_isIn l D cA k 0 2 (by omega) (by omega) (by omega)) (va_cwS 3 F.2.2.2.2.1 gX7_column_X7_isIn rfl rfl rfl (by decide +kernel) ⟨Nat.le_of_ble_eq_true rfl, Nat.le_of_ble_eq_true rfl⟩) [] rfl rfl rfl (Nat.le_of_ble_eq_true rfl) ⟨Nat.le_of_ble_eq_true rfl, Nat.le_of_ble_eq_true rfl⟩ dX7_column_3 (fun v hv => ?_)
  subst hv
  refine g_eq (st' := [iv (if 0 ≤ k ∧ k ≤ 2 then 1 else 0)]) rfl rfl rfl ?_
  refine g_ifb_eq F (tgt := 23) dX7_column_6 (by decide) (fun c_1 => ?_) (fun c_1 => ?_)
  · skip
    refine g_ldc F (-2000000001) (by decide) (List.mem_of_getElem? (i := 1) rfl) dX7_column_23 ?_
    exact g_zret F rfl rfl (by decide) (by decide) ⟨congrArg (fun z => some (iv z)) (show (-2000000001 : Int) = if (0 ≤ k ∧ k ≤ 2) ∧ fitsP k v w then (if 5 ≤ m_nc then -2000000003 else (m_nc : Int)) else -2000000001 by first | (rw [if_neg (fun z => absurd z.1 (by omega))]; done) | (rw [if_neg (fun z => absurd z.2 (by assumption))]; done) | (rw [if_pos ⟨by omega, (show fitsP k v w from by first | assumption | (unfold fitsP; omega))⟩, if_pos (by omega)]; done) | (rw [if_pos ⟨by omega, (show fitsP k v w from by first | assumption | (unfold fitsP; omega))⟩, if_neg (by omega)]; done)), (by first | (rw [if_neg (show ¬ (((0 ≤ k ∧ k ≤ 2) ∧ fitsP k v w) ∧ m_nc < 5) from fun z => absurd z.1.1 (by omega))]; done) | (rw [if_neg (show ¬ (((0 ≤ k ∧ k ≤ 2) ∧ fitsP k v w) ∧ m_nc < 5) from fun z => absurd z.1.2 (by assumption))]; done) | (rw [if_neg (show ¬ (((0 ≤ k ∧ k ≤ 2) ∧ fitsP k v w) ∧ m_nc < 5) from fun z => absurd z.2 (by omega))]; done))⟩ dX7_column_25
  · skip
    refine g_iload_n F 1 rfl rfl dX7_column_9 ?_
    refine g_iconst F dX7_column_10 ?_
    refine g_icmp_ge F (tgt := 26) dX7_column_11 (by decide) ⟨by omega, by omega⟩ ⟨by decide, by decide⟩ (fun c_2 => ?_) (fun c_2 => ?_)
    · skip
      refine g_aload_n F 0 rfl rfl dX7_column_26 ?_
      refine g_get F hV iX7 0 rfl rfl 0 (by decide) (List.mem_of_getElem? (i := 2) rfl) rfl dX7_column_27 ?_
      refine g_iconst F dX7_column_30 ?_
      refine g_icmp_ne F (tgt := 37) dX7_column_31 (by decide) ⟨by omega, by omega⟩ ⟨by decide, by decide⟩ (fun c_3 => ?_) (fun c_3 => ?_)
      · skip
        refine g_aload_n F 0 rfl rfl dX7_column_37 ?_
        refine g_get F hV iX7 0 rfl rfl 0 (by decide) (List.mem_of_getElem? (i := 2) rfl) rfl dX7_column_38 ?_
        refine g_istore F ([(4, iv (((m_nc : Nat) : Int))), (0, .ref (m 0)), (1, iv (k)), (2, iv (v)), (3, iv (w))]) rfl (by decide) dX7_column_41 ?_
        refine g_aload_n F 1 rfl rfl dX7_column_43 ?_
        refine g_dup F rfl dX7_column_44 ?_
        refine g_get F hV iX7 0 rfl rfl 0 (by decide) (List.mem_of_getElem? (i := 2) rfl) rfl dX7_column_45 ?_
        refine g_iconst F dX7_column_48 ?_
        refine g_iadd F dX7_column_49 ?_
        refine g_put F iX7 tyX7 tyX7_ok nmX7 0 rfl rfl 0 (by decide) (List.mem_of_getElem? (i := 2) rfl) rfl rfl rfl (Nat.le_of_ble_eq_true rfl) (wMO cA m ((((m_nc : Nat) : Int)) + 1) (((m_nr : Nat) : Int)) (m_ke) (m_so) (m_bu) (m_bc) (m_pu) (m_qu) (m_fs) (m_cd) (m_un) (m_hb) (m_pf) (m_ef) ++ wMP cA m (m_kd) (m_lo) (m_hi) (m_co) (m_pa) (m_rk) (m_nu) (m_ct) (m_sa)) rfl dX7_column_50 ?_
        refine g_aload_n F 1 rfl rfl dX7_column_53 ?_
        refine g_get F hV iX7 0 rfl rfl 1 (by decide) (List.mem_of_getElem? (i := 4) rfl) rfl dX7_column_54 ?_
        refine g_iload F 0 rfl dX7_column_57 ?_
        refine g_iload_n F 2 rfl rfl dX7_column_59 ?_
        refine g_iast F 1 rfl (m_nc) (by omega) (by omega) (by decide) (wMO cA m ((((m_nc : Nat) : Int)) + 1) (((m_nr : Nat) : Int)) (m_ke) (m_so) (m_bu) (m_bc) (m_pu) (m_qu) (m_fs) (m_cd) (m_un) (m_hb) (m_pf) (m_ef) ++ wMP cA m (va_up m_kd m_nc k) (m_lo) (m_hi) (m_co) (m_pa) (m_rk) (m_nu) (m_ct) (m_sa)) rfl dX7_column_60 ?_
        refine g_aload_n F 1 rfl rfl dX7_column_61 ?_
        refine g_get F hV iX7 0 rfl rfl 2 (by decide) (List.mem_of_getElem? (i := 5) rfl) rfl dX7_column_62 ?_
        refine g_iload F 0 rfl dX7_column_65 ?_
        refine g_iload_n F 2 rfl rfl dX7_column_67 ?_
        refine g_iconst F dX7_column_68 ?_
        refine g_icmp_ne F (tgt := 76) dX7_column_69 (by decide) ⟨by omega, by omega⟩ ⟨by decide, by decide⟩ (fun c_4 => ?_) (fun c_4 => ?_)
        · skip
          refine g_iload_n F 3 rfl rfl dX7_column_76 ?_
          refine g_iast F 2 rfl (m_nc) (by omega) (by omega) (by decide) (wMO cA m ((((m_nc : Nat) : Int)) + 1) (((m_nr : Nat) : Int)) (m_ke) (m_so) (m_bu) (m_bc) (m_pu) (m_qu) (m_fs) (m_cd) (m_un) (m_hb) (m_pf) (m_ef) ++ wMP cA m (va_up m_kd m_nc k) (va_up m_lo m_nc v) (m_hi) (m_co) (m_pa) (m_rk) (m_nu) (m_ct) (m_sa)) rfl dX7_column_77 ?_
          refine g_aload_n F 1 rfl rfl dX7_column_78 ?_
          refine g_get F hV iX7 0 rfl rfl 3 (by decide) (List.mem_of_getElem? (i := 6) rfl) rfl dX7_column_79 ?_
          refine g_iload F 0 rfl dX7_column_82 ?_
          refine g_iload_n F 2 rfl rfl dX7_column_84 ?_
          refine g_iconst F dX7_column_85 ?_
          refine g_icmp_ne F (tgt := 93) dX7_column_86 (by decide) ⟨by omega, by omega⟩ ⟨by decide, by decide⟩ (fun c_5 => ?_) (fun c_5 => ?_)
          · skip
            refine g_iload_n F 4 rfl rfl dX7_column_93 ?_
            refine g_iast F 3 rfl (m_nc) (by omega) (by omega) (by decide) (wMO cA m ((((m_nc : Nat) : Int)) + 1) (((m_nr : Nat) : Int)) (m_ke) (m_so) (m_bu) (m_bc) (m_pu) (m_qu) (m_fs) (m_cd) (m_un) (m_hb) (m_pf) (m_ef) ++ wMP cA m (va_up m_kd m_nc k) (va_up m_lo m_nc v) (va_up m_hi m_nc w) (m_co) (m_pa) (m_rk) (m_nu) (m_ct) (m_sa)) rfl dX7_column_94 ?_
            refine g_aload_n F 1 rfl rfl dX7_column_95 ?_
            refine g_get F hV iX7 0 rfl rfl 4 (by decide) (List.mem_of_getElem? (i := 7) rfl) rfl dX7_column_96 ?_
            refine g_iload F 0 rfl dX7_column_99 ?_
            refine g_iconst F dX7_column_101 ?_
            refine g_iast F 4 rfl (m_nc) (by omega) (by omega) (by decide) (wMO cA m ((((m_nc : Nat) : Int)) + 1) (((m_nr : Nat) : Int)) (m_ke) (m_so) (m_bu) (m_bc) (m_pu) (m_qu) (m_fs) (m_cd) (m_un) (m_hb) (m_pf) (m_ef) ++ wMP cA m (va_up m_kd m_nc k) (va_up m_lo m_nc v) (va_up m_hi m_nc w) (va_up m_co m_nc 0) (m_pa) (m_rk) (m_nu) (m_ct) (m_sa)) rfl dX7_column_102 ?_
            refine g_aload_n F 1 rfl rfl dX7_column_103 ?_
            refine g_get F hV iX7 0 rfl rfl 5 (by decide) (List.mem_of_getElem? (i := 8) rfl) rfl dX7_column_104 ?_
            refine g_iload F 0 rfl dX7_column_107 ?_
            refine g_ldc F (-2000000005) (by decide) (List.mem_of_getElem? (i := 9) rfl) dX7_column_109 ?_
            refine g_iast F 5 rfl (m_nc) (by omega) (by omega) (by decide) (wMO cA m ((((m_nc : Nat) : Int)) + 1) (((m_nr : Nat) : Int)) (m_ke) (m_so) (m_bu) (m_bc) (m_pu) (m_qu) (m_fs) (m_cd) (m_un) (m_hb) (m_pf) (m_ef) ++ wMP cA m (va_up m_kd m_nc k) (va_up m_lo m_nc v) (va_up m_hi m_nc w) (va_up m_co m_nc 0) (va_up m_pa m_nc (-2000000005)) (m_rk) (m_nu) (m_ct) (m_sa)) rfl dX7_column_111 ?_
            refine g_iconst F dX7_column_112 ?_
            refine g_istore F ([(5, iv (0)), (4, iv (((m_nc : Nat) : Int))), (0, .ref (m 0)), (1, iv (k)), (2, iv (v)), (3, iv (w))]) rfl (by decide) dX7_column_113 ?_
            have lp115 : ∀ (n : Nat) (r : Nat) (sx : Nat → Int) (hr : r ≤ 7) (hsx : m_sa = sx), 7 - r < n → GW p_ l e_ (headSpec wsX7_column ({ frames := 2, cells := 0, slots := 0, locals := 44 })).room s_ m_ ([.ref (m 0), iv (k), iv (v), iv (w)]).toArray b_ me_ c_ (MQ b_ (Qm D (fun ov ow => ov = some (iv (if (0 ≤ k ∧ k ≤ 2) ∧ fitsP k v w then (if 5 ≤ m_nc then -2000000003 else (m_nc : Int)) else -2000000001)) ∧ ow = if ((0 ≤ k ∧ k ≤ 2) ∧ fitsP k v w) ∧ m_nc < 5 then wMO cA m (((m_nc + 1 : Nat) : Int)) (((m_nr : Nat) : Int)) (m_ke) (m_so) (m_bu) (m_bc) (m_pu) (m_qu) (m_fs) (m_cd) (m_un) (m_hb) (m_pf) (m_ef) ++ wMP cA m (va_up m_kd m_nc k) (va_up m_lo m_nc (if k = 2 then 0 else v)) (va_up m_hi m_nc (if k = 2 then 1 else w)) (m_co) (va_up m_pa m_nc (-2000000005)) (m_rk) (m_nu) (m_ct) (m_sa) else wMO cA m (((m_nc : Nat) : Int)) (((m_nr : Nat) : Int)) (m_ke) (m_so) (m_bu) (m_bc) (m_pu) (m_qu) (m_fs) (m_cd) (m_un) (m_hb) (m_pf) (m_ef) ++ wMP cA m (m_kd) (m_lo) (m_hi) (m_co) (m_pa) (m_rk) (m_nu) (m_ct) (m_sa)) A) ([.ref (m 0), iv (k), iv (v), iv (w)]).toArray s_ 0 0 A) (IM D s_ A) 6 0 0 (wMO cA m ((((m_nc : Nat) : Int)) + 1) (((m_nr : Nat) : Int)) (m_ke) (m_so) (m_bu) (m_bc) (m_pu) (m_qu) (m_fs) (m_cd) (m_un) (m_hb) (m_pf) (m_ef) ++ wMP cA m (va_up m_kd m_nc k) (va_up m_lo m_nc v) (va_up m_hi m_nc w) (va_up m_co m_nc 0) (va_up m_pa m_nc (-2000000005)) (m_rk) (m_nu) (m_ct) (sx)) ([(0, .ref (m 0)), (1, iv (k)), (2, iv (v)), (3, iv (w)), (4, iv (((m_nc : Nat) : Int))), (5, iv (((r : Nat) : Int)))]) [] 115 := by
              intro n; induction n with
              | zero => intro r sx; intros; omega
              | succ n ih115 =>
                intro r sx hr hsx hmu115
                subst hsx
                refine g_iload F 5 rfl dX7_column_115 ?_
                refine g_bipush F dX7_column_117 (by decide) ?_
                refine g_icmp_ge F (tgt := 141) dX7_column_119 (by decide) ⟨by omega, by omega⟩ ⟨by decide, by decide⟩ (fun c_6 => ?_) (fun c_6 => ?_)
                · skip
                  refine g_iload F 4 rfl dX7_column_141 ?_
                  exact g_zret F rfl rfl (by decide) (by decide) ⟨congrArg (fun z => some (iv z)) (show (((m_nc : Nat) : Int) : Int) = if (0 ≤ k ∧ k ≤ 2) ∧ fitsP k v w then (if 5 ≤ m_nc then -2000000003 else (m_nc : Int)) else -2000000001 by first | (rw [if_neg (fun z => absurd z.1 (by omega))]; done) | (rw [if_neg (fun z => absurd z.2 (by assumption))]; done) | (rw [if_pos ⟨by omega, (show fitsP k v w from by first | assumption | (unfold fitsP; omega))⟩, if_pos (by omega)]; done) | (rw [if_pos ⟨by omega, (show fitsP k v w from by first | assumption | (unfold fitsP; omega))⟩, if_neg (by omega)]; done)), (by rw [if_pos (show ((0 ≤ k ∧ k ≤ 2) ∧ fitsP k v w) ∧ m_nc < 5 from ⟨⟨by omega, (show fitsP k v w from by first | assumption | (unfold fitsP; omega))⟩, by omega⟩), up_0 (zc m_nc (Nat.le_refl _))]; first | (rw [if_pos (by omega), if_pos (by omega)] <;> rfl) | (rw [if_neg (by omega), if_neg (by omega)] <;> rfl))⟩ dX7_column_143
                · skip
                  refine g_aload_n F 0 rfl rfl dX7_column_122 ?_
                  refine g_get F hV iX7 0 rfl rfl 10 (by decide) (List.mem_of_getElem? (i := 10) rfl) rfl dX7_column_123 ?_
                  refine g_iconst F dX7_column_126 ?_
                  refine g_iload F 5 rfl dX7_column_127 ?_
                  refine g_imul F dX7_column_129 ?_
                  refine g_iload F 4 rfl dX7_column_130 ?_
                  refine g_iadd F dX7_column_132 ?_
                  refine g_iconst F dX7_column_133 ?_
                  refine g_iast F 9 rfl (r * 5 + m_nc) (by omega) (by omega) (by decide) (wMO cA m ((((m_nc : Nat) : Int)) + 1) (((m_nr : Nat) : Int)) (m_ke) (m_so) (m_bu) (m_bc) (m_pu) (m_qu) (m_fs) (m_cd) (m_un) (m_hb) (m_pf) (m_ef) ++ wMP cA m (va_up m_kd m_nc k) (va_up m_lo m_nc v) (va_up m_hi m_nc w) (va_up m_co m_nc 0) (va_up m_pa m_nc (-2000000005)) (m_rk) (m_nu) (m_ct) (va_up m_sa (r * 5 + m_nc) 0)) rfl dX7_column_134 ?_
                  refine g_iinc F 5 rfl ([(5, iv ((((r : Nat) : Int)) + 1)), (0, .ref (m 0)), (1, iv (k)), (2, iv (v)), (3, iv (w)), (4, iv (((m_nc : Nat) : Int)))]) rfl (by decide) dX7_column_135 ?_
                  refine g_goto F (tgt := 115) dX7_column_138 (by decide) ?_
                  refine g_lsub ([(0, .ref (m 0)), (1, iv (k)), (2, iv (v)), (3, iv (w)), (4, iv (((m_nc : Nat) : Int))), (5, iv ((((r : Nat) : Int)) + 1))]) [1, 2, 3, 4, 5, 0] rfl ?_
                  exact ih115 (r + 1) (va_up m_sa (r * 5 + m_nc) 0) (by omega) (up_0 (zs r m_nc (by omega) (Or.inr (Nat.le_refl _)))).symm (by omega)
            refine g_lsub ([(0, .ref (m 0)), (1, iv (k)), (2, iv (v)), (3, iv (w)), (4, iv (((m_nc : Nat) : Int))), (5, iv (0))]) [2, 3, 4, 5, 1, 0] rfl ?_
            exact lp115 (_ + 1) 0 m_sa (by omega) (rfl) (Nat.lt_succ_self _)
          · skip
            exfalso; omega
        · skip
          refine g_iconst F dX7_column_72 ?_
          refine g_goto F (tgt := 77) dX7_column_73 (by decide) ?_
          refine g_iast F 2 rfl (m_nc) (by omega) (by omega) (by decide) (wMO cA m ((((m_nc : Nat) : Int)) + 1) (((m_nr : Nat) : Int)) (m_ke) (m_so) (m_bu) (m_bc) (m_pu) (m_qu) (m_fs) (m_cd) (m_un) (m_hb) (m_pf) (m_ef) ++ wMP cA m (va_up m_kd m_nc k) (va_up m_lo m_nc 0) (m_hi) (m_co) (m_pa) (m_rk) (m_nu) (m_ct) (m_sa)) rfl dX7_column_77 ?_
          refine g_aload_n F 1 rfl rfl dX7_column_78 ?_
          refine g_get F hV iX7 0 rfl rfl 3 (by decide) (List.mem_of_getElem? (i := 6) rfl) rfl dX7_column_79 ?_
          refine g_iload F 0 rfl dX7_column_82 ?_
          refine g_iload_n F 2 rfl rfl dX7_column_84 ?_
          refine g_iconst F dX7_column_85 ?_
          refine g_icmp_ne F (tgt := 93) dX7_column_86 (by decide) ⟨by omega, by omega⟩ ⟨by decide, by decide⟩ (fun c_7 => ?_) (fun c_7 => ?_)
          · skip
            exfalso; omega
          · skip
            refine g_iconst F dX7_column_89 ?_
            refine g_goto F (tgt := 94) dX7_column_90 (by decide) ?_
            refine g_iast F 3 rfl (m_nc) (by omega) (by omega) (by decide) (wMO cA m ((((m_nc : Nat) : Int)) + 1) (((m_nr : Nat) : Int)) (m_ke) (m_so) (m_bu) (m_bc) (m_pu) (m_qu) (m_fs) (m_cd) (m_un) (m_hb) (m_pf) (m_ef) ++ wMP cA m (va_up m_kd m_nc k) (va_up m_lo m_nc 0) (va_up m_hi m_nc 1) (m_co) (m_pa) (m_rk) (m_nu) (m_ct) (m_sa)) rfl dX7_column_94 ?_
            refine g_aload_n F 1 rfl rfl dX7_column_95 ?_
            refine g_get F hV iX7 0 rfl rfl 4 (by decide) (List.mem_of_getElem? (i := 7) rfl) rfl dX7_column_96 ?_
            refine g_iload F 0 rfl dX7_column_99 ?_
            refine g_iconst F dX7_column_101 ?_
            refine g_iast F 4 rfl (m_nc) (by omega) (by omega) (by decide) (wMO cA m ((((m_nc : Nat) : Int)) + 1) (((m_nr : Nat) : Int)) (m_ke) (m_so) (m_bu) (m_bc) (m_pu) (m_qu) (m_fs) (m_cd) (m_un) (m_hb) (m_pf) (m_ef) ++ wMP cA m (va_up m_kd m_nc k) (va_up m_lo m_nc 0) (va_up m_hi m_nc 1) (va_up m_co m_nc 0) (m_pa) (m_rk) (m_nu) (m_ct) (m_sa)) rfl dX7_column_102 ?_
            refine g_aload_n F 1 rfl rfl dX7_column_103 ?_
            refine g_get F hV iX7 0 rfl rfl 5 (by decide) (List.mem_of_getElem? (i := 8) rfl) rfl dX7_column_104 ?_
            refine g_iload F 0 rfl dX7_column_107 ?_
            refine g_ldc F (-2000000005) (by decide) (List.mem_of_getElem? (i := 9) rfl) dX7_column_109 ?_
            refine g_iast F 5 rfl (m_nc) (by omega) (by omega) (by decide) (wMO cA m ((((m_nc : Nat) : Int)) + 1) (((m_nr : Nat) : Int)) (m_ke) (m_so) (m_bu) (m_bc) (m_pu) (m_qu) (m_fs) (m_cd) (m_un) (m_hb) (m_pf) (m_ef) ++ wMP cA m (va_up m_kd m_nc k) (va_up m_lo m_nc 0) (va_up m_hi m_nc 1) (va_up m_co m_nc 0) (va_up m_pa m_nc (-2000000005)) (m_rk) (m_nu) (m_ct) (m_sa)) rfl dX7_column_111 ?_
            refine g_iconst F dX7_column_112 ?_
            refine g_istore F ([(5, iv (0)), (4, iv (((m_nc : Nat) : Int))), (0, .ref (m 0)), (1, iv (k)), (2, iv (v)), (3, iv (w))]) rfl (by decide) dX7_column_113 ?_
            have lp115 : ∀ (n : Nat) (r : Nat) (sx : Nat → Int) (hr : r ≤ 7) (hsx : m_sa = sx), 7 - r < n → GW p_ l e_ (headSpec wsX7_column ({ frames := 2, cells := 0, slots := 0, locals := 44 })).room s_ m_ ([.ref (m 0), iv (k), iv (v), iv (w)]).toArray b_ me_ c_ (MQ b_ (Qm D (fun ov ow => ov = some (iv (if (0 ≤ k ∧ k ≤ 2) ∧ fitsP k v w then (if 5 ≤ m_nc then -2000000003 else (m_nc : Int)) else -2000000001)) ∧ ow = if ((0 ≤ k ∧ k ≤ 2) ∧ fitsP k v w) ∧ m_nc < 5 then wMO cA m (((m_nc + 1 : Nat) : Int)) (((m_nr : Nat) : Int)) (m_ke) (m_so) (m_bu) (m_bc) (m_pu) (m_qu) (m_fs) (m_cd) (m_un) (m_hb) (m_pf) (m_ef) ++ wMP cA m (va_up m_kd m_nc k) (va_up m_lo m_nc (if k = 2 then 0 else v)) (va_up m_hi m_nc (if k = 2 then 1 else w)) (m_co) (va_up m_pa m_nc (-2000000005)) (m_rk) (m_nu) (m_ct) (m_sa) else wMO cA m (((m_nc : Nat) : Int)) (((m_nr : Nat) : Int)) (m_ke) (m_so) (m_bu) (m_bc) (m_pu) (m_qu) (m_fs) (m_cd) (m_un) (m_hb) (m_pf) (m_ef) ++ wMP cA m (m_kd) (m_lo) (m_hi) (m_co) (m_pa) (m_rk) (m_nu) (m_ct) (m_sa)) A) ([.ref (m 0), iv (k), iv (v), iv (w)]).toArray s_ 0 0 A) (IM D s_ A) 6 0 0 (wMO cA m ((((m_nc : Nat) : Int)) + 1) (((m_nr : Nat) : Int)) (m_ke) (m_so) (m_bu) (m_bc) (m_pu) (m_qu) (m_fs) (m_cd) (m_un) (m_hb) (m_pf) (m_ef) ++ wMP cA m (va_up m_kd m_nc k) (va_up m_lo m_nc 0) (va_up m_hi m_nc 1) (va_up m_co m_nc 0) (va_up m_pa m_nc (-2000000005)) (m_rk) (m_nu) (m_ct) (sx)) ([(0, .ref (m 0)), (1, iv (k)), (2, iv (v)), (3, iv (w)), (4, iv (((m_nc : Nat) : Int))), (5, iv (((r : Nat) : Int)))]) [] 115 := by
              intro n; induction n with
              | zero => intro r sx; intros; omega
              | succ n ih115 =>
                intro r sx hr hsx hmu115
                subst hsx
                refine g_iload F 5 rfl dX7_column_115 ?_
                refine g_bipush F dX7_column_117 (by decide) ?_
                refine g_icmp_ge F (tgt := 141) dX7_column_119 (by decide) ⟨by omega, by omega⟩ ⟨by decide, by decide⟩ (fun c_8 => ?_) (fun c_8 => ?_)
                · skip
                  refine g_iload F 4 rfl dX7_column_141 ?_
                  exact g_zret F rfl rfl (by decide) (by decide) ⟨congrArg (fun z => some (iv z)) (show (((m_nc : Nat) : Int) : Int) = if (0 ≤ k ∧ k ≤ 2) ∧ fitsP k v w then (if 5 ≤ m_nc then -2000000003 else (m_nc : Int)) else -2000000001 by first | (rw [if_neg (fun z => absurd z.1 (by omega))]; done) | (rw [if_neg (fun z => absurd z.2 (by assumption))]; done) | (rw [if_pos ⟨by omega, (show fitsP k v w from by first | assumption | (unfold fitsP; omega))⟩, if_pos (by omega)]; done) | (rw [if_pos ⟨by omega, (show fitsP k v w from by first | assumption | (unfold fitsP; omega))⟩, if_neg (by omega)]; done)), (by rw [if_pos (show ((0 ≤ k ∧ k ≤ 2) ∧ fitsP k v w) ∧ m_nc < 5 from ⟨⟨by omega, (show fitsP k v w from by first | assumption | (unfold fitsP; omega))⟩, by omega⟩), up_0 (zc m_nc (Nat.le_refl _))]; first | (rw [if_pos (by omega), if_pos (by omega)] <;> rfl) | (rw [if_neg (by omega), if_neg (by omega)] <;> rfl))⟩ dX7_column_143
                · skip
                  refine g_aload_n F 0 rfl rfl dX7_column_122 ?_
                  refine g_get F hV iX7 0 rfl rfl 10 (by decide) (List.mem_of_getElem? (i := 10) rfl) rfl dX7_column_123 ?_
                  refine g_iconst F dX7_column_126 ?_
                  refine g_iload F 5 rfl dX7_column_127 ?_
                  refine g_imul F dX7_column_129 ?_
                  refine g_iload F 4 rfl dX7_column_130 ?_
                  refine g_iadd F dX7_column_132 ?_
                  refine g_iconst F dX7_column_133 ?_
                  refine g_iast F 9 rfl (r * 5 + m_nc) (by omega) (by omega) (by decide) (wMO cA m ((((m_nc : Nat) : Int)) + 1) (((m_nr : Nat) : Int)) (m_ke) (m_so) (m_bu) (m_bc) (m_pu) (m_qu) (m_fs) (m_cd) (m_un) (m_hb) (m_pf) (m_ef) ++ wMP cA m (va_up m_kd m_nc k) (va_up m_lo m_nc 0) (va_up m_hi m_nc 1) (va_up m_co m_nc 0) (va_up m_pa m_nc (-2000000005)) (m_rk) (m_nu) (m_ct) (va_up m_sa (r * 5 + m_nc) 0)) rfl dX7_column_134 ?_
                  refine g_iinc F 5 rfl ([(5, iv ((((r : Nat) : Int)) + 1)), (0, .ref (m 0)), (1, iv (k)), (2, iv (v)), (3, iv (w)), (4, iv (((m_nc : Nat) : Int)))]) rfl (by decide) dX7_column_135 ?_
                  refine g_goto F (tgt := 115) dX7_column_138 (by decide) ?_
                  refine g_lsub ([(0, .ref (m 0)), (1, iv (k)), (2, iv (v)), (3, iv (w)), (4, iv (((m_nc : Nat) : Int))), (5, iv ((((r : Nat) : Int)) + 1))]) [1, 2, 3, 4, 5, 0] rfl ?_
                  exact ih115 (r + 1) (va_up m_sa (r * 5 + m_nc) 0) (by omega) (up_0 (zs r m_nc (by omega) (Or.inr (Nat.le_refl _)))).symm (by omega)
            refine g_lsub ([(0, .ref (m 0)), (1, iv (k)), (2, iv (v)), (3, iv (w)), (4, iv (((m_nc : Nat) : Int))), (5, iv (0))]) [2, 3, 4, 5, 1, 0] rfl ?_
            exact lp115 (_ + 1) 0 m_sa (by omega) (rfl) (Nat.lt_succ_self _)
      · skip
        refine g_ldc F (-2000000003) (by decide) (List.mem_of_getElem? (i := 3) rfl) dX7_column_34 ?_
        exact g_zret F rfl rfl (by decide) (by decide) ⟨congrArg (fun z => some (iv z)) (show (-2000000003 : Int) = if (0 ≤ k ∧ k ≤ 2) ∧ fitsP k v w then (if 5 ≤ m_nc then -2000000003 else (m_nc : Int)) else -2000000001 by first | (rw [if_neg (fun z => absurd z.1 (by omega))]; done) | (rw [if_neg (fun z => absurd z.2 (by assumption))]; done) | (rw [if_pos ⟨by omega, (show fitsP k v w from by first | assumption | (unfold fitsP; omega))⟩, if_pos (by omega)]; done) | (rw [if_pos ⟨by omega, (show fitsP k v w from by first | assumption | (unfold fitsP; omega))⟩, if_neg (by omega)]; done)), (by first | (rw [if_neg (show ¬ (((0 ≤ k ∧ k ≤ 2) ∧ fitsP k v w) ∧ m_nc < 5) from fun z => absurd z.1.1 (by omega))]; done) | (rw [if_neg (show ¬ (((0 ≤ k ∧ k ≤ 2) ∧ fitsP k v w) ∧ m_nc < 5) from fun z => absurd z.1.2 (by assumption))]; done) | (rw [if_neg (show ¬ (((0 ≤ k ∧ k ≤ 2) ∧ fitsP k v w) ∧ m_nc < 5) from fun z => absurd z.2 (by omega))]; done))⟩ dX7_column_36
    · skip
      refine g_iload_n F 1 rfl rfl dX7_column_14 ?_
      refine g_iload_n F 2 rfl rfl dX7_column_15 ?_
      refine g_iload_n F 3 rfl rfl dX7_column_16 ?_
      refine g_callRS F hV (As := [iv (k), iv (v), iv (w)]) (rest := []) (kX7_areBounds l D cA k v w (by omega) (by omega) (by omega)) (va_cwS 3 F.2.2.2.2.1 gX7_column_X7_areBounds rfl rfl rfl (by decide +kernel) ⟨Nat.le_of_ble_eq_true rfl, Nat.le_of_ble_eq_true rfl⟩) [] rfl rfl rfl (Nat.le_of_ble_eq_true rfl) ⟨Nat.le_of_ble_eq_true rfl, Nat.le_of_ble_eq_true rfl⟩ dX7_column_17 (fun v hv => ?_)
      subst hv
      refine g_eq (st' := [iv (if fitsP k v w then 1 else 0)]) rfl rfl rfl ?_
      refine g_ifb_ne F (tgt := 26) dX7_column_20 (by decide) (fun c_9 => ?_) (fun c_9 => ?_)
      · skip
        refine g_aload_n F 0 rfl rfl dX7_column_26 ?_
        refine g_get F hV iX7 0 rfl rfl 0 (by decide) (List.mem_of_getElem? (i := 2) rfl) rfl dX7_column_27 ?_
        refine g_iconst F dX7_column_30 ?_
        refine g_icmp_ne F (tgt := 37) dX7_column_31 (by decide) ⟨by omega, by omega⟩ ⟨by decide, by decide⟩ (fun c_10 => ?_) (fun c_10 => ?_)
        · skip
          refine g_aload_n F 0 rfl rfl dX7_column_37 ?_
          refine g_get F hV iX7 0 rfl rfl 0 (by decide) (List.mem_of_getElem? (i := 2) rfl) rfl dX7_column_38 ?_
          refine g_istore F ([(4, iv (((m_nc : Nat) : Int))), (0, .ref (m 0)), (1, iv (k)), (2, iv (v)), (3, iv (w))]) rfl (by decide) dX7_column_41 ?_
          refine g_aload_n F 1 rfl rfl dX7_column_43 ?_
          refine g_dup F rfl dX7_column_44 ?_
          refine g_get F hV iX7 0 rfl rfl 0 (by decide) (List.mem_of_getElem? (i := 2) rfl) rfl dX7_column_45 ?_
          refine g_iconst F dX7_column_48 ?_
          refine g_iadd F dX7_column_49 ?_
          refine g_put F iX7 tyX7 tyX7_ok nmX7 0 rfl rfl 0 (by decide) (List.mem_of_getElem? (i := 2) rfl) rfl rfl rfl (Nat.le_of_ble_eq_true rfl) (wMO cA m ((((m_nc : Nat) : Int)) + 1) (((m_nr : Nat) : Int)) (m_ke) (m_so) (m_bu) (m_bc) (m_pu) (m_qu) (m_fs) (m_cd) (m_un) (m_hb) (m_pf) (m_ef) ++ wMP cA m (m_kd) (m_lo) (m_hi) (m_co) (m_pa) (m_rk) (m_nu) (m_ct) (m_sa)) rfl dX7_column_50 ?_
          refine g_aload_n F 1 rfl rfl dX7_column_53 ?_
          refine g_get F hV iX7 0 rfl rfl 1 (by decide) (List.mem_of_getElem? (i := 4) rfl) rfl dX7_column_54 ?_
          refine g_iload F 0 rfl dX7_column_57 ?_
          refine g_iload_n F 2 rfl rfl dX7_column_59 ?_
          refine g_iast F 1 rfl (m_nc) (by omega) (by omega) (by decide) (wMO cA m ((((m_nc : Nat) : Int)) + 1) (((m_nr : Nat) : Int)) (m_ke) (m_so) (m_bu) (m_bc) (m_pu) (m_qu) (m_fs) (m_cd) (m_un) (m_hb) (m_pf) (m_ef) ++ wMP cA m (va_up m_kd m_nc k) (m_lo) (m_hi) (m_co) (m_pa) (m_rk) (m_nu) (m_ct) (m_sa)) rfl dX7_column_60 ?_
          refine g_aload_n F 1 rfl rfl dX7_column_61 ?_
          refine g_get F hV iX7 0 rfl rfl 2 (by decide) (List.mem_of_getElem? (i := 5) rfl) rfl dX7_column_62 ?_
          refine g_iload F 0 rfl dX7_column_65 ?_
          refine g_iload_n F 2 rfl rfl dX7_column_67 ?_
          refine g_iconst F dX7_column_68 ?_
          refine g_icmp_ne F (tgt := 76) dX7_column_69 (by decide) ⟨by omega, by omega⟩ ⟨by decide, by decide⟩ (fun c_11 => ?_) (fun c_11 => ?_)
          · skip
            refine g_iload_n F 3 rfl rfl dX7_column_76 ?_
            refine g_iast F 2 rfl (m_nc) (by omega) (by omega) (by decide) (wMO cA m ((((m_nc : Nat) : Int)) + 1) (((m_nr : Nat) : Int)) (m_ke) (m_so) (m_bu) (m_bc) (m_pu) (m_qu) (m_fs) (m_cd) (m_un) (m_hb) (m_pf) (m_ef) ++ wMP cA m (va_up m_kd m_nc k) (va_up m_lo m_nc v) (m_hi) (m_co) (m_pa) (m_rk) (m_nu) (m_ct) (m_sa)) rfl dX7_column_77 ?_
            refine g_aload_n F 1 rfl rfl dX7_column_78 ?_
            refine g_get F hV iX7 0 rfl rfl 3 (by decide) (List.mem_of_getElem? (i := 6) rfl) rfl dX7_column_79 ?_
            refine g_iload F 0 rfl dX7_column_82 ?_
            refine g_iload_n F 2 rfl rfl dX7_column_84 ?_
            refine g_iconst F dX7_column_85 ?_
            refine g_icmp_ne F (tgt := 93) dX7_column_86 (by decide) ⟨by omega, by omega⟩ ⟨by decide, by decide⟩ (fun c_12 => ?_) (fun c_12 => ?_)
            · skip
              refine g_iload_n F 4 rfl rfl dX7_column_93 ?_
              refine g_iast F 3 rfl (m_nc) (by omega) (by omega) (by decide) (wMO cA m ((((m_nc : Nat) : Int)) + 1) (((m_nr : Nat) : Int)) (m_ke) (m_so) (m_bu) (m_bc) (m_pu) (m_qu) (m_fs) (m_cd) (m_un) (m_hb) (m_pf) (m_ef) ++ wMP cA m (va_up m_kd m_nc k) (va_up m_lo m_nc v) (va_up m_hi m_nc w) (m_co) (m_pa) (m_rk) (m_nu) (m_ct) (m_sa)) rfl dX7_column_94 ?_
              refine g_aload_n F 1 rfl rfl dX7_column_95 ?_
              refine g_get F hV iX7 0 rfl rfl 4 (by decide) (List.mem_of_getElem? (i := 7) rfl) rfl dX7_column_96 ?_
              refine g_iload F 0 rfl dX7_column_99 ?_
              refine g_iconst F dX7_column_101 ?_
              refine g_iast F 4 rfl (m_nc) (by omega) (by omega) (by decide) (wMO cA m ((((m_nc : Nat) : Int)) + 1) (((m_nr : Nat) : Int)) (m_ke) (m_so) (m_bu) (m_bc) (m_pu) (m_qu) (m_fs) (m_cd) (m_un) (m_hb) (m_pf) (m_ef) ++ wMP cA m (va_up m_kd m_nc k) (va_up m_lo m_nc v) (va_up m_hi m_nc w) (va_up m_co m_nc 0) (m_pa) (m_rk) (m_nu) (m_ct) (m_sa)) rfl dX7_column_102 ?_
              refine g_aload_n F 1 rfl rfl dX7_column_103 ?_
              refine g_get F hV iX7 0 rfl rfl 5 (by decide) (List.mem_of_getElem? (i := 8) rfl) rfl dX7_column_104 ?_
              refine g_iload F 0 rfl dX7_column_107 ?_
              refine g_ldc F (-2000000005) (by decide) (List.mem_of_getElem? (i := 9) rfl) dX7_column_109 ?_
              refine g_iast F 5 rfl (m_nc) (by omega) (by omega) (by decide) (wMO cA m ((((m_nc : Nat) : Int)) + 1) (((m_nr : Nat) : Int)) (m_ke) (m_so) (m_bu) (m_bc) (m_pu) (m_qu) (m_fs) (m_cd) (m_un) (m_hb) (m_pf) (m_ef) ++ wMP cA m (va_up m_kd m_nc k) (va_up m_lo m_nc v) (va_up m_hi m_nc w) (va_up m_co m_nc 0) (va_up m_pa m_nc (-2000000005)) (m_rk) (m_nu) (m_ct) (m_sa)) rfl dX7_column_111 ?_
              refine g_iconst F dX7_column_112 ?_
              refine g_istore F ([(5, iv (0)), (4, iv (((m_nc : Nat) : Int))), (0, .ref (m 0)), (1, iv (k)), (2, iv (v)), (3, iv (w))]) rfl (by decide) dX7_column_113 ?_
              have lp115 : ∀ (n : Nat) (r : Nat) (sx : Nat → Int) (hr : r ≤ 7) (hsx : m_sa = sx), 7 - r < n → GW p_ l e_ (headSpec wsX7_column ({ frames := 2, cells := 0, slots := 0, locals := 44 })).room s_ m_ ([.ref (m 0), iv (k), iv (v), iv (w)]).toArray b_ me_ c_ (MQ b_ (Qm D (fun ov ow => ov = some (iv (if (0 ≤ k ∧ k ≤ 2) ∧ fitsP k v w then (if 5 ≤ m_nc then -2000000003 else (m_nc : Int)) else -2000000001)) ∧ ow = if ((0 ≤ k ∧ k ≤ 2) ∧ fitsP k v w) ∧ m_nc < 5 then wMO cA m (((m_nc + 1 : Nat) : Int)) (((m_nr : Nat) : Int)) (m_ke) (m_so) (m_bu) (m_bc) (m_pu) (m_qu) (m_fs) (m_cd) (m_un) (m_hb) (m_pf) (m_ef) ++ wMP cA m (va_up m_kd m_nc k) (va_up m_lo m_nc (if k = 2 then 0 else v)) (va_up m_hi m_nc (if k = 2 then 1 else w)) (m_co) (va_up m_pa m_nc (-2000000005)) (m_rk) (m_nu) (m_ct) (m_sa) else wMO cA m (((m_nc : Nat) : Int)) (((m_nr : Nat) : Int)) (m_ke) (m_so) (m_bu) (m_bc) (m_pu) (m_qu) (m_fs) (m_cd) (m_un) (m_hb) (m_pf) (m_ef) ++ wMP cA m (m_kd) (m_lo) (m_hi) (m_co) (m_pa) (m_rk) (m_nu) (m_ct) (m_sa)) A) ([.ref (m 0), iv (k), iv (v), iv (w)]).toArray s_ 0 0 A) (IM D s_ A) 6 0 0 (wMO cA m ((((m_nc : Nat) : Int)) + 1) (((m_nr : Nat) : Int)) (m_ke) (m_so) (m_bu) (m_bc) (m_pu) (m_qu) (m_fs) (m_cd) (m_un) (m_hb) (m_pf) (m_ef) ++ wMP cA m (va_up m_kd m_nc k) (va_up m_lo m_nc v) (va_up m_hi m_nc w) (va_up m_co m_nc 0) (va_up m_pa m_nc (-2000000005)) (m_rk) (m_nu) (m_ct) (sx)) ([(0, .ref (m 0)), (1, iv (k)), (2, iv (v)), (3, iv (w)), (4, iv (((m_nc : Nat) : Int))), (5, iv (((r : Nat) : Int)))]) [] 115 := by
                intro n; induction n with
                | zero => intro r sx; intros; omega
                | succ n ih115 =>
                  intro r sx hr hsx hmu115
                  subst hsx
                  refine g_iload F 5 rfl dX7_column_115 ?_
                  refine g_bipush F dX7_column_117 (by decide) ?_
                  refine g_icmp_ge F (tgt := 141) dX7_column_119 (by decide) ⟨by omega, by omega⟩ ⟨by decide, by decide⟩ (fun c_13 => ?_) (fun c_13 => ?_)
                  · skip
                    refine g_iload F 4 rfl dX7_column_141 ?_
                    exact g_zret F rfl rfl (by decide) (by decide) ⟨congrArg (fun z => some (iv z)) (show (((m_nc : Nat) : Int) : Int) = if (0 ≤ k ∧ k ≤ 2) ∧ fitsP k v w then (if 5 ≤ m_nc then -2000000003 else (m_nc : Int)) else -2000000001 by first | (rw [if_neg (fun z => absurd z.1 (by omega))]; done) | (rw [if_neg (fun z => absurd z.2 (by assumption))]; done) | (rw [if_pos ⟨by omega, (show fitsP k v w from by first | assumption | (unfold fitsP; omega))⟩, if_pos (by omega)]; done) | (rw [if_pos ⟨by omega, (show fitsP k v w from by first | assumption | (unfold fitsP; omega))⟩, if_neg (by omega)]; done)), (by rw [if_pos (show ((0 ≤ k ∧ k ≤ 2) ∧ fitsP k v w) ∧ m_nc < 5 from ⟨⟨by omega, (show fitsP k v w from by first | assumption | (unfold fitsP; omega))⟩, by omega⟩), up_0 (zc m_nc (Nat.le_refl _))]; first | (rw [if_pos (by omega), if_pos (by omega)] <;> rfl) | (rw [if_neg (by omega), if_neg (by omega)] <;> rfl))⟩ dX7_column_143
                  · skip
                    refine g_aload_n F 0 rfl rfl dX7_column_122 ?_
                    refine g_get F hV iX7 0 rfl rfl 10 (by decide) (List.mem_of_getElem? (i := 10) rfl) rfl dX7_column_123 ?_
                    refine g_iconst F dX7_column_126 ?_
                    refine g_iload F 5 rfl dX7_column_127 ?_
                    refine g_imul F dX7_column_129 ?_
                    refine g_iload F 4 rfl dX7_column_130 ?_
                    refine g_iadd F dX7_column_132 ?_
                    refine g_iconst F dX7_column_133 ?_
                    refine g_iast F 9 rfl (r * 5 + m_nc) (by omega) (by omega) (by decide) (wMO cA m ((((m_nc : Nat) : Int)) + 1) (((m_nr : Nat) : Int)) (m_ke) (m_so) (m_bu) (m_bc) (m_pu) (m_qu) (m_fs) (m_cd) (m_un) (m_hb) (m_pf) (m_ef) ++ wMP cA m (va_up m_kd m_nc k) (va_up m_lo m_nc v) (va_up m_hi m_nc w) (va_up m_co m_nc 0) (va_up m_pa m_nc (-2000000005)) (m_rk) (m_nu) (m_ct) (va_up m_sa (r * 5 + m_nc) 0)) rfl dX7_column_134 ?_
                    refine g_iinc F 5 rfl ([(5, iv ((((r : Nat) : Int)) + 1)), (0, .ref (m 0)), (1, iv (k)), (2, iv (v)), (3, iv (w)), (4, iv (((m_nc : Nat) : Int)))]) rfl (by decide) dX7_column_135 ?_
                    refine g_goto F (tgt := 115) dX7_column_138 (by decide) ?_
                    refine g_lsub ([(0, .ref (m 0)), (1, iv (k)), (2, iv (v)), (3, iv (w)), (4, iv (((m_nc : Nat) : Int))), (5, iv ((((r : Nat) : Int)) + 1))]) [1, 2, 3, 4, 5, 0] rfl ?_
                    exact ih115 (r + 1) (va_up m_sa (r * 5 + m_nc) 0) (by omega) (up_0 (zs r m_nc (by omega) (Or.inr (Nat.le_refl _)))).symm (by omega)
              refine g_lsub ([(0, .ref (m 0)), (1, iv (k)), (2, iv (v)), (3, iv (w)), (4, iv (((m_nc : Nat) : Int))), (5, iv (0))]) [2, 3, 4, 5, 1, 0] rfl ?_
              exact lp115 (_ + 1) 0 m_sa (by omega) (rfl) (Nat.lt_succ_self _)
            · skip
              exfalso; omega
          · skip
            refine g_iconst F dX7_column_72 ?_
            refine g_goto F (tgt := 77) dX7_column_73 (by decide) ?_
            refine g_iast F 2 rfl (m_nc) (by omega) (by omega) (by decide) (wMO cA m ((((m_nc : Nat) : Int)) + 1) (((m_nr : Nat) : Int)) (m_ke) (m_so) (m_bu) (m_bc) (m_pu) (m_qu) (m_fs) (m_cd) (m_un) (m_hb) (m_pf) (m_ef) ++ wMP cA m (va_up m_kd m_nc k) (va_up m_lo m_nc 0) (m_hi) (m_co) (m_pa) (m_rk) (m_nu) (m_ct) (m_sa)) rfl dX7_column_77 ?_
            refine g_aload_n F 1 rfl rfl dX7_column_78 ?_
            refine g_get F hV iX7 0 rfl rfl 3 (by decide) (List.mem_of_getElem? (i := 6) rfl) rfl dX7_column_79 ?_
            refine g_iload F 0 rfl dX7_column_82 ?_
            refine g_iload_n F 2 rfl rfl dX7_column_84 ?_
            refine g_iconst F dX7_column_85 ?_
            refine g_icmp_ne F (tgt := 93) dX7_column_86 (by decide) ⟨by omega, by omega⟩ ⟨by decide, by decide⟩ (fun c_14 => ?_) (fun c_14 => ?_)
            · skip
              exfalso; omega
            · skip
              refine g_iconst F dX7_column_89 ?_
              refine g_goto F (tgt := 94) dX7_column_90 (by decide) ?_
              refine g_iast F 3 rfl (m_nc) (by omega) (by omega) (by decide) (wMO cA m ((((m_nc : Nat) : Int)) + 1) (((m_nr : Nat) : Int)) (m_ke) (m_so) (m_bu) (m_bc) (m_pu) (m_qu) (m_fs) (m_cd) (m_un) (m_hb) (m_pf) (m_ef) ++ wMP cA m (va_up m_kd m_nc k) (va_up m_lo m_nc 0) (va_up m_hi m_nc 1) (m_co) (m_pa) (m_rk) (m_nu) (m_ct) (m_sa)) rfl dX7_column_94 ?_
              refine g_aload_n F 1 rfl rfl dX7_column_95 ?_
              refine g_get F hV iX7 0 rfl rfl 4 (by decide) (List.mem_of_getElem? (i := 7) rfl) rfl dX7_column_96 ?_
              refine g_iload F 0 rfl dX7_column_99 ?_
              refine g_iconst F dX7_column_101 ?_
              refine g_iast F 4 rfl (m_nc) (by omega) (by omega) (by decide) (wMO cA m ((((m_nc : Nat) : Int)) + 1) (((m_nr : Nat) : Int)) (m_ke) (m_so) (m_bu) (m_bc) (m_pu) (m_qu) (m_fs) (m_cd) (m_un) (m_hb) (m_pf) (m_ef) ++ wMP cA m (va_up m_kd m_nc k) (va_up m_lo m_nc 0) (va_up m_hi m_nc 1) (va_up m_co m_nc 0) (m_pa) (m_rk) (m_nu) (m_ct) (m_sa)) rfl dX7_column_102 ?_
              refine g_aload_n F 1 rfl rfl dX7_column_103 ?_
              refine g_get F hV iX7 0 rfl rfl 5 (by decide) (List.mem_of_getElem? (i := 8) rfl) rfl dX7_column_104 ?_
              refine g_iload F 0 rfl dX7_column_107 ?_
              refine g_ldc F (-2000000005) (by decide) (List.mem_of_getElem? (i := 9) rfl) dX7_column_109 ?_
              refine g_iast F 5 rfl (m_nc) (by omega) (by omega) (by decide) (wMO cA m ((((m_nc : Nat) : Int)) + 1) (((m_nr : Nat) : Int)) (m_ke) (m_so) (m_bu) (m_bc) (m_pu) (m_qu) (m_fs) (m_cd) (m_un) (m_hb) (m_pf) (m_ef) ++ wMP cA m (va_up m_kd m_nc k) (va_up m_lo m_nc 0) (va_up m_hi m_nc 1) (va_up m_co m_nc 0) (va_up m_pa m_nc (-2000000005)) (m_rk) (m_nu) (m_ct) (m_sa)) rfl dX7_column_111 ?_
              refine g_iconst F dX7_column_112 ?_
              refine g_istore F ([(5, iv (0)), (4, iv (((m_nc : Nat) : Int))), (0, .ref (m 0)), (1, iv (k)), (2, iv (v)), (3, iv (w))]) rfl (by decide) dX7_column_113 ?_
              have lp115 : ∀ (n : Nat) (r : Nat) (sx : Nat → Int) (hr : r ≤ 7) (hsx : m_sa = sx), 7 - r < n → GW p_ l e_ (headSpec wsX7_column ({ frames := 2, cells := 0, slots := 0, locals := 44 })).room s_ m_ ([.ref (m 0), iv (k), iv (v), iv (w)]).toArray b_ me_ c_ (MQ b_ (Qm D (fun ov ow => ov = some (iv (if (0 ≤ k ∧ k ≤ 2) ∧ fitsP k v w then (if 5 ≤ m_nc then -2000000003 else (m_nc : Int)) else -2000000001)) ∧ ow = if ((0 ≤ k ∧ k ≤ 2) ∧ fitsP k v w) ∧ m_nc < 5 then wMO cA m (((m_nc + 1 : Nat) : Int)) (((m_nr : Nat) : Int)) (m_ke) (m_so) (m_bu) (m_bc) (m_pu) (m_qu) (m_fs) (m_cd) (m_un) (m_hb) (m_pf) (m_ef) ++ wMP cA m (va_up m_kd m_nc k) (va_up m_lo m_nc (if k = 2 then 0 else v)) (va_up m_hi m_nc (if k = 2 then 1 else w)) (m_co) (va_up m_pa m_nc (-2000000005)) (m_rk) (m_nu) (m_ct) (m_sa) else wMO cA m (((m_nc : Nat) : Int)) (((m_nr : Nat) : Int)) (m_ke) (m_so) (m_bu) (m_bc) (m_pu) (m_qu) (m_fs) (m_cd) (m_un) (m_hb) (m_pf) (m_ef) ++ wMP cA m (m_kd) (m_lo) (m_hi) (m_co) (m_pa) (m_rk) (m_nu) (m_ct) (m_sa)) A) ([.ref (m 0), iv (k), iv (v), iv (w)]).toArray s_ 0 0 A) (IM D s_ A) 6 0 0 (wMO cA m ((((m_nc : Nat) : Int)) + 1) (((m_nr : Nat) : Int)) (m_ke) (m_so) (m_bu) (m_bc) (m_pu) (m_qu) (m_fs) (m_cd) (m_un) (m_hb) (m_pf) (m_ef) ++ wMP cA m (va_up m_kd m_nc k) (va_up m_lo m_nc 0) (va_up m_hi m_nc 1) (va_up m_co m_nc 0) (va_up m_pa m_nc (-2000000005)) (m_rk) (m_nu) (m_ct) (sx)) ([(0, .ref (m 0)), (1, iv (k)), (2, iv (v)), (3, iv (w)), (4, iv (((m_nc : Nat) : Int))), (5, iv (((r : Nat) : Int)))]) [] 115 := by
                intro n; induction n with
                | zero => intro r sx; intros; omega
                | succ n ih115 =>
                  intro r sx hr hsx hmu115
                  subst hsx
                  refine g_iload F 5 rfl dX7_column_115 ?_
                  refine g_bipush F dX7_column_117 (by decide) ?_
                  refine g_icmp_ge F (tgt := 141) dX7_column_119 (by decide) ⟨by omega, by omega⟩ ⟨by decide, by decide⟩ (fun c_15 => ?_) (fun c_15 => ?_)
                  · skip
                    refine g_iload F 4 rfl dX7_column_141 ?_
                    exact g_zret F rfl rfl (by decide) (by decide) ⟨congrArg (fun z => some (iv z)) (show (((m_nc : Nat) : Int) : Int) = if (0 ≤ k ∧ k ≤ 2) ∧ fitsP k v w then (if 5 ≤ m_nc then -2000000003 else (m_nc : Int)) else -2000000001 by first | (rw [if_neg (fun z => absurd z.1 (by omega))]; done) | (rw [if_neg (fun z => absurd z.2 (by assumption))]; done) | (rw [if_pos ⟨by omega, (show fitsP k v w from by first | assumption | (unfold fitsP; omega))⟩, if_pos (by omega)]; done) | (rw [if_pos ⟨by omega, (show fitsP k v w from by first | assumption | (unfold fitsP; omega))⟩, if_neg (by omega)]; done)), (by rw [if_pos (show ((0 ≤ k ∧ k ≤ 2) ∧ fitsP k v w) ∧ m_nc < 5 from ⟨⟨by omega, (show fitsP k v w from by first | assumption | (unfold fitsP; omega))⟩, by omega⟩), up_0 (zc m_nc (Nat.le_refl _))]; first | (rw [if_pos (by omega), if_pos (by omega)] <;> rfl) | (rw [if_neg (by omega), if_neg (by omega)] <;> rfl))⟩ dX7_column_143
                  · skip
                    refine g_aload_n F 0 rfl rfl dX7_column_122 ?_
                    refine g_get F hV iX7 0 rfl rfl 10 (by decide) (List.mem_of_getElem? (i := 10) rfl) rfl dX7_column_123 ?_
                    refine g_iconst F dX7_column_126 ?_
                    refine g_iload F 5 rfl dX7_column_127 ?_
                    refine g_imul F dX7_column_129 ?_
                    refine g_iload F 4 rfl dX7_column_130 ?_
                    refine g_iadd F dX7_column_132 ?_
                    refine g_iconst F dX7_column_133 ?_
                    refine g_iast F 9 rfl (r * 5 + m_nc) (by omega) (by omega) (by decide) (wMO cA m ((((m_nc : Nat) : Int)) + 1) (((m_nr : Nat) : Int)) (m_ke) (m_so) (m_bu) (m_bc) (m_pu) (m_qu) (m_fs) (m_cd) (m_un) (m_hb) (m_pf) (m_ef) ++ wMP cA m (va_up m_kd m_nc k) (va_up m_lo m_nc 0) (va_up m_hi m_nc 1) (va_up m_co m_nc 0) (va_up m_pa m_nc (-2000000005)) (m_rk) (m_nu) (m_ct) (va_up m_sa (r * 5 + m_nc) 0)) rfl dX7_column_134 ?_
                    refine g_iinc F 5 rfl ([(5, iv ((((r : Nat) : Int)) + 1)), (0, .ref (m 0)), (1, iv (k)), (2, iv (v)), (3, iv (w)), (4, iv (((m_nc : Nat) : Int)))]) rfl (by decide) dX7_column_135 ?_
                    refine g_goto F (tgt := 115) dX7_column_138 (by decide) ?_
                    refine g_lsub ([(0, .ref (m 0)), (1, iv (k)), (2, iv (v)), (3, iv (w)), (4, iv (((m_nc : Nat) : Int))), (5, iv ((((r : Nat) : Int)) + 1))]) [1, 2, 3, 4, 5, 0] rfl ?_
                    exact ih115 (r + 1) (va_up m_sa (r * 5 + m_nc) 0) (by omega) (up_0 (zs r m_nc (by omega) (Or.inr (Nat.le_refl _)))).symm (by omega)
              refine g_lsub ([(0, .ref (m 0)), (1, iv (k)), (2, iv (v)), (3, iv (w)), (4, iv (((m_nc : Nat) : Int))), (5, iv (0))]) [2, 3, 4, 5, 1, 0] rfl ?_
              exact lp115 (_ + 1) 0 m_sa (by omega) (rfl) (Nat.lt_succ_self _)
        · skip
          refine g_ldc F (-2000000003) (by decide) (List.mem_of_getElem? (i := 3) rfl) dX7_column_34 ?_
          exact g_zret F rfl rfl (by decide) (by decide) ⟨congrArg (fun z => some (iv z)) (show (-2000000003 : Int) = if (0 ≤ k ∧ k ≤ 2) ∧ fitsP k v w then (if 5 ≤ m_nc then -2000000003 else (m_nc : Int)) else -2000000001 by first | (rw [if_neg (fun z => absurd z.1 (by omega))]; done) | (rw [if_neg (fun z => absurd z.2 (by assumption))]; done) | (rw [if_pos ⟨by omega, (show fitsP k v w from by first | assumption | (unfold fitsP; omega))⟩, if_pos (by omega)]; done) | (rw [if_pos ⟨by omega, (show fitsP k v w from by first | assumption | (unfold fitsP; omega))⟩, if_neg (by omega)]; done)), (by first | (rw [if_neg (show ¬ (((0 ≤ k ∧ k ≤ 2) ∧ fitsP k v w) ∧ m_nc < 5) from fun z => absurd z.1.1 (by omega))]; done) | (rw [if_neg (show ¬ (((0 ≤ k ∧ k ≤ 2) ∧ fitsP k v w) ∧ m_nc < 5) from fun z => absurd z.1.2 (by assumption))]; done) | (rw [if_neg (show ¬ (((0 ≤ k ∧ k ≤ 2) ∧ fitsP k v w) ∧ m_nc < 5) from fun z => absurd z.2 (by omega))]; done))⟩ dX7_column_36
      · skip
        refine g_ldc F (-2000000001) (by decide) (List.mem_of_getElem? (i := 1) rfl) dX7_column_23 ?_
        exact g_zret F rfl rfl (by decide) (by decide) ⟨congrArg (fun z => some (iv z)) (show (-2000000001 : Int) = if (0 ≤ k ∧ k ≤ 2) ∧ fitsP k v w then (if 5 ≤ m_nc then -2000000003 else (m_nc : Int)) else -2000000001 by first | (rw [if_neg (fun z => absurd z.1 (by omega))]; done) | (rw [if_neg (fun z => absurd z.2 (by assumption))]; done) | (rw [if_pos ⟨by omega, (show fitsP k v w from by first | assumption | (unfold fitsP; omega))⟩, if_pos (by omega)]; done) | (rw [if_pos ⟨by omega, (show fitsP k v w from by first | assumption | (unfold fitsP; omega))⟩, if_neg (by omega)]; done)), (by first | (rw [if_neg (show ¬ (((0 ≤ k ∧ k ≤ 2) ∧ fitsP k v w) ∧ m_nc < 5) from fun z => absurd z.1.1 (by omega))]; done) | (rw [if_neg (show ¬ (((0 ≤ k ∧ k ≤ 2) ∧ fitsP k v w) ∧ m_nc < 5) from fun z => absurd z.1.2 (by assumption))]; done) | (rw [if_neg (show ¬ (((0 ≤ k ∧ k ≤ 2) ∧ fitsP k v w) ∧ m_nc < 5) from fun z => absurd z.2 (by omega))]; done))⟩ dX7_column_25

set_option maxHeartbeats 4000000 in
set_option maxRecDepth 100000 in
theorem kX7_row (l : Launch) (D : va_G) (cA : Nat → ClassId) (m : Nat → Nat) (m_nc : Nat) (m_nr : Nat) (m_ke : Int) (m_so : Int) (m_bu : Int) (m_bc : Int) (m_pu : Int) (m_qu : Int) (m_fs : Int) (m_cd : Int) (m_un : Int) (m_hb : Int) (m_pf : Int) (m_ef : Int) (m_kd : Nat → Int) (m_lo : Nat → Int) (m_hi : Nat → Int) (m_co : Nat → Int) (m_pa : Nat → Int) (m_rk : Nat → Int) (m_nu : Nat → Int) (m_ct : Nat → Int) (m_sa : Nat → Int) (k : Int) (v : Int) (hk : -2147483648 ≤ k ∧ k ≤ 2147483647) (hv : -2147483648 ≤ v ∧ v ≤ 2147483647) (qnc : m_nc ≤ 5) (qnr : m_nr ≤ 7) (qkd : ∀ j, 0 ≤ m_kd j ∧ m_kd j ≤ 2) (zs : ∀ r c, c < 5 → (m_nr ≤ r ∨ m_nc ≤ c) → m_sa (r * 5 + c) = 0) : CT l yX7_row wsX7_row ({ frames := 1, cells := 0, slots := 0, locals := 22 }) D cA [.ref (m 0), iv (k), iv (v)] (wMO cA m (((m_nc : Nat) : Int)) (((m_nr : Nat) : Int)) (m_ke) (m_so) (m_bu) (m_bc) (m_pu) (m_qu) (m_fs) (m_cd) (m_un) (m_hb) (m_pf) (m_ef) ++ wMP cA m (m_kd) (m_lo) (m_hi) (m_co) (m_pa) (m_rk) (m_nu) (m_ct) (m_sa)) (fun ov ow => ov = some (iv (if (0 ≤ k ∧ k ≤ 2) ∧ -99 ≤ v ∧ v ≤ 99 then (if 7 ≤ m_nr then -2000000003 else (m_nr : Int)) else -2000000001)) ∧ ow = if ((0 ≤ k ∧ k ≤ 2) ∧ -99 ≤ v ∧ v ≤ 99) ∧ m_nr < 7 then wMO cA m (((m_nc : Nat) : Int)) (((m_nr + 1 : Nat) : Int)) (m_ke) (m_so) (m_bu) (m_bc) (m_pu) (m_qu) (m_fs) (m_cd) (m_un) (m_hb) (m_pf) (m_ef) ++ wMP cA m (m_kd) (m_lo) (m_hi) (m_co) (m_pa) (va_up m_rk m_nr k) (va_up m_nu m_nr v) (va_up m_ct m_nr 1) (m_sa) else wMO cA m (((m_nc : Nat) : Int)) (((m_nr : Nat) : Int)) (m_ke) (m_so) (m_bu) (m_bc) (m_pu) (m_qu) (m_fs) (m_cd) (m_un) (m_hb) (m_pf) (m_ef) ++ wMP cA m (m_kd) (m_lo) (m_hi) (m_co) (m_pa) (m_rk) (m_nu) (m_ct) (m_sa)) 0 0 := by
  refine CT.mk (cc := cX7_row) (maxL := 4) (ret := (some .int)) (by decide +kernel) rfl (Nat.le_of_ble_eq_true rfl) ?_
  intro p_ e_ s_ m_ b_ me_ c_ A F hnm hA
  have hV := @IM_P D s_ A
  have iX7 : ∀ w ∈ u_ws RX7 TX7 38, w ∈ wsX7_row := by decide +kernel
  refine g_lsub ([(0, .ref (m 0)), (1, iv (k)), (2, iv (v))]) [0, 1, 2] rfl ?_
  refine g_iload_n F 1 rfl rfl dX7_row_0 ?_
  refine g_iconst F dX7_row_1 ?_
  refine g_iconst F dX7_row_2 ?_
  refine g_callRS F hV (As := [iv (k), iv (0), iv (2)]) (rest := []) (kX7_isIn l D cA k 0 2 (by omega) (by omega) (by omega)) (va_cwS 3 F.2.2.2.2.1 gX7_row_X7_isIn rfl rfl rfl (by decide +kernel) ⟨Nat.le_of_ble_eq_true rfl, Nat.le_of_ble_eq_true rfl⟩) [] rfl rfl rfl (Nat.le_of_ble_eq_true rfl) ⟨Nat.le_of_ble_eq_true rfl, Nat.le_of_ble_eq_true rfl⟩ dX7_row_3 (fun v hv => ?_)
  subst hv
  refine g_eq (st' := [iv (if 0 ≤ k ∧ k ≤ 2 then 1 else 0)]) rfl rfl rfl ?_
  refine g_ifb_eq F (tgt := 20) dX7_row_6 (by decide) (fun c_1 => ?_) (fun c_1 => ?_)
  · skip
    refine g_ldc F (-2000000001) (by decide) (List.mem_of_getElem? (i := 1) rfl) dX7_row_20 ?_
    exact g_zret F rfl rfl (by decide) (by decide) ⟨congrArg (fun z => some (iv z)) (show (-2000000001 : Int) = if (0 ≤ k ∧ k ≤ 2) ∧ -99 ≤ v ∧ v ≤ 99 then (if 7 ≤ m_nr then -2000000003 else (m_nr : Int)) else -2000000001 by first | (rw [if_neg (by omega)]; done) | (rw [if_pos (by omega), if_pos (by omega)]; done) | (rw [if_pos (by omega), if_neg (by omega)]; omega)), (by first | (rw [if_neg (by omega)]; done) | (rw [if_pos (by omega)] <;> rfl))⟩ dX7_row_22
  · skip
    refine g_iload_n F 2 rfl rfl dX7_row_9 ?_
    refine g_bipush F dX7_row_10 (by decide) ?_
    refine g_bipush F dX7_row_12 (by decide) ?_
    refine g_callRS F hV (As := [iv (v), iv (-99), iv (99)]) (rest := []) (kX7_isIn l D cA v (-99) 99 (by omega) (by omega) (by omega)) (va_cwS 3 F.2.2.2.2.1 gX7_row_X7_isIn rfl rfl rfl (by decide +kernel) ⟨Nat.le_of_ble_eq_true rfl, Nat.le_of_ble_eq_true rfl⟩) [] rfl rfl rfl (Nat.le_of_ble_eq_true rfl) ⟨Nat.le_of_ble_eq_true rfl, Nat.le_of_ble_eq_true rfl⟩ dX7_row_14 (fun v hv => ?_)
    subst hv
    refine g_eq (st' := [iv (if (-99) ≤ v ∧ v ≤ 99 then 1 else 0)]) rfl rfl rfl ?_
    refine g_ifb_ne F (tgt := 23) dX7_row_17 (by decide) (fun c_2 => ?_) (fun c_2 => ?_)
    · skip
      refine g_aload_n F 0 rfl rfl dX7_row_23 ?_
      refine g_get F hV iX7 0 rfl rfl 6 (by decide) (List.mem_of_getElem? (i := 2) rfl) rfl dX7_row_24 ?_
      refine g_bipush F dX7_row_27 (by decide) ?_
      refine g_icmp_ne F (tgt := 35) dX7_row_29 (by decide) ⟨by omega, by omega⟩ ⟨by decide, by decide⟩ (fun c_3 => ?_) (fun c_3 => ?_)
      · skip
        refine g_aload_n F 0 rfl rfl dX7_row_35 ?_
        refine g_get F hV iX7 0 rfl rfl 7 (by decide) (List.mem_of_getElem? (i := 4) rfl) rfl dX7_row_36 ?_
        refine g_aload_n F 0 rfl rfl dX7_row_39 ?_
        refine g_get F hV iX7 0 rfl rfl 6 (by decide) (List.mem_of_getElem? (i := 2) rfl) rfl dX7_row_40 ?_
        refine g_iload_n F 1 rfl rfl dX7_row_43 ?_
        refine g_iast F 6 rfl (m_nr) (by omega) (by omega) (by decide) (wMO cA m (((m_nc : Nat) : Int)) (((m_nr : Nat) : Int)) (m_ke) (m_so) (m_bu) (m_bc) (m_pu) (m_qu) (m_fs) (m_cd) (m_un) (m_hb) (m_pf) (m_ef) ++ wMP cA m (m_kd) (m_lo) (m_hi) (m_co) (m_pa) (va_up m_rk m_nr k) (m_nu) (m_ct) (m_sa)) rfl dX7_row_44 ?_
        refine g_aload_n F 0 rfl rfl dX7_row_45 ?_
        refine g_get F hV iX7 0 rfl rfl 8 (by decide) (List.mem_of_getElem? (i := 5) rfl) rfl dX7_row_46 ?_
        refine g_aload_n F 0 rfl rfl dX7_row_49 ?_
        refine g_get F hV iX7 0 rfl rfl 6 (by decide) (List.mem_of_getElem? (i := 2) rfl) rfl dX7_row_50 ?_
        refine g_iload_n F 2 rfl rfl dX7_row_53 ?_
        refine g_iast F 7 rfl (m_nr) (by omega) (by omega) (by decide) (wMO cA m (((m_nc : Nat) : Int)) (((m_nr : Nat) : Int)) (m_ke) (m_so) (m_bu) (m_bc) (m_pu) (m_qu) (m_fs) (m_cd) (m_un) (m_hb) (m_pf) (m_ef) ++ wMP cA m (m_kd) (m_lo) (m_hi) (m_co) (m_pa) (va_up m_rk m_nr k) (va_up m_nu m_nr v) (m_ct) (m_sa)) rfl dX7_row_54 ?_
        refine g_aload_n F 0 rfl rfl dX7_row_55 ?_
        refine g_get F hV iX7 0 rfl rfl 9 (by decide) (List.mem_of_getElem? (i := 6) rfl) rfl dX7_row_56 ?_
        refine g_aload_n F 0 rfl rfl dX7_row_59 ?_
        refine g_get F hV iX7 0 rfl rfl 6 (by decide) (List.mem_of_getElem? (i := 2) rfl) rfl dX7_row_60 ?_
        refine g_iconst F dX7_row_63 ?_
        refine g_zast F 8 rfl (m_nr) (Or.inr rfl) (by omega) (by omega) (by decide) (wMO cA m (((m_nc : Nat) : Int)) (((m_nr : Nat) : Int)) (m_ke) (m_so) (m_bu) (m_bc) (m_pu) (m_qu) (m_fs) (m_cd) (m_un) (m_hb) (m_pf) (m_ef) ++ wMP cA m (m_kd) (m_lo) (m_hi) (m_co) (m_pa) (va_up m_rk m_nr k) (va_up m_nu m_nr v) (va_up m_ct m_nr 1) (m_sa)) rfl dX7_row_64 ?_
        refine g_iconst F dX7_row_65 ?_
        refine g_istore_n F ([(3, iv (0)), (0, .ref (m 0)), (1, iv (k)), (2, iv (v))]) rfl rfl (by decide) dX7_row_66 ?_
        have lp67 : ∀ (n : Nat) (c : Nat) (sx : Nat → Int) (hc : c ≤ 5) (hsx : m_sa = sx), 5 - c < n → GW p_ l e_ (headSpec wsX7_row ({ frames := 1, cells := 0, slots := 0, locals := 22 })).room s_ m_ ([.ref (m 0), iv (k), iv (v)]).toArray b_ me_ c_ (MQ b_ (Qm D (fun ov ow => ov = some (iv (if (0 ≤ k ∧ k ≤ 2) ∧ -99 ≤ v ∧ v ≤ 99 then (if 7 ≤ m_nr then -2000000003 else (m_nr : Int)) else -2000000001)) ∧ ow = if ((0 ≤ k ∧ k ≤ 2) ∧ -99 ≤ v ∧ v ≤ 99) ∧ m_nr < 7 then wMO cA m (((m_nc : Nat) : Int)) (((m_nr + 1 : Nat) : Int)) (m_ke) (m_so) (m_bu) (m_bc) (m_pu) (m_qu) (m_fs) (m_cd) (m_un) (m_hb) (m_pf) (m_ef) ++ wMP cA m (m_kd) (m_lo) (m_hi) (m_co) (m_pa) (va_up m_rk m_nr k) (va_up m_nu m_nr v) (va_up m_ct m_nr 1) (m_sa) else wMO cA m (((m_nc : Nat) : Int)) (((m_nr : Nat) : Int)) (m_ke) (m_so) (m_bu) (m_bc) (m_pu) (m_qu) (m_fs) (m_cd) (m_un) (m_hb) (m_pf) (m_ef) ++ wMP cA m (m_kd) (m_lo) (m_hi) (m_co) (m_pa) (m_rk) (m_nu) (m_ct) (m_sa)) A) ([.ref (m 0), iv (k), iv (v)]).toArray s_ 0 0 A) (IM D s_ A) 4 0 0 (wMO cA m (((m_nc : Nat) : Int)) (((m_nr : Nat) : Int)) (m_ke) (m_so) (m_bu) (m_bc) (m_pu) (m_qu) (m_fs) (m_cd) (m_un) (m_hb) (m_pf) (m_ef) ++ wMP cA m (m_kd) (m_lo) (m_hi) (m_co) (m_pa) (va_up m_rk m_nr k) (va_up m_nu m_nr v) (va_up m_ct m_nr 1) (sx)) ([(0, .ref (m 0)), (1, iv (k)), (2, iv (v)), (3, iv (((c : Nat) : Int)))]) [] 67 := by
          intro n; induction n with
          | zero => intro c sx; intros; omega
          | succ n ih67 =>
            intro c sx hc hsx hmu67
            subst hsx
            refine g_iload_n F 3 rfl rfl dX7_row_67 ?_
            refine g_iconst F dX7_row_68 ?_
            refine g_icmp_ge F (tgt := 92) dX7_row_69 (by decide) ⟨by omega, by omega⟩ ⟨by decide, by decide⟩ (fun c_4 => ?_) (fun c_4 => ?_)
            · skip
              refine g_aload_n F 0 rfl rfl dX7_row_92 ?_
              refine g_dup F rfl dX7_row_93 ?_
              refine g_get F hV iX7 0 rfl rfl 6 (by decide) (List.mem_of_getElem? (i := 2) rfl) rfl dX7_row_94 ?_
              refine g_iconst F dX7_row_97 ?_
              refine g_iadd F dX7_row_98 ?_
              refine g_put F iX7 tyX7 tyX7_ok nmX7 0 rfl rfl 6 (by decide) (List.mem_of_getElem? (i := 2) rfl) rfl rfl rfl (Nat.le_of_ble_eq_true rfl) (wMO cA m (((m_nc : Nat) : Int)) ((((m_nr : Nat) : Int)) + 1) (m_ke) (m_so) (m_bu) (m_bc) (m_pu) (m_qu) (m_fs) (m_cd) (m_un) (m_hb) (m_pf) (m_ef) ++ wMP cA m (m_kd) (m_lo) (m_hi) (m_co) (m_pa) (va_up m_rk m_nr k) (va_up m_nu m_nr v) (va_up m_ct m_nr 1) (m_sa)) rfl dX7_row_99 ?_
              refine g_aload_n F 0 rfl rfl dX7_row_102 ?_
              refine g_get F hV iX7 0 rfl rfl 6 (by decide) (List.mem_of_getElem? (i := 2) rfl) rfl dX7_row_103 ?_
              refine g_iconst F dX7_row_106 ?_
              refine g_isub F dX7_row_107 ?_
              exact g_zret F rfl rfl (by decide) (by decide) ⟨congrArg (fun z => some (iv z)) (show (((((m_nr : Nat) : Int)) + 1) - 1 : Int) = if (0 ≤ k ∧ k ≤ 2) ∧ -99 ≤ v ∧ v ≤ 99 then (if 7 ≤ m_nr then -2000000003 else (m_nr : Int)) else -2000000001 by first | (rw [if_neg (by omega)]; done) | (rw [if_pos (by omega), if_pos (by omega)]; done) | (rw [if_pos (by omega), if_neg (by omega)]; omega)), (by first | (rw [if_neg (by omega)]; done) | (rw [if_pos (by omega)] <;> rfl))⟩ dX7_row_108
            · skip
              refine g_aload_n F 0 rfl rfl dX7_row_72 ?_
              refine g_get F hV iX7 0 rfl rfl 10 (by decide) (List.mem_of_getElem? (i := 7) rfl) rfl dX7_row_73 ?_
              refine g_iconst F dX7_row_76 ?_
              refine g_aload_n F 0 rfl rfl dX7_row_77 ?_
              refine g_get F hV iX7 0 rfl rfl 6 (by decide) (List.mem_of_getElem? (i := 2) rfl) rfl dX7_row_78 ?_
              refine g_imul F dX7_row_81 ?_
              refine g_iload_n F 3 rfl rfl dX7_row_82 ?_
              refine g_iadd F dX7_row_83 ?_
              refine g_iconst F dX7_row_84 ?_
              refine g_iast F 9 rfl (m_nr * 5 + c) (by omega) (by omega) (by decide) (wMO cA m (((m_nc : Nat) : Int)) (((m_nr : Nat) : Int)) (m_ke) (m_so) (m_bu) (m_bc) (m_pu) (m_qu) (m_fs) (m_cd) (m_un) (m_hb) (m_pf) (m_ef) ++ wMP cA m (m_kd) (m_lo) (m_hi) (m_co) (m_pa) (va_up m_rk m_nr k) (va_up m_nu m_nr v) (va_up m_ct m_nr 1) (va_up m_sa (m_nr * 5 + c) 0)) rfl dX7_row_85 ?_
              refine g_iinc F 3 rfl ([(3, iv ((((c : Nat) : Int)) + 1)), (0, .ref (m 0)), (1, iv (k)), (2, iv (v))]) rfl (by decide) dX7_row_86 ?_
              refine g_goto F (tgt := 67) dX7_row_89 (by decide) ?_
              refine g_lsub ([(0, .ref (m 0)), (1, iv (k)), (2, iv (v)), (3, iv ((((c : Nat) : Int)) + 1))]) [1, 2, 3, 0] rfl ?_
              exact ih67 (c + 1) (va_up m_sa (m_nr * 5 + c) 0) (by omega) (up_0 (zs m_nr c (by omega) (Or.inl (Nat.le_refl _)))).symm (by omega)
        refine g_lsub ([(0, .ref (m 0)), (1, iv (k)), (2, iv (v)), (3, iv (0))]) [1, 2, 3, 0] rfl ?_
        exact lp67 (_ + 1) 0 m_sa (by omega) (rfl) (Nat.lt_succ_self _)
      · skip
        refine g_ldc F (-2000000003) (by decide) (List.mem_of_getElem? (i := 3) rfl) dX7_row_32 ?_
        exact g_zret F rfl rfl (by decide) (by decide) ⟨congrArg (fun z => some (iv z)) (show (-2000000003 : Int) = if (0 ≤ k ∧ k ≤ 2) ∧ -99 ≤ v ∧ v ≤ 99 then (if 7 ≤ m_nr then -2000000003 else (m_nr : Int)) else -2000000001 by first | (rw [if_neg (by omega)]; done) | (rw [if_pos (by omega), if_pos (by omega)]; done) | (rw [if_pos (by omega), if_neg (by omega)]; omega)), (by first | (rw [if_neg (by omega)]; done) | (rw [if_pos (by omega)] <;> rfl))⟩ dX7_row_34
    · skip
      refine g_ldc F (-2000000001) (by decide) (List.mem_of_getElem? (i := 1) rfl) dX7_row_20 ?_
      exact g_zret F rfl rfl (by decide) (by decide) ⟨congrArg (fun z => some (iv z)) (show (-2000000001 : Int) = if (0 ≤ k ∧ k ≤ 2) ∧ -99 ≤ v ∧ v ≤ 99 then (if 7 ≤ m_nr then -2000000003 else (m_nr : Int)) else -2000000001 by first | (rw [if_neg (by omega)]; done) | (rw [if_pos (by omega), if_pos (by omega)]; done) | (rw [if_pos (by omega), if_neg (by omega)]; omega)), (by first | (rw [if_neg (by omega)]; done) | (rw [if_pos (by omega)] <;> rfl))⟩ dX7_row_22

set_option maxHeartbeats 4000000 in
set_option maxRecDepth 100000 in
theorem kX7_share (l : Launch) (D : va_G) (cA : Nat → ClassId) (m : Nat → Nat) (m_nc : Nat) (m_nr : Nat) (m_ke : Int) (m_so : Int) (m_bu : Int) (m_bc : Int) (m_pu : Int) (m_qu : Int) (m_fs : Int) (m_cd : Int) (m_un : Int) (m_hb : Int) (m_pf : Int) (m_ef : Int) (m_kd : Nat → Int) (m_lo : Nat → Int) (m_hi : Nat → Int) (m_co : Nat → Int) (m_pa : Nat → Int) (m_rk : Nat → Int) (m_nu : Nat → Int) (m_ct : Nat → Int) (m_sa : Nat → Int) (c : Int) (v : Int) (w : Int) (hc : -2147483648 ≤ c ∧ c ≤ 2147483647) (hv : -2147483648 ≤ v ∧ v ≤ 2147483647) (hw : -2147483648 ≤ w ∧ w ≤ 2147483647) (qnc : m_nc ≤ 5) (qnr : m_nr ≤ 7) (qkd : ∀ j, 0 ≤ m_kd j ∧ m_kd j ≤ 2) : CT l yX7_share wsX7_share ({ frames := 2, cells := 0, slots := 0, locals := 43 }) D cA [.ref (m 0), iv (c), iv (v), iv (w)] (wMO cA m (((m_nc : Nat) : Int)) (((m_nr : Nat) : Int)) (m_ke) (m_so) (m_bu) (m_bc) (m_pu) (m_qu) (m_fs) (m_cd) (m_un) (m_hb) (m_pf) (m_ef) ++ wMP cA m (m_kd) (m_lo) (m_hi) (m_co) (m_pa) (m_rk) (m_nu) (m_ct) (m_sa)) (fun ov ow => ov = some (iv (if (0 ≤ c ∧ c < (m_nr : Int)) ∧ (0 ≤ v ∧ v < (m_nc : Int)) ∧ -9 ≤ w ∧ w ≤ 9 then m_sa (c.toNat * 5 + v.toNat) else -2000000001)) ∧ ow = if (0 ≤ c ∧ c < (m_nr : Int)) ∧ (0 ≤ v ∧ v < (m_nc : Int)) ∧ -9 ≤ w ∧ w ≤ 9 then wMO cA m (((m_nc : Nat) : Int)) (((m_nr : Nat) : Int)) (m_ke) (m_so) (m_bu) (m_bc) (m_pu) (m_qu) (m_fs) (m_cd) (m_un) (m_hb) (m_pf) (m_ef) ++ wMP cA m (m_kd) (m_lo) (m_hi) (m_co) (m_pa) (m_rk) (m_nu) (m_ct) (va_up m_sa (c.toNat * 5 + v.toNat) w) else wMO cA m (((m_nc : Nat) : Int)) (((m_nr : Nat) : Int)) (m_ke) (m_so) (m_bu) (m_bc) (m_pu) (m_qu) (m_fs) (m_cd) (m_un) (m_hb) (m_pf) (m_ef) ++ wMP cA m (m_kd) (m_lo) (m_hi) (m_co) (m_pa) (m_rk) (m_nu) (m_ct) (m_sa)) 0 0 := by
  refine CT.mk (cc := cX7_share) (maxL := 5) (ret := (some .int)) (by decide +kernel) rfl (Nat.le_of_ble_eq_true rfl) ?_
  intro p_ e_ s_ m_ b_ me_ c_ A F hnm hA
  have hV := @IM_P D s_ A
  have iX7 : ∀ w ∈ u_ws RX7 TX7 38, w ∈ wsX7_share := by decide +kernel
  refine g_lsub ([(0, .ref (m 0)), (1, iv (c)), (2, iv (v)), (3, iv (w))]) [0, 1, 2, 3] rfl ?_
  refine g_aload_n F 0 rfl rfl dX7_share_0 ?_
  refine g_iload_n F 1 rfl rfl dX7_share_1 ?_
  refine g_callRV F hV (As := [iv (c)]) (rest := []) (kX7_isRow l D cA m m_nc m_nr m_ke m_so m_bu m_bc m_pu m_qu m_fs m_cd m_un m_hb m_pf m_ef c (by omega) (qnr)) (cwV 1 F.2.2.2.2.1 gX7_share_X7_isRow rfl rfl rfl (by decide +kernel) ⟨Nat.le_of_ble_eq_true rfl, Nat.le_of_ble_eq_true rfl⟩) rfl rfl (q0 := 0) rfl [0] rfl rfl rfl (Nat.le_of_ble_eq_true rfl) ⟨Nat.le_of_ble_eq_true rfl, Nat.le_of_ble_eq_true rfl⟩ dX7_share_2 (fun v hv => ?_)
  subst hv
  refine g_eq (st' := [iv (if 0 ≤ c ∧ c < (m_nr : Int) then 1 else 0)]) rfl rfl rfl ?_
  refine g_ifb_eq F (tgt := 27) dX7_share_5 (by decide) (fun c_1 => ?_) (fun c_1 => ?_)
  · skip
    refine g_ldc F (-2000000001) (by decide) (List.mem_of_getElem? (i := 1) rfl) dX7_share_27 ?_
    exact g_zret F rfl rfl (by decide) (by decide) ⟨congrArg (fun z => some (iv z)) (show (-2000000001 : Int) = if (0 ≤ c ∧ c < (m_nr : Int)) ∧ (0 ≤ v ∧ v < (m_nc : Int)) ∧ -9 ≤ w ∧ w ≤ 9 then m_sa (c.toNat * 5 + v.toNat) else -2000000001 by (try simp only [Int.toNat_natCast]); first | (rw [if_neg (by omega)]; done) | (rw [if_pos (by omega)]; done)), (by (try simp only [Int.toNat_natCast]); first | (rw [if_neg (by omega)]; done) | (rw [if_pos (by omega)]; done))⟩ dX7_share_29
  · skip
    obtain ⟨cn, hcn⟩ : ∃ y : Nat, c = (y : Int) := ⟨c.toNat, by omega⟩
    subst hcn
    refine g_aload_n F 0 rfl rfl dX7_share_8 ?_
    refine g_iload_n F 2 rfl rfl dX7_share_9 ?_
    refine g_callRV F hV (As := [iv (v)]) (rest := []) (kX7_isColumn l D cA m m_nc m_nr m_ke m_so m_bu m_bc m_pu m_qu m_fs m_cd m_un m_hb m_pf m_ef v (by omega) (qnc)) (cwV 1 F.2.2.2.2.1 gX7_share_X7_isColumn rfl rfl rfl (by decide +kernel) ⟨Nat.le_of_ble_eq_true rfl, Nat.le_of_ble_eq_true rfl⟩) rfl rfl (q0 := 0) rfl [0] rfl rfl rfl (Nat.le_of_ble_eq_true rfl) ⟨Nat.le_of_ble_eq_true rfl, Nat.le_of_ble_eq_true rfl⟩ dX7_share_10 (fun v hv => ?_)
    subst hv
    refine g_eq (st' := [iv (if 0 ≤ v ∧ v < (m_nc : Int) then 1 else 0)]) rfl rfl rfl ?_
    refine g_ifb_eq F (tgt := 27) dX7_share_13 (by decide) (fun c_2 => ?_) (fun c_2 => ?_)
    · skip
      refine g_ldc F (-2000000001) (by decide) (List.mem_of_getElem? (i := 1) rfl) dX7_share_27 ?_
      exact g_zret F rfl rfl (by decide) (by decide) ⟨congrArg (fun z => some (iv z)) (show (-2000000001 : Int) = if (0 ≤ ((cn : Nat) : Int) ∧ ((cn : Nat) : Int) < (m_nr : Int)) ∧ (0 ≤ v ∧ v < (m_nc : Int)) ∧ -9 ≤ w ∧ w ≤ 9 then m_sa (((cn : Nat) : Int).toNat * 5 + v.toNat) else -2000000001 by (try simp only [Int.toNat_natCast]); first | (rw [if_neg (by omega)]; done) | (rw [if_pos (by omega)]; done)), (by (try simp only [Int.toNat_natCast]); first | (rw [if_neg (by omega)]; done) | (rw [if_pos (by omega)]; done))⟩ dX7_share_29
    · skip
      obtain ⟨vn, hvn⟩ : ∃ y : Nat, v = (y : Int) := ⟨v.toNat, by omega⟩
      subst hvn
      refine g_iload_n F 3 rfl rfl dX7_share_16 ?_
      refine g_bipush F dX7_share_17 (by decide) ?_
      refine g_bipush F dX7_share_19 (by decide) ?_
      refine g_callRS F hV (As := [iv (w), iv (-9), iv (9)]) (rest := []) (kX7_isIn l D cA w (-9) 9 (by omega) (by omega) (by omega)) (va_cwS 3 F.2.2.2.2.1 gX7_share_X7_isIn rfl rfl rfl (by decide +kernel) ⟨Nat.le_of_ble_eq_true rfl, Nat.le_of_ble_eq_true rfl⟩) [] rfl rfl rfl (Nat.le_of_ble_eq_true rfl) ⟨Nat.le_of_ble_eq_true rfl, Nat.le_of_ble_eq_true rfl⟩ dX7_share_21 (fun v hv => ?_)
      subst hv
      refine g_eq (st' := [iv (if (-9) ≤ w ∧ w ≤ 9 then 1 else 0)]) rfl rfl rfl ?_
      refine g_ifb_ne F (tgt := 30) dX7_share_24 (by decide) (fun c_3 => ?_) (fun c_3 => ?_)
      · skip
        refine g_aload_n F 0 rfl rfl dX7_share_30 ?_
        refine g_get F hV iX7 0 rfl rfl 10 (by decide) (List.mem_of_getElem? (i := 2) rfl) rfl dX7_share_31 ?_
        refine g_iconst F dX7_share_34 ?_
        refine g_iload_n F 1 rfl rfl dX7_share_35 ?_
        refine g_imul F dX7_share_36 ?_
        refine g_iload_n F 2 rfl rfl dX7_share_37 ?_
        refine g_iadd F dX7_share_38 ?_
        refine g_iald F hV 9 rfl (cn * 5 + vn) (by omega) (by omega) (by decide) dX7_share_39 ?_
        refine g_istore F ([(4, iv (m_sa (cn * 5 + vn))), (0, .ref (m 0)), (1, iv (((cn : Nat) : Int))), (2, iv (((vn : Nat) : Int))), (3, iv (w))]) rfl (by decide) dX7_share_40 ?_
        refine g_aload_n F 1 rfl rfl dX7_share_42 ?_
        refine g_get F hV iX7 0 rfl rfl 10 (by decide) (List.mem_of_getElem? (i := 2) rfl) rfl dX7_share_43 ?_
        refine g_iconst F dX7_share_46 ?_
        refine g_iload_n F 2 rfl rfl dX7_share_47 ?_
        refine g_imul F dX7_share_48 ?_
        refine g_iload_n F 3 rfl rfl dX7_share_49 ?_
        refine g_iadd F dX7_share_50 ?_
        refine g_iload_n F 4 rfl rfl dX7_share_51 ?_
        refine g_iast F 9 rfl (cn * 5 + vn) (by omega) (by omega) (by decide) (wMO cA m (((m_nc : Nat) : Int)) (((m_nr : Nat) : Int)) (m_ke) (m_so) (m_bu) (m_bc) (m_pu) (m_qu) (m_fs) (m_cd) (m_un) (m_hb) (m_pf) (m_ef) ++ wMP cA m (m_kd) (m_lo) (m_hi) (m_co) (m_pa) (m_rk) (m_nu) (m_ct) (va_up m_sa (cn * 5 + vn) w)) rfl dX7_share_52 ?_
        refine g_iload F 0 rfl dX7_share_53 ?_
        exact g_zret F rfl rfl (by decide) (by decide) ⟨congrArg (fun z => some (iv z)) (show (m_sa (cn * 5 + vn) : Int) = if (0 ≤ ((cn : Nat) : Int) ∧ ((cn : Nat) : Int) < (m_nr : Int)) ∧ (0 ≤ ((vn : Nat) : Int) ∧ ((vn : Nat) : Int) < (m_nc : Int)) ∧ -9 ≤ w ∧ w ≤ 9 then m_sa (((cn : Nat) : Int).toNat * 5 + ((vn : Nat) : Int).toNat) else -2000000001 by (try simp only [Int.toNat_natCast]); first | (rw [if_neg (by omega)]; done) | (rw [if_pos (by omega)]; done)), (by (try simp only [Int.toNat_natCast]); first | (rw [if_neg (by omega)]; done) | (rw [if_pos (by omega)]; done))⟩ dX7_share_55
      · skip
        refine g_ldc F (-2000000001) (by decide) (List.mem_of_getElem? (i := 1) rfl) dX7_share_27 ?_
        exact g_zret F rfl rfl (by decide) (by decide) ⟨congrArg (fun z => some (iv z)) (show (-2000000001 : Int) = if (0 ≤ ((cn : Nat) : Int) ∧ ((cn : Nat) : Int) < (m_nr : Int)) ∧ (0 ≤ ((vn : Nat) : Int) ∧ ((vn : Nat) : Int) < (m_nc : Int)) ∧ -9 ≤ w ∧ w ≤ 9 then m_sa (((cn : Nat) : Int).toNat * 5 + ((vn : Nat) : Int).toNat) else -2000000001 by (try simp only [Int.toNat_natCast]); first | (rw [if_neg (by omega)]; done) | (rw [if_pos (by omega)]; done)), (by (try simp only [Int.toNat_natCast]); first | (rw [if_neg (by omega)]; done) | (rw [if_pos (by omega)]; done))⟩ dX7_share_29

set_option maxHeartbeats 4000000 in
set_option maxRecDepth 100000 in
theorem kX7_isOf (l : Launch) (D : va_G) (cA : Nat → ClassId) (m : Nat → Nat) (m_nc : Nat) (m_nr : Nat) (m_ke : Int) (m_so : Int) (m_bu : Int) (m_bc : Int) (m_pu : Int) (m_qu : Int) (m_fs : Int) (m_cd : Int) (m_un : Int) (m_hb : Int) (m_pf : Int) (m_ef : Int) (m_kd : Nat → Int) (m_lo : Nat → Int) (m_hi : Nat → Int) (m_co : Nat → Int) (m_pa : Nat → Int) (m_rk : Nat → Int) (m_nu : Nat → Int) (m_ct : Nat → Int) (m_sa : Nat → Int) (c : Int) (v : Int) (hc : -2147483648 ≤ c ∧ c ≤ 2147483647) (hv : -2147483648 ≤ v ∧ v ≤ 2147483647) (qnc : m_nc ≤ 5) (qnr : m_nr ≤ 7) (qkd : ∀ j, 0 ≤ m_kd j ∧ m_kd j ≤ 2) : CR l yX7_isOf wsX7_isOf ({ frames := 2, cells := 0, slots := 0, locals := 43 }) D cA [.ref (m 0), iv (c), iv (v)] (wMO cA m (((m_nc : Nat) : Int)) (((m_nr : Nat) : Int)) (m_ke) (m_so) (m_bu) (m_bc) (m_pu) (m_qu) (m_fs) (m_cd) (m_un) (m_hb) (m_pf) (m_ef) ++ wMP cA m (m_kd) (m_lo) (m_hi) (m_co) (m_pa) (m_rk) (m_nu) (m_ct) (m_sa)) (fun ov => ov = some (iv (if (0 ≤ c ∧ c < (m_nc : Int)) ∧ 0 ≤ v ∧ v ≤ 2 then (if v ≤ m_kd c.toNat then 1 else 0) else -2000000001))) := by
  refine CR.mk (cc := cX7_isOf) (maxL := 3) (ret := (some .int)) (by decide +kernel) rfl (Nat.le_of_ble_eq_true rfl) ?_
  intro p_ e_ s_ m_ b_ me_ c_ F
  have hV := @IR_P D s_
  have iX7 : ∀ w ∈ u_ws RX7 TX7 38, w ∈ wsX7_isOf := by decide +kernel
  refine g_lsub ([(0, .ref (m 0)), (1, iv (c)), (2, iv (v))]) [0, 1, 2] rfl ?_
  refine g_aload_n F 0 rfl rfl dX7_isOf_0 ?_
  refine g_iload_n F 1 rfl rfl dX7_isOf_1 ?_
  refine g_callRV F hV (As := [iv (c)]) (rest := []) (kX7_isColumn l D cA m m_nc m_nr m_ke m_so m_bu m_bc m_pu m_qu m_fs m_cd m_un m_hb m_pf m_ef c (by omega) (qnc)) (cwV 1 F.2.2.2.2.1 gX7_isOf_X7_isColumn rfl rfl rfl (by decide +kernel) ⟨Nat.le_of_ble_eq_true rfl, Nat.le_of_ble_eq_true rfl⟩) rfl rfl (q0 := 0) rfl [0] rfl rfl rfl (Nat.le_of_ble_eq_true rfl) ⟨Nat.le_of_ble_eq_true rfl, Nat.le_of_ble_eq_true rfl⟩ dX7_isOf_2 (fun v hv => ?_)
  subst hv
  refine g_eq (st' := [iv (if 0 ≤ c ∧ c < (m_nc : Int) then 1 else 0)]) rfl rfl rfl ?_
  refine g_ifb_eq F (tgt := 17) dX7_isOf_5 (by decide) (fun c_1 => ?_) (fun c_1 => ?_)
  · skip
    refine g_ldc F (-2000000001) (by decide) (List.mem_of_getElem? (i := 1) rfl) dX7_isOf_17 ?_
    exact g_zretR F rfl rfl (congrArg (fun z => some (iv z)) (show (-2000000001 : Int) = if (0 ≤ c ∧ c < (m_nc : Int)) ∧ 0 ≤ v ∧ v ≤ 2 then (if v ≤ m_kd c.toNat then 1 else 0) else -2000000001 by first | (rw [if_neg (by omega)]; done) | (rw [if_pos (by omega), Int.toNat_natCast, if_pos (by omega)]; done) | (rw [if_pos (by omega), Int.toNat_natCast, if_neg (by omega)]; done))) dX7_isOf_19
  · skip
    obtain ⟨cn, hcn⟩ : ∃ y : Nat, c = (y : Int) := ⟨c.toNat, by omega⟩
    subst hcn
    refine g_iload_n F 2 rfl rfl dX7_isOf_8 ?_
    refine g_iconst F dX7_isOf_9 ?_
    refine g_iconst F dX7_isOf_10 ?_
    refine g_callRS F hV (As := [iv (v), iv (0), iv (2)]) (rest := []) (kX7_isIn l D cA v 0 2 (by omega) (by omega) (by omega)) (va_cwS 3 F.2.2.2.2.1 gX7_isOf_X7_isIn rfl rfl rfl (by decide +kernel) ⟨Nat.le_of_ble_eq_true rfl, Nat.le_of_ble_eq_true rfl⟩) [] rfl rfl rfl (Nat.le_of_ble_eq_true rfl) ⟨Nat.le_of_ble_eq_true rfl, Nat.le_of_ble_eq_true rfl⟩ dX7_isOf_11 (fun v hv => ?_)
    subst hv
    refine g_eq (st' := [iv (if 0 ≤ v ∧ v ≤ 2 then 1 else 0)]) rfl rfl rfl ?_
    refine g_ifb_ne F (tgt := 20) dX7_isOf_14 (by decide) (fun c_2 => ?_) (fun c_2 => ?_)
    · skip
      refine g_aload_n F 0 rfl rfl dX7_isOf_20 ?_
      refine g_get F hV iX7 0 rfl rfl 1 (by decide) (List.mem_of_getElem? (i := 2) rfl) rfl dX7_isOf_21 ?_
      refine g_iload_n F 1 rfl rfl dX7_isOf_24 ?_
      have r_3 := qkd (cn)
      refine g_iald F hV 1 rfl (cn) (by omega) (by omega) (by decide) dX7_isOf_25 ?_
      refine g_iload_n F 2 rfl rfl dX7_isOf_26 ?_
      refine g_icmp_lt F (tgt := 34) dX7_isOf_27 (by decide) ⟨by omega, by omega⟩ ⟨by omega, by omega⟩ (fun c_4 => ?_) (fun c_4 => ?_)
      · skip
        refine g_iconst F dX7_isOf_34 ?_
        exact g_zretR F rfl rfl (congrArg (fun z => some (iv z)) (show (0 : Int) = if (0 ≤ ((cn : Nat) : Int) ∧ ((cn : Nat) : Int) < (m_nc : Int)) ∧ 0 ≤ v ∧ v ≤ 2 then (if v ≤ m_kd ((cn : Nat) : Int).toNat then 1 else 0) else -2000000001 by first | (rw [if_neg (by omega)]; done) | (rw [if_pos (by omega), Int.toNat_natCast, if_pos (by omega)]; done) | (rw [if_pos (by omega), Int.toNat_natCast, if_neg (by omega)]; done))) dX7_isOf_35
      · skip
        refine g_iconst F dX7_isOf_30 ?_
        refine g_goto F (tgt := 35) dX7_isOf_31 (by decide) ?_
        exact g_zretR F rfl rfl (congrArg (fun z => some (iv z)) (show (1 : Int) = if (0 ≤ ((cn : Nat) : Int) ∧ ((cn : Nat) : Int) < (m_nc : Int)) ∧ 0 ≤ v ∧ v ≤ 2 then (if v ≤ m_kd ((cn : Nat) : Int).toNat then 1 else 0) else -2000000001 by first | (rw [if_neg (by omega)]; done) | (rw [if_pos (by omega), Int.toNat_natCast, if_pos (by omega)]; done) | (rw [if_pos (by omega), Int.toNat_natCast, if_neg (by omega)]; done))) dX7_isOf_35
    · skip
      refine g_ldc F (-2000000001) (by decide) (List.mem_of_getElem? (i := 1) rfl) dX7_isOf_17 ?_
      exact g_zretR F rfl rfl (congrArg (fun z => some (iv z)) (show (-2000000001 : Int) = if (0 ≤ ((cn : Nat) : Int) ∧ ((cn : Nat) : Int) < (m_nc : Int)) ∧ 0 ≤ v ∧ v ≤ 2 then (if v ≤ m_kd ((cn : Nat) : Int).toNat then 1 else 0) else -2000000001 by first | (rw [if_neg (by omega)]; done) | (rw [if_pos (by omega), Int.toNat_natCast, if_pos (by omega)]; done) | (rw [if_pos (by omega), Int.toNat_natCast, if_neg (by omega)]; done))) dX7_isOf_19

set_option maxHeartbeats 4000000 in
set_option maxRecDepth 100000 in
theorem kX7_about (l : Launch) (D : va_G) (cA : Nat → ClassId) (m : Nat → Nat) (m_nc : Nat) (m_nr : Nat) (m_ke : Int) (m_so : Int) (m_bu : Int) (m_bc : Int) (m_pu : Int) (m_qu : Int) (m_fs : Int) (m_cd : Int) (m_un : Int) (m_hb : Int) (m_pf : Int) (m_ef : Int) (m_kd : Nat → Int) (m_lo : Nat → Int) (m_hi : Nat → Int) (m_co : Nat → Int) (m_pa : Nat → Int) (m_rk : Nat → Int) (m_nu : Nat → Int) (m_ct : Nat → Int) (m_sa : Nat → Int) (c : Int) (v : Int) (hc : -2147483648 ≤ c ∧ c ≤ 2147483647) (hv : -2147483648 ≤ v ∧ v ≤ 2147483647) (qnc : m_nc ≤ 5) (qnr : m_nr ≤ 7) (qkd : ∀ j, 0 ≤ m_kd j ∧ m_kd j ≤ 2) : CR l yX7_about wsX7_about ({ frames := 2, cells := 0, slots := 0, locals := 43 }) D cA [.ref (m 0), iv (c), iv (v)] (wMO cA m (((m_nc : Nat) : Int)) (((m_nr : Nat) : Int)) (m_ke) (m_so) (m_bu) (m_bc) (m_pu) (m_qu) (m_fs) (m_cd) (m_un) (m_hb) (m_pf) (m_ef) ++ wMP cA m (m_kd) (m_lo) (m_hi) (m_co) (m_pa) (m_rk) (m_nu) (m_ct) (m_sa)) (fun ov => ov = some (iv (if 0 ≤ c ∧ c < (m_nc : Int) then (if v = 0 then m_lo c.toNat else if v = 1 then m_hi c.toNat else if v = 2 then m_co c.toNat else if v = 3 then m_pa c.toNat else -2000000001) else -2000000001))) := by
  refine CR.mk (cc := cX7_about) (maxL := 3) (ret := (some .int)) (by decide +kernel) rfl (Nat.le_of_ble_eq_true rfl) ?_
  intro p_ e_ s_ m_ b_ me_ c_ F
  have hV := @IR_P D s_
  have iX7 : ∀ w ∈ u_ws RX7 TX7 38, w ∈ wsX7_about := by decide +kernel
  refine g_lsub ([(0, .ref (m 0)), (1, iv (c)), (2, iv (v))]) [0, 1, 2] rfl ?_
  refine g_aload_n F 0 rfl rfl dX7_about_0 ?_
  refine g_iload_n F 1 rfl rfl dX7_about_1 ?_
  refine g_callRV F hV (As := [iv (c)]) (rest := []) (kX7_isColumn l D cA m m_nc m_nr m_ke m_so m_bu m_bc m_pu m_qu m_fs m_cd m_un m_hb m_pf m_ef c (by omega) (qnc)) (cwV 1 F.2.2.2.2.1 gX7_about_X7_isColumn rfl rfl rfl (by decide +kernel) ⟨Nat.le_of_ble_eq_true rfl, Nat.le_of_ble_eq_true rfl⟩) rfl rfl (q0 := 0) rfl [0] rfl rfl rfl (Nat.le_of_ble_eq_true rfl) ⟨Nat.le_of_ble_eq_true rfl, Nat.le_of_ble_eq_true rfl⟩ dX7_about_2 (fun v hv => ?_)
  subst hv
  refine g_eq (st' := [iv (if 0 ≤ c ∧ c < (m_nc : Int) then 1 else 0)]) rfl rfl rfl ?_
  refine g_ifb_eq F (tgt := 17) dX7_about_5 (by decide) (fun c_1 => ?_) (fun c_1 => ?_)
  · skip
    refine g_ldc F (-2000000001) (by decide) (List.mem_of_getElem? (i := 1) rfl) dX7_about_17 ?_
    exact g_zretR F rfl rfl (congrArg (fun z => some (iv z)) (show (-2000000001 : Int) = if 0 ≤ c ∧ c < (m_nc : Int) then (if v = 0 then m_lo c.toNat else if v = 1 then m_hi c.toNat else if v = 2 then m_co c.toNat else if v = 3 then m_pa c.toNat else -2000000001) else -2000000001 by (try simp only [Int.toNat_natCast]); first | (rw [if_neg (by omega)]; done) | (rw [if_pos (by omega), if_pos (by omega)]; done) | (rw [if_pos (by omega), if_neg (by omega), if_pos (by omega)]; done) | (rw [if_pos (by omega), if_neg (by omega), if_neg (by omega), if_pos (by omega)]; done) | (rw [if_pos (by omega), if_neg (by omega), if_neg (by omega), if_neg (by omega), if_pos (by omega)]; done) | (rw [if_pos (by omega), if_neg (by omega), if_neg (by omega), if_neg (by omega), if_neg (by omega)]; done))) dX7_about_19
  · skip
    obtain ⟨cn, hcn⟩ : ∃ y : Nat, c = (y : Int) := ⟨c.toNat, by omega⟩
    subst hcn
    refine g_iload_n F 2 rfl rfl dX7_about_8 ?_
    refine g_iconst F dX7_about_9 ?_
    refine g_iconst F dX7_about_10 ?_
    refine g_callRS F hV (As := [iv (v), iv (0), iv (3)]) (rest := []) (kX7_isIn l D cA v 0 3 (by omega) (by omega) (by omega)) (va_cwS 3 F.2.2.2.2.1 gX7_about_X7_isIn rfl rfl rfl (by decide +kernel) ⟨Nat.le_of_ble_eq_true rfl, Nat.le_of_ble_eq_true rfl⟩) [] rfl rfl rfl (Nat.le_of_ble_eq_true rfl) ⟨Nat.le_of_ble_eq_true rfl, Nat.le_of_ble_eq_true rfl⟩ dX7_about_11 (fun v hv => ?_)
    subst hv
    refine g_eq (st' := [iv (if 0 ≤ v ∧ v ≤ 3 then 1 else 0)]) rfl rfl rfl ?_
    refine g_ifb_ne F (tgt := 20) dX7_about_14 (by decide) (fun c_2 => ?_) (fun c_2 => ?_)
    · skip
      refine g_iload_n F 2 rfl rfl dX7_about_20 ?_
      refine g_if_ne F (tgt := 33) dX7_about_21 (by decide) ⟨by omega, by omega⟩ (fun c_3 => ?_) (fun c_3 => ?_)
      · skip
        refine g_iload_n F 2 rfl rfl dX7_about_33 ?_
        refine g_iconst F dX7_about_34 ?_
        refine g_icmp_ne F (tgt := 47) dX7_about_35 (by decide) ⟨by omega, by omega⟩ ⟨by decide, by decide⟩ (fun c_4 => ?_) (fun c_4 => ?_)
        · skip
          refine g_iload_n F 2 rfl rfl dX7_about_47 ?_
          refine g_iconst F dX7_about_48 ?_
          refine g_icmp_ne F (tgt := 61) dX7_about_49 (by decide) ⟨by omega, by omega⟩ ⟨by decide, by decide⟩ (fun c_5 => ?_) (fun c_5 => ?_)
          · skip
            refine g_aload_n F 0 rfl rfl dX7_about_61 ?_
            refine g_get F hV iX7 0 rfl rfl 5 (by decide) (List.mem_of_getElem? (i := 5) rfl) rfl dX7_about_62 ?_
            refine g_iload_n F 1 rfl rfl dX7_about_65 ?_
            refine g_iald F hV 5 rfl (cn) (by omega) (by omega) (by decide) dX7_about_66 ?_
            exact g_zretR F rfl rfl (congrArg (fun z => some (iv z)) (show (m_pa cn : Int) = if 0 ≤ ((cn : Nat) : Int) ∧ ((cn : Nat) : Int) < (m_nc : Int) then (if v = 0 then m_lo ((cn : Nat) : Int).toNat else if v = 1 then m_hi ((cn : Nat) : Int).toNat else if v = 2 then m_co ((cn : Nat) : Int).toNat else if v = 3 then m_pa ((cn : Nat) : Int).toNat else -2000000001) else -2000000001 by (try simp only [Int.toNat_natCast]); first | (rw [if_neg (by omega)]; done) | (rw [if_pos (by omega), if_pos (by omega)]; done) | (rw [if_pos (by omega), if_neg (by omega), if_pos (by omega)]; done) | (rw [if_pos (by omega), if_neg (by omega), if_neg (by omega), if_pos (by omega)]; done) | (rw [if_pos (by omega), if_neg (by omega), if_neg (by omega), if_neg (by omega), if_pos (by omega)]; done) | (rw [if_pos (by omega), if_neg (by omega), if_neg (by omega), if_neg (by omega), if_neg (by omega)]; done))) dX7_about_67
          · skip
            refine g_aload_n F 0 rfl rfl dX7_about_52 ?_
            refine g_get F hV iX7 0 rfl rfl 4 (by decide) (List.mem_of_getElem? (i := 4) rfl) rfl dX7_about_53 ?_
            refine g_iload_n F 1 rfl rfl dX7_about_56 ?_
            refine g_iald F hV 4 rfl (cn) (by omega) (by omega) (by decide) dX7_about_57 ?_
            refine g_goto F (tgt := 67) dX7_about_58 (by decide) ?_
            exact g_zretR F rfl rfl (congrArg (fun z => some (iv z)) (show (m_co cn : Int) = if 0 ≤ ((cn : Nat) : Int) ∧ ((cn : Nat) : Int) < (m_nc : Int) then (if v = 0 then m_lo ((cn : Nat) : Int).toNat else if v = 1 then m_hi ((cn : Nat) : Int).toNat else if v = 2 then m_co ((cn : Nat) : Int).toNat else if v = 3 then m_pa ((cn : Nat) : Int).toNat else -2000000001) else -2000000001 by (try simp only [Int.toNat_natCast]); first | (rw [if_neg (by omega)]; done) | (rw [if_pos (by omega), if_pos (by omega)]; done) | (rw [if_pos (by omega), if_neg (by omega), if_pos (by omega)]; done) | (rw [if_pos (by omega), if_neg (by omega), if_neg (by omega), if_pos (by omega)]; done) | (rw [if_pos (by omega), if_neg (by omega), if_neg (by omega), if_neg (by omega), if_pos (by omega)]; done) | (rw [if_pos (by omega), if_neg (by omega), if_neg (by omega), if_neg (by omega), if_neg (by omega)]; done))) dX7_about_67
        · skip
          refine g_aload_n F 0 rfl rfl dX7_about_38 ?_
          refine g_get F hV iX7 0 rfl rfl 3 (by decide) (List.mem_of_getElem? (i := 3) rfl) rfl dX7_about_39 ?_
          refine g_iload_n F 1 rfl rfl dX7_about_42 ?_
          refine g_iald F hV 3 rfl (cn) (by omega) (by omega) (by decide) dX7_about_43 ?_
          refine g_goto F (tgt := 67) dX7_about_44 (by decide) ?_
          exact g_zretR F rfl rfl (congrArg (fun z => some (iv z)) (show (m_hi cn : Int) = if 0 ≤ ((cn : Nat) : Int) ∧ ((cn : Nat) : Int) < (m_nc : Int) then (if v = 0 then m_lo ((cn : Nat) : Int).toNat else if v = 1 then m_hi ((cn : Nat) : Int).toNat else if v = 2 then m_co ((cn : Nat) : Int).toNat else if v = 3 then m_pa ((cn : Nat) : Int).toNat else -2000000001) else -2000000001 by (try simp only [Int.toNat_natCast]); first | (rw [if_neg (by omega)]; done) | (rw [if_pos (by omega), if_pos (by omega)]; done) | (rw [if_pos (by omega), if_neg (by omega), if_pos (by omega)]; done) | (rw [if_pos (by omega), if_neg (by omega), if_neg (by omega), if_pos (by omega)]; done) | (rw [if_pos (by omega), if_neg (by omega), if_neg (by omega), if_neg (by omega), if_pos (by omega)]; done) | (rw [if_pos (by omega), if_neg (by omega), if_neg (by omega), if_neg (by omega), if_neg (by omega)]; done))) dX7_about_67
      · skip
        refine g_aload_n F 0 rfl rfl dX7_about_24 ?_
        refine g_get F hV iX7 0 rfl rfl 2 (by decide) (List.mem_of_getElem? (i := 2) rfl) rfl dX7_about_25 ?_
        refine g_iload_n F 1 rfl rfl dX7_about_28 ?_
        refine g_iald F hV 2 rfl (cn) (by omega) (by omega) (by decide) dX7_about_29 ?_
        refine g_goto F (tgt := 67) dX7_about_30 (by decide) ?_
        exact g_zretR F rfl rfl (congrArg (fun z => some (iv z)) (show (m_lo cn : Int) = if 0 ≤ ((cn : Nat) : Int) ∧ ((cn : Nat) : Int) < (m_nc : Int) then (if v = 0 then m_lo ((cn : Nat) : Int).toNat else if v = 1 then m_hi ((cn : Nat) : Int).toNat else if v = 2 then m_co ((cn : Nat) : Int).toNat else if v = 3 then m_pa ((cn : Nat) : Int).toNat else -2000000001) else -2000000001 by (try simp only [Int.toNat_natCast]); first | (rw [if_neg (by omega)]; done) | (rw [if_pos (by omega), if_pos (by omega)]; done) | (rw [if_pos (by omega), if_neg (by omega), if_pos (by omega)]; done) | (rw [if_pos (by omega), if_neg (by omega), if_neg (by omega), if_pos (by omega)]; done) | (rw [if_pos (by omega), if_neg (by omega), if_neg (by omega), if_neg (by omega), if_pos (by omega)]; done) | (rw [if_pos (by omega), if_neg (by omega), if_neg (by omega), if_neg (by omega), if_neg (by omega)]; done))) dX7_about_67
    · skip
      refine g_ldc F (-2000000001) (by decide) (List.mem_of_getElem? (i := 1) rfl) dX7_about_17 ?_
      exact g_zretR F rfl rfl (congrArg (fun z => some (iv z)) (show (-2000000001 : Int) = if 0 ≤ ((cn : Nat) : Int) ∧ ((cn : Nat) : Int) < (m_nc : Int) then (if v = 0 then m_lo ((cn : Nat) : Int).toNat else if v = 1 then m_hi ((cn : Nat) : Int).toNat else if v = 2 then m_co ((cn : Nat) : Int).toNat else if v = 3 then m_pa ((cn : Nat) : Int).toNat else -2000000001) else -2000000001 by (try simp only [Int.toNat_natCast]); first | (rw [if_neg (by omega)]; done) | (rw [if_pos (by omega), if_pos (by omega)]; done) | (rw [if_pos (by omega), if_neg (by omega), if_pos (by omega)]; done) | (rw [if_pos (by omega), if_neg (by omega), if_neg (by omega), if_pos (by omega)]; done) | (rw [if_pos (by omega), if_neg (by omega), if_neg (by omega), if_neg (by omega), if_pos (by omega)]; done) | (rw [if_pos (by omega), if_neg (by omega), if_neg (by omega), if_neg (by omega), if_neg (by omega)]; done))) dX7_about_19

set_option maxHeartbeats 4000000 in
set_option maxRecDepth 100000 in
theorem kX7_told (l : Launch) (D : va_G) (cA : Nat → ClassId) (m : Nat → Nat) (m_nc : Nat) (m_nr : Nat) (m_ke : Int) (m_so : Int) (m_bu : Int) (m_bc : Int) (m_pu : Int) (m_qu : Int) (m_fs : Int) (m_cd : Int) (m_un : Int) (m_hb : Int) (m_pf : Int) (m_ef : Int) (m_kd : Nat → Int) (m_lo : Nat → Int) (m_hi : Nat → Int) (m_co : Nat → Int) (m_pa : Nat → Int) (m_rk : Nat → Int) (m_nu : Nat → Int) (m_ct : Nat → Int) (m_sa : Nat → Int) (c : Int) (v : Int) (hc : -2147483648 ≤ c ∧ c ≤ 2147483647) (hv : -2147483648 ≤ v ∧ v ≤ 2147483647) (qnc : m_nc ≤ 5) (qnr : m_nr ≤ 7) (qkd : ∀ j, 0 ≤ m_kd j ∧ m_kd j ≤ 2) (qct : ∀ j, 0 ≤ m_ct j ∧ m_ct j ≤ 1) : CR l yX7_told wsX7_told ({ frames := 2, cells := 0, slots := 0, locals := 43 }) D cA [.ref (m 0), iv (c), iv (v)] (wMO cA m (((m_nc : Nat) : Int)) (((m_nr : Nat) : Int)) (m_ke) (m_so) (m_bu) (m_bc) (m_pu) (m_qu) (m_fs) (m_cd) (m_un) (m_hb) (m_pf) (m_ef) ++ wMP cA m (m_kd) (m_lo) (m_hi) (m_co) (m_pa) (m_rk) (m_nu) (m_ct) (m_sa)) (fun ov => ov = some (iv (if 0 ≤ c ∧ c < (m_nr : Int) then (if v = 0 then m_rk c.toNat else if v = 1 then m_nu c.toNat else if v = 2 then m_ct c.toNat else if 2 < v ∧ v - 3 < (m_nc : Int) then m_sa (c.toNat * 5 + (v - 3).toNat) else -2000000001) else -2000000001))) := by
  refine CR.mk (cc := cX7_told) (maxL := 3) (ret := (some .int)) (by decide +kernel) rfl (Nat.le_of_ble_eq_true rfl) ?_
  intro p_ e_ s_ m_ b_ me_ c_ F
  have hV := @IR_P D s_
  have iX7 : ∀ w ∈ u_ws RX7 TX7 38, w ∈ wsX7_told := by decide +kernel
  refine g_lsub ([(0, .ref (m 0)), (1, iv (c)), (2, iv (v))]) [0, 1, 2] rfl ?_
  refine g_aload_n F 0 rfl rfl dX7_told_0 ?_
  refine g_iload_n F 1 rfl rfl dX7_told_1 ?_
  refine g_callRV F hV (As := [iv (c)]) (rest := []) (kX7_isRow l D cA m m_nc m_nr m_ke m_so m_bu m_bc m_pu m_qu m_fs m_cd m_un m_hb m_pf m_ef c (by omega) (qnr)) (cwV 1 F.2.2.2.2.1 gX7_told_X7_isRow rfl rfl rfl (by decide +kernel) ⟨Nat.le_of_ble_eq_true rfl, Nat.le_of_ble_eq_true rfl⟩) rfl rfl (q0 := 0) rfl [0] rfl rfl rfl (Nat.le_of_ble_eq_true rfl) ⟨Nat.le_of_ble_eq_true rfl, Nat.le_of_ble_eq_true rfl⟩ dX7_told_2 (fun v hv => ?_)
  subst hv
  refine g_eq (st' := [iv (if 0 ≤ c ∧ c < (m_nr : Int) then 1 else 0)]) rfl rfl rfl ?_
  refine g_ifb_eq F (tgt := 22) dX7_told_5 (by decide) (fun c_1 => ?_) (fun c_1 => ?_)
  · skip
    refine g_ldc F (-2000000001) (by decide) (List.mem_of_getElem? (i := 2) rfl) dX7_told_22 ?_
    exact g_zretR F rfl rfl (congrArg (fun z => some (iv z)) (show (-2000000001 : Int) = if 0 ≤ c ∧ c < (m_nr : Int) then (if v = 0 then m_rk c.toNat else if v = 1 then m_nu c.toNat else if v = 2 then m_ct c.toNat else if 2 < v ∧ v - 3 < (m_nc : Int) then m_sa (c.toNat * 5 + (v - 3).toNat) else -2000000001) else -2000000001 by (try simp only [Int.toNat_natCast]); first | (rw [if_neg (by omega)]; done) | (rw [if_pos (by omega), if_pos (by omega)]; done) | (rw [if_pos (by omega), if_neg (by omega), if_pos (by omega)]; done) | (rw [if_pos (by omega), if_neg (by omega), if_neg (by omega), if_pos (by omega)]; done) | (rw [if_pos (by omega), if_neg (by omega), if_neg (by omega), if_neg (by omega), if_pos (by omega)]; done) | (rw [if_pos (by omega), if_neg (by omega), if_neg (by omega), if_neg (by omega), if_neg (by omega)]; done) | (rw [if_pos (by omega), if_neg (by omega), if_neg (by omega), if_pos (by omega)]; omega) | (rw [if_pos (by omega), if_neg (by omega), if_neg (by omega), if_neg (by omega), if_pos (by omega), hpx, Int.toNat_natCast]; done))) dX7_told_24
  · skip
    obtain ⟨cn, hcn⟩ : ∃ y : Nat, c = (y : Int) := ⟨c.toNat, by omega⟩
    subst hcn
    refine g_iload_n F 2 rfl rfl dX7_told_8 ?_
    refine g_iconst F dX7_told_9 ?_
    refine g_iconst F dX7_told_10 ?_
    refine g_aload_n F 0 rfl rfl dX7_told_11 ?_
    refine g_get F hV iX7 0 rfl rfl 0 (by decide) (List.mem_of_getElem? (i := 1) rfl) rfl dX7_told_12 ?_
    refine g_iadd F dX7_told_15 ?_
    refine g_callRS F hV (As := [iv (v), iv (0), iv (2 + (((m_nc : Nat) : Int)))]) (rest := []) (kX7_isIn l D cA v 0 (2 + (((m_nc : Nat) : Int))) (by omega) (by omega) (by omega)) (va_cwS 3 F.2.2.2.2.1 gX7_told_X7_isIn rfl rfl rfl (by decide +kernel) ⟨Nat.le_of_ble_eq_true rfl, Nat.le_of_ble_eq_true rfl⟩) [] rfl rfl rfl (Nat.le_of_ble_eq_true rfl) ⟨Nat.le_of_ble_eq_true rfl, Nat.le_of_ble_eq_true rfl⟩ dX7_told_16 (fun v hv => ?_)
    subst hv
    refine g_eq (st' := [iv (if 0 ≤ v ∧ v ≤ (2 + (((m_nc : Nat) : Int))) then 1 else 0)]) rfl rfl rfl ?_
    refine g_ifb_ne F (tgt := 25) dX7_told_19 (by decide) (fun c_2 => ?_) (fun c_2 => ?_)
    · skip
      refine g_iload_n F 2 rfl rfl dX7_told_25 ?_
      refine g_if_ne F (tgt := 38) dX7_told_26 (by decide) ⟨by omega, by omega⟩ (fun c_3 => ?_) (fun c_3 => ?_)
      · skip
        refine g_iload_n F 2 rfl rfl dX7_told_38 ?_
        refine g_iconst F dX7_told_39 ?_
        refine g_icmp_ne F (tgt := 52) dX7_told_40 (by decide) ⟨by omega, by omega⟩ ⟨by decide, by decide⟩ (fun c_4 => ?_) (fun c_4 => ?_)
        · skip
          refine g_iload_n F 2 rfl rfl dX7_told_52 ?_
          refine g_iconst F dX7_told_53 ?_
          refine g_icmp_ne F (tgt := 74) dX7_told_54 (by decide) ⟨by omega, by omega⟩ ⟨by decide, by decide⟩ (fun c_5 => ?_) (fun c_5 => ?_)
          · skip
            obtain ⟨px, hpx⟩ : ∃ px : Nat, v - 3 = (px : Int) := ⟨(v - 3).toNat, by omega⟩
            refine g_aload_n F 0 rfl rfl dX7_told_74 ?_
            refine g_get F hV iX7 0 rfl rfl 10 (by decide) (List.mem_of_getElem? (i := 6) rfl) rfl dX7_told_75 ?_
            refine g_iconst F dX7_told_78 ?_
            refine g_iload_n F 1 rfl rfl dX7_told_79 ?_
            refine g_imul F dX7_told_80 ?_
            refine g_iload_n F 2 rfl rfl dX7_told_81 ?_
            refine g_iadd F dX7_told_82 ?_
            refine g_iconst F dX7_told_83 ?_
            refine g_isub F dX7_told_84 ?_
            refine g_iald F hV 9 rfl (cn * 5 + px) (by omega) (by omega) (by decide) dX7_told_85 ?_
            exact g_zretR F rfl rfl (congrArg (fun z => some (iv z)) (show (m_sa (cn * 5 + px) : Int) = if 0 ≤ ((cn : Nat) : Int) ∧ ((cn : Nat) : Int) < (m_nr : Int) then (if v = 0 then m_rk ((cn : Nat) : Int).toNat else if v = 1 then m_nu ((cn : Nat) : Int).toNat else if v = 2 then m_ct ((cn : Nat) : Int).toNat else if 2 < v ∧ v - 3 < (m_nc : Int) then m_sa (((cn : Nat) : Int).toNat * 5 + (v - 3).toNat) else -2000000001) else -2000000001 by (try simp only [Int.toNat_natCast]); first | (rw [if_neg (by omega)]; done) | (rw [if_pos (by omega), if_pos (by omega)]; done) | (rw [if_pos (by omega), if_neg (by omega), if_pos (by omega)]; done) | (rw [if_pos (by omega), if_neg (by omega), if_neg (by omega), if_pos (by omega)]; done) | (rw [if_pos (by omega), if_neg (by omega), if_neg (by omega), if_neg (by omega), if_pos (by omega)]; done) | (rw [if_pos (by omega), if_neg (by omega), if_neg (by omega), if_neg (by omega), if_neg (by omega)]; done) | (rw [if_pos (by omega), if_neg (by omega), if_neg (by omega), if_pos (by omega)]; omega) | (rw [if_pos (by omega), if_neg (by omega), if_neg (by omega), if_neg (by omega), if_pos (by omega), hpx, Int.toNat_natCast]; done))) dX7_told_86
          · skip
            refine g_aload_n F 0 rfl rfl dX7_told_57 ?_
            refine g_get F hV iX7 0 rfl rfl 9 (by decide) (List.mem_of_getElem? (i := 5) rfl) rfl dX7_told_58 ?_
            refine g_iload_n F 1 rfl rfl dX7_told_61 ?_
            have r_6 := qct (cn)
            refine g_zald F hV 8 rfl (cn) (by omega) (by omega) (by decide) dX7_told_62 ?_
            refine g_if_eq F (tgt := 70) dX7_told_63 (by decide) ⟨by omega, by omega⟩ (fun c_7 => ?_) (fun c_7 => ?_)
            · skip
              refine g_iconst F dX7_told_70 ?_
              refine g_goto F (tgt := 86) dX7_told_71 (by decide) ?_
              exact g_zretR F rfl rfl (congrArg (fun z => some (iv z)) (show (0 : Int) = if 0 ≤ ((cn : Nat) : Int) ∧ ((cn : Nat) : Int) < (m_nr : Int) then (if v = 0 then m_rk ((cn : Nat) : Int).toNat else if v = 1 then m_nu ((cn : Nat) : Int).toNat else if v = 2 then m_ct ((cn : Nat) : Int).toNat else if 2 < v ∧ v - 3 < (m_nc : Int) then m_sa (((cn : Nat) : Int).toNat * 5 + (v - 3).toNat) else -2000000001) else -2000000001 by (try simp only [Int.toNat_natCast]); first | (rw [if_neg (by omega)]; done) | (rw [if_pos (by omega), if_pos (by omega)]; done) | (rw [if_pos (by omega), if_neg (by omega), if_pos (by omega)]; done) | (rw [if_pos (by omega), if_neg (by omega), if_neg (by omega), if_pos (by omega)]; done) | (rw [if_pos (by omega), if_neg (by omega), if_neg (by omega), if_neg (by omega), if_pos (by omega)]; done) | (rw [if_pos (by omega), if_neg (by omega), if_neg (by omega), if_neg (by omega), if_neg (by omega)]; done) | (rw [if_pos (by omega), if_neg (by omega), if_neg (by omega), if_pos (by omega)]; omega) | (rw [if_pos (by omega), if_neg (by omega), if_neg (by omega), if_neg (by omega), if_pos (by omega), hpx, Int.toNat_natCast]; done))) dX7_told_86
            · skip
              refine g_iconst F dX7_told_66 ?_
              refine g_goto F (tgt := 86) dX7_told_67 (by decide) ?_
              exact g_zretR F rfl rfl (congrArg (fun z => some (iv z)) (show (1 : Int) = if 0 ≤ ((cn : Nat) : Int) ∧ ((cn : Nat) : Int) < (m_nr : Int) then (if v = 0 then m_rk ((cn : Nat) : Int).toNat else if v = 1 then m_nu ((cn : Nat) : Int).toNat else if v = 2 then m_ct ((cn : Nat) : Int).toNat else if 2 < v ∧ v - 3 < (m_nc : Int) then m_sa (((cn : Nat) : Int).toNat * 5 + (v - 3).toNat) else -2000000001) else -2000000001 by (try simp only [Int.toNat_natCast]); first | (rw [if_neg (by omega)]; done) | (rw [if_pos (by omega), if_pos (by omega)]; done) | (rw [if_pos (by omega), if_neg (by omega), if_pos (by omega)]; done) | (rw [if_pos (by omega), if_neg (by omega), if_neg (by omega), if_pos (by omega)]; done) | (rw [if_pos (by omega), if_neg (by omega), if_neg (by omega), if_neg (by omega), if_pos (by omega)]; done) | (rw [if_pos (by omega), if_neg (by omega), if_neg (by omega), if_neg (by omega), if_neg (by omega)]; done) | (rw [if_pos (by omega), if_neg (by omega), if_neg (by omega), if_pos (by omega)]; omega) | (rw [if_pos (by omega), if_neg (by omega), if_neg (by omega), if_neg (by omega), if_pos (by omega), hpx, Int.toNat_natCast]; done))) dX7_told_86
        · skip
          refine g_aload_n F 0 rfl rfl dX7_told_43 ?_
          refine g_get F hV iX7 0 rfl rfl 8 (by decide) (List.mem_of_getElem? (i := 4) rfl) rfl dX7_told_44 ?_
          refine g_iload_n F 1 rfl rfl dX7_told_47 ?_
          refine g_iald F hV 7 rfl (cn) (by omega) (by omega) (by decide) dX7_told_48 ?_
          refine g_goto F (tgt := 86) dX7_told_49 (by decide) ?_
          exact g_zretR F rfl rfl (congrArg (fun z => some (iv z)) (show (m_nu cn : Int) = if 0 ≤ ((cn : Nat) : Int) ∧ ((cn : Nat) : Int) < (m_nr : Int) then (if v = 0 then m_rk ((cn : Nat) : Int).toNat else if v = 1 then m_nu ((cn : Nat) : Int).toNat else if v = 2 then m_ct ((cn : Nat) : Int).toNat else if 2 < v ∧ v - 3 < (m_nc : Int) then m_sa (((cn : Nat) : Int).toNat * 5 + (v - 3).toNat) else -2000000001) else -2000000001 by (try simp only [Int.toNat_natCast]); first | (rw [if_neg (by omega)]; done) | (rw [if_pos (by omega), if_pos (by omega)]; done) | (rw [if_pos (by omega), if_neg (by omega), if_pos (by omega)]; done) | (rw [if_pos (by omega), if_neg (by omega), if_neg (by omega), if_pos (by omega)]; done) | (rw [if_pos (by omega), if_neg (by omega), if_neg (by omega), if_neg (by omega), if_pos (by omega)]; done) | (rw [if_pos (by omega), if_neg (by omega), if_neg (by omega), if_neg (by omega), if_neg (by omega)]; done) | (rw [if_pos (by omega), if_neg (by omega), if_neg (by omega), if_pos (by omega)]; omega) | (rw [if_pos (by omega), if_neg (by omega), if_neg (by omega), if_neg (by omega), if_pos (by omega), hpx, Int.toNat_natCast]; done))) dX7_told_86
      · skip
        refine g_aload_n F 0 rfl rfl dX7_told_29 ?_
        refine g_get F hV iX7 0 rfl rfl 7 (by decide) (List.mem_of_getElem? (i := 3) rfl) rfl dX7_told_30 ?_
        refine g_iload_n F 1 rfl rfl dX7_told_33 ?_
        refine g_iald F hV 6 rfl (cn) (by omega) (by omega) (by decide) dX7_told_34 ?_
        refine g_goto F (tgt := 86) dX7_told_35 (by decide) ?_
        exact g_zretR F rfl rfl (congrArg (fun z => some (iv z)) (show (m_rk cn : Int) = if 0 ≤ ((cn : Nat) : Int) ∧ ((cn : Nat) : Int) < (m_nr : Int) then (if v = 0 then m_rk ((cn : Nat) : Int).toNat else if v = 1 then m_nu ((cn : Nat) : Int).toNat else if v = 2 then m_ct ((cn : Nat) : Int).toNat else if 2 < v ∧ v - 3 < (m_nc : Int) then m_sa (((cn : Nat) : Int).toNat * 5 + (v - 3).toNat) else -2000000001) else -2000000001 by (try simp only [Int.toNat_natCast]); first | (rw [if_neg (by omega)]; done) | (rw [if_pos (by omega), if_pos (by omega)]; done) | (rw [if_pos (by omega), if_neg (by omega), if_pos (by omega)]; done) | (rw [if_pos (by omega), if_neg (by omega), if_neg (by omega), if_pos (by omega)]; done) | (rw [if_pos (by omega), if_neg (by omega), if_neg (by omega), if_neg (by omega), if_pos (by omega)]; done) | (rw [if_pos (by omega), if_neg (by omega), if_neg (by omega), if_neg (by omega), if_neg (by omega)]; done) | (rw [if_pos (by omega), if_neg (by omega), if_neg (by omega), if_pos (by omega)]; omega) | (rw [if_pos (by omega), if_neg (by omega), if_neg (by omega), if_neg (by omega), if_pos (by omega), hpx, Int.toNat_natCast]; done))) dX7_told_86
    · skip
      refine g_ldc F (-2000000001) (by decide) (List.mem_of_getElem? (i := 2) rfl) dX7_told_22 ?_
      exact g_zretR F rfl rfl (congrArg (fun z => some (iv z)) (show (-2000000001 : Int) = if 0 ≤ ((cn : Nat) : Int) ∧ ((cn : Nat) : Int) < (m_nr : Int) then (if v = 0 then m_rk ((cn : Nat) : Int).toNat else if v = 1 then m_nu ((cn : Nat) : Int).toNat else if v = 2 then m_ct ((cn : Nat) : Int).toNat else if 2 < v ∧ v - 3 < (m_nc : Int) then m_sa (((cn : Nat) : Int).toNat * 5 + (v - 3).toNat) else -2000000001) else -2000000001 by (try simp only [Int.toNat_natCast]); first | (rw [if_neg (by omega)]; done) | (rw [if_pos (by omega), if_pos (by omega)]; done) | (rw [if_pos (by omega), if_neg (by omega), if_pos (by omega)]; done) | (rw [if_pos (by omega), if_neg (by omega), if_neg (by omega), if_pos (by omega)]; done) | (rw [if_pos (by omega), if_neg (by omega), if_neg (by omega), if_neg (by omega), if_pos (by omega)]; done) | (rw [if_pos (by omega), if_neg (by omega), if_neg (by omega), if_neg (by omega), if_neg (by omega)]; done) | (rw [if_pos (by omega), if_neg (by omega), if_neg (by omega), if_pos (by omega)]; omega) | (rw [if_pos (by omega), if_neg (by omega), if_neg (by omega), if_neg (by omega), if_pos (by omega), hpx, Int.toNat_natCast]; done))) dX7_told_24
