theorem kp_iff {n : Nat} {cs cn ck cr : Nat → Int} {un : Int} {k : Nat} : okD (ck k) (dotZ (n + 1) (cdV n cs cn k) (ptV cr un)) ↔ keptP (ck k) (sumZ (fun j => cs (k * 5 + j) * cr j) n) (cn k * un) := by
  rw [cd_dot, pt_0, kept_ok]
  have e : (fun j => cs (k * 5 + j) * ptV cr un (1 + j)) = fun j => cs (k * 5 + j) * cr j := by funext j; rw [pt_c]
  rw [e]
theorem sum_lt {f : Nat → Int} {B : Nat} : ∀ n, (∀ j, j < n → (f j).natAbs ≤ B) → (sumZ f n).natAbs ≤ n * B
  | 0, _ => by simp [sumZ]
  | n + 1, h => by
    have h1 := sum_lt n (fun j hj => h j (by omega))
    have h2 := h n (by omega)
    show (sumZ f n + f n).natAbs ≤ _
    rw [Nat.add_mul]
    omega
theorem pv_dn {n K t : Nat} {c : Nat → Int} (ht : 1 ≤ t) (h : c (t - 1) = (K : Int) - n + ((t : Int) - 1)) : pvI n K c (t - 1) = pvI n K c t := by
  obtain ⟨u, rfl⟩ : ∃ u, t = u + 1 := ⟨t - 1, by omega⟩
  rw [show u + 1 - 1 = u by omega] at h ⊢
  show _ = if c u = (K : Int) - n + u then pvI n K c u else (u : Int)
  rw [if_pos (by rw [h]; omega)]
theorem pv_at {n K t : Nat} {c : Nat → Int} (ht : 1 ≤ t) (h : c (t - 1) ≠ (K : Int) - n + ((t : Int) - 1)) : pvI n K c t = ((t - 1 : Nat) : Int) := by
  obtain ⟨u, rfl⟩ : ∃ u, t = u + 1 := ⟨t - 1, by omega⟩
  rw [show u + 1 - 1 = u by omega] at h ⊢
  show (if c u = (K : Int) - n + u then pvI n K c u else (u : Int)) = _
  rw [if_neg (by omega)]
theorem nx_0 {c : Nat → Int} {i0 n : Nat} : ∀ q, q < n → va_up c i0 (c i0 + 1) q = if q < i0 + 1 then nxC c i0 q else c q := by
  intro q _
  by_cases e : q = i0
  · subst e
    rw [up_same, if_pos (by omega)]
    unfold nxC
    rw [if_neg (by omega)]; omega
  · rw [up_ne e]
    by_cases e2 : q < i0
    · rw [if_pos (by omega)]
      unfold nxC
      rw [if_pos e2]
    · rw [if_neg (by omega)]
theorem nx_s {c cx : Nat → Int} {i0 n j : Nat} (hj : i0 + 1 ≤ j) (hn : j < n) (h : ∀ q, q < n → cx q = if q < j then nxC c i0 q else c q) : ∀ q, q < n → va_up cx j (cx (j - 1) + 1) q = if q < j + 1 then nxC c i0 q else c q := by
  intro q hq
  by_cases e : q = j
  · subst e
    rw [up_same, if_pos (by omega), h (q - 1) (by omega), if_pos (by omega)]
    unfold nxC
    rw [if_neg (by omega), if_neg (by omega)]
    omega
  · rw [up_ne e, h q hq]
    by_cases e2 : q < j
    · rw [if_pos e2, if_pos (by omega)]
    · rw [if_neg e2, if_neg (by omega)]
set_option maxHeartbeats 4000000 in
set_option maxRecDepth 100000 in
theorem kX7_keepsAll (l : Launch) (D : va_G) (cA : Nat → ClassId) (m : Nat → Nat) (m_nc : Nat) (m_nr : Nat) (m_ke : Int) (m_so : Int) (m_bu : Int) (m_bc : Int) (m_pu : Int) (m_qu : Int) (m_fs : Nat) (m_cd : Nat) (m_un : Int) (m_hb : Int) (m_pf : Int) (m_ef : Int) (m_fr : Nat → Int) (m_cs : Nat → Int) (m_cn : Nat → Int) (m_ck : Nat → Int) (m_ch : Nat → Int) (m_tb : Nat → Int) (m_cr : Nat → Int) (hn : m_fs ≤ 5) (hK : m_cd ≤ 20) (hs : smallC m_fs m_cd m_cs m_cn) (hkk : ∀ k, k < m_cd → 0 ≤ m_ck k ∧ m_ck k ≤ 2) (hcr : ∀ j, j < m_fs → (m_cr j).natAbs ≤ 70858800000) (hun : 0 < m_un ∧ m_un ≤ 7085880) : CT l yX7_keepsAll wsX7_keepsAll ({ frames := 0, cells := 0, slots := 0, locals := 0 }) D cA [.ref (m 0)] (wMO cA m (((m_nc : Nat) : Int)) (((m_nr : Nat) : Int)) (m_ke) (m_so) (m_bu) (m_bc) (m_pu) (m_qu) (((m_fs : Nat) : Int)) (((m_cd : Nat) : Int)) (m_un) (m_hb) (m_pf) (m_ef) ++ wME cA m (m_fr) (m_cs) (m_cn) (m_ck) (m_ch) (m_tb) (m_cr)) (fun ov ow => ∃ (r : Bool), (r = true ↔ plP m_fs m_cd (cdV m_fs m_cs m_cn) m_ck (ptV m_cr m_un)) ∧ ov = some (iv (if r = true then 1 else 0)) ∧ ow = wMO cA m (((m_nc : Nat) : Int)) (((m_nr : Nat) : Int)) (m_ke) (m_so) (m_bu) (m_bc) (m_pu) (m_qu) (((m_fs : Nat) : Int)) (((m_cd : Nat) : Int)) (m_un) (m_hb) (m_pf) (m_ef) ++ wME cA m (m_fr) (m_cs) (m_cn) (m_ck) (m_ch) (m_tb) (m_cr)) 0 0 := by
  refine CT.mk (cc := cX7_keepsAll) (maxL := 7) (ret := (some .boolean)) (by decide +kernel) rfl (Nat.le_of_ble_eq_true rfl) ?_
  intro p_ e_ s_ m_ b_ me_ c_ A F hnm hA
  have hV := @IM_P D s_ A
  have iX7 : ∀ w ∈ u_ws RX7 TX7 38, w ∈ wsX7_keepsAll := by decide +kernel
  refine g_lsub ([(0, .ref (m 0))]) [0] rfl ?_
  refine g_iconst F dX7_keepsAll_0 ?_
  refine g_istore_n F ([(1, iv (0)), (0, .ref (m 0))]) rfl rfl (by decide) dX7_keepsAll_1 ?_
  have lp2 : ∀ (n : Nat) (k : Nat) (hk : k ≤ m_cd) (hA : ∀ q, q < k → keptP (m_ck q) (sumZ (fun j => m_cs (q * 5 + j) * m_cr j) m_fs) (m_cn q * m_un)), m_cd - k < n → GW p_ l e_ (headSpec wsX7_keepsAll ({ frames := 0, cells := 0, slots := 0, locals := 0 })).room s_ m_ ([.ref (m 0)]).toArray b_ me_ c_ (MQ b_ (Qm D (fun ov ow => ∃ (r : Bool), (r = true ↔ plP m_fs m_cd (cdV m_fs m_cs m_cn) m_ck (ptV m_cr m_un)) ∧ ov = some (iv (if r = true then 1 else 0)) ∧ ow = wMO cA m (((m_nc : Nat) : Int)) (((m_nr : Nat) : Int)) (m_ke) (m_so) (m_bu) (m_bc) (m_pu) (m_qu) (((m_fs : Nat) : Int)) (((m_cd : Nat) : Int)) (m_un) (m_hb) (m_pf) (m_ef) ++ wME cA m (m_fr) (m_cs) (m_cn) (m_ck) (m_ch) (m_tb) (m_cr)) A) ([.ref (m 0)]).toArray s_ 0 0 A) (IM D s_ A) 7 0 0 (wMO cA m (((m_nc : Nat) : Int)) (((m_nr : Nat) : Int)) (m_ke) (m_so) (m_bu) (m_bc) (m_pu) (m_qu) (((m_fs : Nat) : Int)) (((m_cd : Nat) : Int)) (m_un) (m_hb) (m_pf) (m_ef) ++ wME cA m (m_fr) (m_cs) (m_cn) (m_ck) (m_ch) (m_tb) (m_cr)) ([(0, .ref (m 0)), (1, iv (((k : Nat) : Int)))]) [] 2 := by
    intro n; induction n with
    | zero => intro k; intros; omega
    | succ n ih2 =>
      intro k hk hA hmu2
      refine g_iload_n F 1 rfl rfl dX7_keepsAll_2 ?_
      refine g_aload_n F 0 rfl rfl dX7_keepsAll_3 ?_
      refine g_get F hV iX7 0 rfl rfl 22 (by decide) (List.mem_of_getElem? (i := 1) rfl) rfl dX7_keepsAll_4 ?_
      refine g_icmp_ge F (tgt := 142) dX7_keepsAll_7 (by decide) ⟨by omega, by omega⟩ ⟨by omega, by omega⟩ (fun c_1 => ?_) (fun c_1 => ?_)
      · skip
        refine g_iconst F dX7_keepsAll_142 ?_
        exact g_zret F rfl (nar_01 (Or.inr rfl)) (by decide) (by decide) ⟨true, ⟨fun _ => fun q hq => kp_iff.mpr (hA q (by omega)), fun _ => rfl⟩, congrArg (fun z => some (iv z)) (show (1 : Int) = if true = true then 1 else 0 by rfl), rfl⟩ dX7_keepsAll_143
      · skip
        refine g_lconst F (z := 0) dX7_keepsAll_10 (by decide) ?_
        refine g_lstore_n F ([(2, jv (0)), (0, .ref (m 0)), (1, iv (((k : Nat) : Int)))]) rfl rfl (by decide) dX7_keepsAll_11 ?_
        refine g_iconst F dX7_keepsAll_12 ?_
        refine g_istore F ([(4, iv (0)), (2, jv (0)), (0, .ref (m 0)), (1, iv (((k : Nat) : Int)))]) rfl (by decide) dX7_keepsAll_13 ?_
        have lp15 : ∀ (n : Nat) (j : Nat) (x : Int) (hj : j ≤ m_fs) (hx : x = sumZ (fun j => m_cs (k * 5 + j) * m_cr j) j), m_fs - j < n → GW p_ l e_ (headSpec wsX7_keepsAll ({ frames := 0, cells := 0, slots := 0, locals := 0 })).room s_ m_ ([.ref (m 0)]).toArray b_ me_ c_ (MQ b_ (Qm D (fun ov ow => ∃ (r : Bool), (r = true ↔ plP m_fs m_cd (cdV m_fs m_cs m_cn) m_ck (ptV m_cr m_un)) ∧ ov = some (iv (if r = true then 1 else 0)) ∧ ow = wMO cA m (((m_nc : Nat) : Int)) (((m_nr : Nat) : Int)) (m_ke) (m_so) (m_bu) (m_bc) (m_pu) (m_qu) (((m_fs : Nat) : Int)) (((m_cd : Nat) : Int)) (m_un) (m_hb) (m_pf) (m_ef) ++ wME cA m (m_fr) (m_cs) (m_cn) (m_ck) (m_ch) (m_tb) (m_cr)) A) ([.ref (m 0)]).toArray s_ 0 0 A) (IM D s_ A) 7 0 0 (wMO cA m (((m_nc : Nat) : Int)) (((m_nr : Nat) : Int)) (m_ke) (m_so) (m_bu) (m_bc) (m_pu) (m_qu) (((m_fs : Nat) : Int)) (((m_cd : Nat) : Int)) (m_un) (m_hb) (m_pf) (m_ef) ++ wME cA m (m_fr) (m_cs) (m_cn) (m_ck) (m_ch) (m_tb) (m_cr)) ([(0, .ref (m 0)), (1, iv (((k : Nat) : Int))), (2, jv (x)), (4, iv (((j : Nat) : Int)))]) [] 15 := by
          intro n; induction n with
          | zero => intro j x; intros; omega
          | succ n ih15 =>
            intro j x hj hx hmu15
            refine g_iload F 3 rfl dX7_keepsAll_15 ?_
            refine g_aload_n F 0 rfl rfl dX7_keepsAll_17 ?_
            refine g_get F hV iX7 0 rfl rfl 21 (by decide) (List.mem_of_getElem? (i := 2) rfl) rfl dX7_keepsAll_18 ?_
            refine g_icmp_ge F (tgt := 53) dX7_keepsAll_21 (by decide) ⟨by omega, by omega⟩ ⟨by omega, by omega⟩ (fun c_2 => ?_) (fun c_2 => ?_)
            · skip
              have hxe : x = sumZ (fun j => m_cs (k * 5 + j) * m_cr j) m_fs := by rw [hx, show j = m_fs by omega]
              have hxb : x.natAbs ≤ m_fs * (9 * 70858800000) := by rw [hxe]; exact sum_lt m_fs (fun j hj => mul_nat (hs.1 k j (by omega) hj) (hcr j hj))
              have hx5 : m_fs * (9 * 70858800000) ≤ 5 * (9 * 70858800000) := Nat.mul_le_mul_right _ hn
              have hnb := mul_nat (hs.2 k (by omega)) (show m_un.natAbs ≤ 7085880 by omega)
              have hck := hkk k (by omega)
              refine g_aload_n F 0 rfl rfl dX7_keepsAll_53 ?_
              refine g_get F hV iX7 0 rfl rfl 24 (by decide) (List.mem_of_getElem? (i := 5) rfl) rfl dX7_keepsAll_54 ?_
              refine g_iload_n F 1 rfl rfl dX7_keepsAll_57 ?_
              refine g_lald F hV 3 rfl (k) (by omega) (by omega) (by decide) dX7_keepsAll_58 ?_
              refine g_aload_n F 0 rfl rfl dX7_keepsAll_59 ?_
              refine g_get F hV iX7 0 rfl rfl 29 (by decide) (List.mem_of_getElem? (i := 6) rfl) rfl dX7_keepsAll_60 ?_
              refine g_lmul F dX7_keepsAll_63 ?_
              refine g_lstore F ([(4, jv ((m_cn k) * m_un)), (0, .ref (m 0)), (1, iv (((k : Nat) : Int))), (2, jv (x))]) rfl (by decide) dX7_keepsAll_64 ?_
              refine g_aload_n F 1 rfl rfl dX7_keepsAll_66 ?_
              refine g_get F hV iX7 0 rfl rfl 25 (by decide) (List.mem_of_getElem? (i := 7) rfl) rfl dX7_keepsAll_67 ?_
              refine g_iload_n F 2 rfl rfl dX7_keepsAll_70 ?_
              refine g_iald F hV 4 rfl (k) (by omega) (by omega) (by decide) dX7_keepsAll_71 ?_
              refine g_if_ne F (tgt := 90) dX7_keepsAll_72 (by decide) ⟨by omega, by omega⟩ (fun c_3 => ?_) (fun c_3 => ?_)
              · skip
                refine g_aload_n F 1 rfl rfl dX7_keepsAll_90 ?_
                refine g_get F hV iX7 0 rfl rfl 25 (by decide) (List.mem_of_getElem? (i := 7) rfl) rfl dX7_keepsAll_91 ?_
                refine g_iload_n F 2 rfl rfl dX7_keepsAll_94 ?_
                refine g_iald F hV 4 rfl (k) (by omega) (by omega) (by decide) dX7_keepsAll_95 ?_
                refine g_iconst F dX7_keepsAll_96 ?_
                refine g_icmp_ne F (tgt := 115) dX7_keepsAll_97 (by decide) ⟨by omega, by omega⟩ ⟨by decide, by decide⟩ (fun c_4 => ?_) (fun c_4 => ?_)
                · skip
                  refine g_lload_n F 3 rfl rfl dX7_keepsAll_115 ?_
                  refine g_lload F 0 rfl dX7_keepsAll_116 ?_
                  refine g_lcmp_ne F (tgt := 126) dX7_keepsAll_118 dX7_keepsAll_119 (by decide) ⟨by omega, by omega⟩ ⟨by omega, by omega⟩ (fun c_5 => ?_) (fun c_5 => ?_)
                  · skip
                    refine g_iconst F dX7_keepsAll_126 ?_
                    refine g_istore F ([(6, iv (0)), (4, jv ((m_cn k) * m_un)), (0, .ref (m 0)), (1, iv (((k : Nat) : Int))), (2, jv (x))]) rfl (by decide) dX7_keepsAll_127 ?_
                    refine g_iload F 0 rfl dX7_keepsAll_129 ?_
                    refine g_if_ne F (tgt := 136) dX7_keepsAll_131 (by decide) ⟨by decide, by decide⟩ (fun c_6 => ?_) (fun c_6 => ?_)
                    · skip
                      exfalso; omega
                    · skip
                      refine g_iconst F dX7_keepsAll_134 ?_
                      exact g_zret F rfl (nar_01 (Or.inl rfl)) (by decide) (by decide) ⟨false, ⟨fun z => absurd z (by decide), fun z => by exfalso; have h9 := kp_iff.mp (z k (by omega)); rw [← hxe] at h9; unfold keptP at h9; omega⟩, congrArg (fun z => some (iv z)) (show (0 : Int) = if false = true then 1 else 0 by rfl), rfl⟩ dX7_keepsAll_135
                  · skip
                    refine g_iconst F dX7_keepsAll_122 ?_
                    refine g_goto F (tgt := 127) dX7_keepsAll_123 (by decide) ?_
                    refine g_istore F ([(6, iv (1)), (4, jv ((m_cn k) * m_un)), (0, .ref (m 0)), (1, iv (((k : Nat) : Int))), (2, jv (x))]) rfl (by decide) dX7_keepsAll_127 ?_
                    refine g_iload F 0 rfl dX7_keepsAll_129 ?_
                    refine g_if_ne F (tgt := 136) dX7_keepsAll_131 (by decide) ⟨by decide, by decide⟩ (fun c_7 => ?_) (fun c_7 => ?_)
                    · skip
                      refine g_iinc F 3 rfl ([(1, iv ((((k : Nat) : Int)) + 1)), (6, iv (1)), (4, jv ((m_cn k) * m_un)), (0, .ref (m 0)), (2, jv (x))]) rfl (by decide) dX7_keepsAll_136 ?_
                      refine g_goto F (tgt := 2) dX7_keepsAll_139 (by decide) ?_
                      refine g_lsub ([(0, .ref (m 0)), (1, iv ((((k : Nat) : Int)) + 1))]) [3, 0] rfl ?_
                      exact ih2 (k + 1) (by omega) (fun q hq => by rcases (show q < k ∨ q = k by omega) with z | z; exact hA q z; (subst z; rw [← hxe]; unfold keptP; omega)) (by omega)
                    · skip
                      exfalso; omega
                · skip
                  refine g_lload_n F 3 rfl rfl dX7_keepsAll_100 ?_
                  refine g_lload F 0 rfl dX7_keepsAll_101 ?_
                  refine g_lcmp_lt F (tgt := 111) dX7_keepsAll_103 dX7_keepsAll_104 (by decide) ⟨by omega, by omega⟩ ⟨by omega, by omega⟩ (fun c_8 => ?_) (fun c_8 => ?_)
                  · skip
                    refine g_iconst F dX7_keepsAll_111 ?_
                    refine g_goto F (tgt := 127) dX7_keepsAll_112 (by decide) ?_
                    refine g_istore F ([(6, iv (0)), (4, jv ((m_cn k) * m_un)), (0, .ref (m 0)), (1, iv (((k : Nat) : Int))), (2, jv (x))]) rfl (by decide) dX7_keepsAll_127 ?_
                    refine g_iload F 0 rfl dX7_keepsAll_129 ?_
                    refine g_if_ne F (tgt := 136) dX7_keepsAll_131 (by decide) ⟨by decide, by decide⟩ (fun c_9 => ?_) (fun c_9 => ?_)
                    · skip
                      exfalso; omega
                    · skip
                      refine g_iconst F dX7_keepsAll_134 ?_
                      exact g_zret F rfl (nar_01 (Or.inl rfl)) (by decide) (by decide) ⟨false, ⟨fun z => absurd z (by decide), fun z => by exfalso; have h9 := kp_iff.mp (z k (by omega)); rw [← hxe] at h9; unfold keptP at h9; omega⟩, congrArg (fun z => some (iv z)) (show (0 : Int) = if false = true then 1 else 0 by rfl), rfl⟩ dX7_keepsAll_135
                  · skip
                    refine g_iconst F dX7_keepsAll_107 ?_
                    refine g_goto F (tgt := 127) dX7_keepsAll_108 (by decide) ?_
                    refine g_istore F ([(6, iv (1)), (4, jv ((m_cn k) * m_un)), (0, .ref (m 0)), (1, iv (((k : Nat) : Int))), (2, jv (x))]) rfl (by decide) dX7_keepsAll_127 ?_
                    refine g_iload F 0 rfl dX7_keepsAll_129 ?_
                    refine g_if_ne F (tgt := 136) dX7_keepsAll_131 (by decide) ⟨by decide, by decide⟩ (fun c_10 => ?_) (fun c_10 => ?_)
                    · skip
                      refine g_iinc F 3 rfl ([(1, iv ((((k : Nat) : Int)) + 1)), (6, iv (1)), (4, jv ((m_cn k) * m_un)), (0, .ref (m 0)), (2, jv (x))]) rfl (by decide) dX7_keepsAll_136 ?_
                      refine g_goto F (tgt := 2) dX7_keepsAll_139 (by decide) ?_
                      refine g_lsub ([(0, .ref (m 0)), (1, iv ((((k : Nat) : Int)) + 1))]) [3, 0] rfl ?_
                      exact ih2 (k + 1) (by omega) (fun q hq => by rcases (show q < k ∨ q = k by omega) with z | z; exact hA q z; (subst z; rw [← hxe]; unfold keptP; omega)) (by omega)
                    · skip
                      exfalso; omega
              · skip
                refine g_lload_n F 3 rfl rfl dX7_keepsAll_75 ?_
                refine g_lload F 0 rfl dX7_keepsAll_76 ?_
                refine g_lcmp_gt F (tgt := 86) dX7_keepsAll_78 dX7_keepsAll_79 (by decide) ⟨by omega, by omega⟩ ⟨by omega, by omega⟩ (fun c_11 => ?_) (fun c_11 => ?_)
                · skip
                  refine g_iconst F dX7_keepsAll_86 ?_
                  refine g_goto F (tgt := 127) dX7_keepsAll_87 (by decide) ?_
                  refine g_istore F ([(6, iv (0)), (4, jv ((m_cn k) * m_un)), (0, .ref (m 0)), (1, iv (((k : Nat) : Int))), (2, jv (x))]) rfl (by decide) dX7_keepsAll_127 ?_
                  refine g_iload F 0 rfl dX7_keepsAll_129 ?_
                  refine g_if_ne F (tgt := 136) dX7_keepsAll_131 (by decide) ⟨by decide, by decide⟩ (fun c_12 => ?_) (fun c_12 => ?_)
                  · skip
                    exfalso; omega
                  · skip
                    refine g_iconst F dX7_keepsAll_134 ?_
                    exact g_zret F rfl (nar_01 (Or.inl rfl)) (by decide) (by decide) ⟨false, ⟨fun z => absurd z (by decide), fun z => by exfalso; have h9 := kp_iff.mp (z k (by omega)); rw [← hxe] at h9; unfold keptP at h9; omega⟩, congrArg (fun z => some (iv z)) (show (0 : Int) = if false = true then 1 else 0 by rfl), rfl⟩ dX7_keepsAll_135
                · skip
                  refine g_iconst F dX7_keepsAll_82 ?_
                  refine g_goto F (tgt := 127) dX7_keepsAll_83 (by decide) ?_
                  refine g_istore F ([(6, iv (1)), (4, jv ((m_cn k) * m_un)), (0, .ref (m 0)), (1, iv (((k : Nat) : Int))), (2, jv (x))]) rfl (by decide) dX7_keepsAll_127 ?_
                  refine g_iload F 0 rfl dX7_keepsAll_129 ?_
                  refine g_if_ne F (tgt := 136) dX7_keepsAll_131 (by decide) ⟨by decide, by decide⟩ (fun c_13 => ?_) (fun c_13 => ?_)
                  · skip
                    refine g_iinc F 3 rfl ([(1, iv ((((k : Nat) : Int)) + 1)), (6, iv (1)), (4, jv ((m_cn k) * m_un)), (0, .ref (m 0)), (2, jv (x))]) rfl (by decide) dX7_keepsAll_136 ?_
                    refine g_goto F (tgt := 2) dX7_keepsAll_139 (by decide) ?_
                    refine g_lsub ([(0, .ref (m 0)), (1, iv ((((k : Nat) : Int)) + 1))]) [3, 0] rfl ?_
                    exact ih2 (k + 1) (by omega) (fun q hq => by rcases (show q < k ∨ q = k by omega) with z | z; exact hA q z; (subst z; rw [← hxe]; unfold keptP; omega)) (by omega)
                  · skip
                    exfalso; omega
            · skip
              have hc9 := hs.1 k j (by omega) (by omega)
              refine g_lload_n F 2 rfl rfl dX7_keepsAll_24 ?_
              refine g_aload_n F 0 rfl rfl dX7_keepsAll_25 ?_
              refine g_get F hV iX7 0 rfl rfl 23 (by decide) (List.mem_of_getElem? (i := 3) rfl) rfl dX7_keepsAll_26 ?_
              refine g_iconst F dX7_keepsAll_29 ?_
              refine g_iload_n F 1 rfl rfl dX7_keepsAll_30 ?_
              refine g_imul F dX7_keepsAll_31 ?_
              refine g_iload F 3 rfl dX7_keepsAll_32 ?_
              refine g_iadd F dX7_keepsAll_34 ?_
              refine g_iald F hV 2 rfl (k * 5 + j) (by omega) (by omega) (by decide) dX7_keepsAll_35 ?_
              refine g_i2l F ⟨by omega, by omega⟩ dX7_keepsAll_36 ?_
              refine g_aload_n F 0 rfl rfl dX7_keepsAll_37 ?_
              refine g_get F hV iX7 0 rfl rfl 28 (by decide) (List.mem_of_getElem? (i := 4) rfl) rfl dX7_keepsAll_38 ?_
              refine g_iload F 3 rfl dX7_keepsAll_41 ?_
              refine g_lald F hV 7 rfl (j) (by omega) (by omega) (by decide) dX7_keepsAll_43 ?_
              refine g_lmul F dX7_keepsAll_44 ?_
              refine g_ladd F dX7_keepsAll_45 ?_
              refine g_lstore_n F ([(2, jv (x + ((m_cs (k * 5 + j)) * (m_cr j)))), (0, .ref (m 0)), (1, iv (((k : Nat) : Int))), (4, iv (((j : Nat) : Int)))]) rfl rfl (by decide) dX7_keepsAll_46 ?_
              refine g_iinc F 3 rfl ([(4, iv ((((j : Nat) : Int)) + 1)), (2, jv (x + ((m_cs (k * 5 + j)) * (m_cr j)))), (0, .ref (m 0)), (1, iv (((k : Nat) : Int)))]) rfl (by decide) dX7_keepsAll_47 ?_
              refine g_goto F (tgt := 15) dX7_keepsAll_50 (by decide) ?_
              refine g_lsub ([(0, .ref (m 0)), (1, iv (((k : Nat) : Int))), (2, jv (x + ((m_cs (k * 5 + j)) * (m_cr j)))), (4, iv ((((j : Nat) : Int)) + 1))]) [2, 3, 1, 0] rfl ?_
              exact ih15 (j + 1) (x + ((m_cs (k * 5 + j)) * (m_cr j))) (by omega) (by rw [hx]; rfl) (by omega)
        refine g_lsub ([(0, .ref (m 0)), (1, iv (((k : Nat) : Int))), (2, jv (0)), (4, iv (0))]) [2, 3, 1, 0] rfl ?_
        exact lp15 (_ + 1) 0 0 (by omega) (rfl) (Nat.lt_succ_self _)
  refine g_lsub ([(0, .ref (m 0)), (1, iv (0))]) [1, 0] rfl ?_
  exact lp2 (_ + 1) 0 (by omega) (fun q hq => absurd hq (Nat.not_lt_zero q)) (Nat.lt_succ_self _)

set_option maxHeartbeats 4000000 in
set_option maxRecDepth 100000 in
theorem kX7_first (l : Launch) (D : va_G) (cA : Nat → ClassId) (m : Nat → Nat) (m_nc : Nat) (m_nr : Nat) (m_ke : Int) (m_so : Int) (m_bu : Int) (m_bc : Int) (m_pu : Int) (m_qu : Int) (m_fs : Nat) (m_cd : Nat) (m_un : Int) (m_hb : Int) (m_pf : Int) (m_ef : Int) (m_fr : Nat → Int) (m_cs : Nat → Int) (m_cn : Nat → Int) (m_ck : Nat → Int) (m_ch : Nat → Int) (m_tb : Nat → Int) (m_cr : Nat → Int) (hn : m_fs ≤ 5) (hK : m_cd ≤ 20) : CT l yX7_first wsX7_first ({ frames := 0, cells := 0, slots := 0, locals := 0 }) D cA [.ref (m 0)] (wMO cA m (((m_nc : Nat) : Int)) (((m_nr : Nat) : Int)) (m_ke) (m_so) (m_bu) (m_bc) (m_pu) (m_qu) (((m_fs : Nat) : Int)) (((m_cd : Nat) : Int)) (m_un) (m_hb) (m_pf) (m_ef) ++ wME cA m (m_fr) (m_cs) (m_cn) (m_ck) (m_ch) (m_tb) (m_cr)) (fun ov ow => ov = some (iv (if m_fs ≤ m_cd then 1 else 0)) ∧ ow = wMO cA m (((m_nc : Nat) : Int)) (((m_nr : Nat) : Int)) (m_ke) (m_so) (m_bu) (m_bc) (m_pu) (m_qu) (((m_fs : Nat) : Int)) (((m_cd : Nat) : Int)) (m_un) (m_hb) (m_pf) (m_ef) ++ wME cA m (m_fr) (m_cs) (m_cn) (m_ck) (mixZ (fun q => (q : Int)) m_ch m_fs) (m_tb) (m_cr)) 0 0 := by
  refine CT.mk (cc := cX7_first) (maxL := 2) (ret := (some .boolean)) (by decide +kernel) rfl (Nat.le_of_ble_eq_true rfl) ?_
  intro p_ e_ s_ m_ b_ me_ c_ A F hnm hA
  have hV := @IM_P D s_ A
  have iX7 : ∀ w ∈ u_ws RX7 TX7 38, w ∈ wsX7_first := by decide +kernel
  refine g_lsub ([(0, .ref (m 0))]) [0] rfl ?_
  refine g_iconst F dX7_first_0 ?_
  refine g_istore_n F ([(1, iv (0)), (0, .ref (m 0))]) rfl rfl (by decide) dX7_first_1 ?_
  have lp2 : ∀ (n : Nat) (i : Nat) (cx : Nat → Int) (hi : i ≤ m_fs) (hcx : cx = mixZ (fun q => (q : Int)) m_ch i), m_fs - i < n → GW p_ l e_ (headSpec wsX7_first ({ frames := 0, cells := 0, slots := 0, locals := 0 })).room s_ m_ ([.ref (m 0)]).toArray b_ me_ c_ (MQ b_ (Qm D (fun ov ow => ov = some (iv (if m_fs ≤ m_cd then 1 else 0)) ∧ ow = wMO cA m (((m_nc : Nat) : Int)) (((m_nr : Nat) : Int)) (m_ke) (m_so) (m_bu) (m_bc) (m_pu) (m_qu) (((m_fs : Nat) : Int)) (((m_cd : Nat) : Int)) (m_un) (m_hb) (m_pf) (m_ef) ++ wME cA m (m_fr) (m_cs) (m_cn) (m_ck) (mixZ (fun q => (q : Int)) m_ch m_fs) (m_tb) (m_cr)) A) ([.ref (m 0)]).toArray s_ 0 0 A) (IM D s_ A) 2 0 0 (wMO cA m (((m_nc : Nat) : Int)) (((m_nr : Nat) : Int)) (m_ke) (m_so) (m_bu) (m_bc) (m_pu) (m_qu) (((m_fs : Nat) : Int)) (((m_cd : Nat) : Int)) (m_un) (m_hb) (m_pf) (m_ef) ++ wME cA m (m_fr) (m_cs) (m_cn) (m_ck) (cx) (m_tb) (m_cr)) ([(0, .ref (m 0)), (1, iv (((i : Nat) : Int)))]) [] 2 := by
    intro n; induction n with
    | zero => intro i cx; intros; omega
    | succ n ih2 =>
      intro i cx hi hcx hmu2
      refine g_iload_n F 1 rfl rfl dX7_first_2 ?_
      refine g_aload_n F 0 rfl rfl dX7_first_3 ?_
      refine g_get F hV iX7 0 rfl rfl 21 (by decide) (List.mem_of_getElem? (i := 1) rfl) rfl dX7_first_4 ?_
      refine g_icmp_ge F (tgt := 23) dX7_first_7 (by decide) ⟨by omega, by omega⟩ ⟨by omega, by omega⟩ (fun c_1 => ?_) (fun c_1 => ?_)
      · skip
        refine g_aload_n F 0 rfl rfl dX7_first_23 ?_
        refine g_get F hV iX7 0 rfl rfl 21 (by decide) (List.mem_of_getElem? (i := 1) rfl) rfl dX7_first_24 ?_
        refine g_aload_n F 0 rfl rfl dX7_first_27 ?_
        refine g_get F hV iX7 0 rfl rfl 22 (by decide) (List.mem_of_getElem? (i := 3) rfl) rfl dX7_first_28 ?_
        refine g_icmp_gt F (tgt := 38) dX7_first_31 (by decide) ⟨by omega, by omega⟩ ⟨by omega, by omega⟩ (fun c_2 => ?_) (fun c_2 => ?_)
        · skip
          refine g_iconst F dX7_first_38 ?_
          exact g_zret F rfl (nar_01 (Or.inl rfl)) (by decide) (by decide) ⟨congrArg (fun z => some (iv z)) (show (0 : Int) = if m_fs ≤ m_cd then 1 else 0 by first | rfl | (rw [if_neg (by omega)]; done) | (rw [if_pos (by omega)]; done) | (exfalso; omega)), (by rw [hcx, show i = m_fs by omega])⟩ dX7_first_39
        · skip
          refine g_iconst F dX7_first_34 ?_
          refine g_goto F (tgt := 39) dX7_first_35 (by decide) ?_
          exact g_zret F rfl (nar_01 (Or.inr rfl)) (by decide) (by decide) ⟨congrArg (fun z => some (iv z)) (show (1 : Int) = if m_fs ≤ m_cd then 1 else 0 by first | rfl | (rw [if_neg (by omega)]; done) | (rw [if_pos (by omega)]; done) | (exfalso; omega)), (by rw [hcx, show i = m_fs by omega])⟩ dX7_first_39
      · skip
        refine g_aload_n F 0 rfl rfl dX7_first_10 ?_
        refine g_get F hV iX7 0 rfl rfl 26 (by decide) (List.mem_of_getElem? (i := 2) rfl) rfl dX7_first_11 ?_
        refine g_iload_n F 1 rfl rfl dX7_first_14 ?_
        refine g_iload_n F 1 rfl rfl dX7_first_15 ?_
        refine g_iast F 5 rfl (i) (by omega) (by omega) (by decide) (wMO cA m (((m_nc : Nat) : Int)) (((m_nr : Nat) : Int)) (m_ke) (m_so) (m_bu) (m_bc) (m_pu) (m_qu) (((m_fs : Nat) : Int)) (((m_cd : Nat) : Int)) (m_un) (m_hb) (m_pf) (m_ef) ++ wME cA m (m_fr) (m_cs) (m_cn) (m_ck) (va_up cx i (((i : Nat) : Int))) (m_tb) (m_cr)) rfl dX7_first_16 ?_
        refine g_iinc F 1 rfl ([(1, iv ((((i : Nat) : Int)) + 1)), (0, .ref (m 0))]) rfl (by decide) dX7_first_17 ?_
        refine g_goto F (tgt := 2) dX7_first_20 (by decide) ?_
        refine g_lsub ([(0, .ref (m 0)), (1, iv ((((i : Nat) : Int)) + 1))]) [1, 0] rfl ?_
        exact ih2 (i + 1) (va_up cx i (i : Int)) (by omega) (by rw [hcx]; exact mix_up rfl) (by omega)
  refine g_lsub ([(0, .ref (m 0)), (1, iv (0))]) [1, 0] rfl ?_
  exact lp2 (_ + 1) 0 m_ch (by omega) (mix_0 _ _).symm (Nat.lt_succ_self _)

set_option maxHeartbeats 4000000 in
set_option maxRecDepth 100000 in
theorem kX7_another (l : Launch) (D : va_G) (cA : Nat → ClassId) (m : Nat → Nat) (m_nc : Nat) (m_nr : Nat) (m_ke : Int) (m_so : Int) (m_bu : Int) (m_bc : Int) (m_pu : Int) (m_qu : Int) (m_fs : Nat) (m_cd : Nat) (m_un : Int) (m_hb : Int) (m_pf : Int) (m_ef : Int) (m_fr : Nat → Int) (m_cs : Nat → Int) (m_cn : Nat → Int) (m_ck : Nat → Int) (m_ch : Nat → Int) (m_tb : Nat → Int) (m_cr : Nat → Int) (hn : m_fs ≤ 5) (hK : m_cd ≤ 20) (hch : chV m_fs m_cd m_ch) : CT l yX7_another wsX7_another ({ frames := 0, cells := 0, slots := 0, locals := 0 }) D cA [.ref (m 0)] (wMO cA m (((m_nc : Nat) : Int)) (((m_nr : Nat) : Int)) (m_ke) (m_so) (m_bu) (m_bc) (m_pu) (m_qu) (((m_fs : Nat) : Int)) (((m_cd : Nat) : Int)) (m_un) (m_hb) (m_pf) (m_ef) ++ wME cA m (m_fr) (m_cs) (m_cn) (m_ck) (m_ch) (m_tb) (m_cr)) (fun ov ow => ∃ (r : Bool) (ch : Nat → Int), ((r = false ∧ pvI m_fs m_cd m_ch m_fs < 0) ∨ (r = true ∧ ∃ i0 : Nat, pvI m_fs m_cd m_ch m_fs = (i0 : Int) ∧ ∀ j, j < m_fs → ch j = nxC m_ch i0 j)) ∧ ov = some (iv (if r = true then 1 else 0)) ∧ ow = wMO cA m (((m_nc : Nat) : Int)) (((m_nr : Nat) : Int)) (m_ke) (m_so) (m_bu) (m_bc) (m_pu) (m_qu) (((m_fs : Nat) : Int)) (((m_cd : Nat) : Int)) (m_un) (m_hb) (m_pf) (m_ef) ++ wME cA m (m_fr) (m_cs) (m_cn) (m_ck) (ch) (m_tb) (m_cr)) 0 0 := by
  refine CT.mk (cc := cX7_another) (maxL := 3) (ret := (some .boolean)) (by decide +kernel) rfl (Nat.le_of_ble_eq_true rfl) ?_
  intro p_ e_ s_ m_ b_ me_ c_ A F hnm hA
  have hV := @IM_P D s_ A
  have iX7 : ∀ w ∈ u_ws RX7 TX7 38, w ∈ wsX7_another := by decide +kernel
  refine g_lsub ([(0, .ref (m 0))]) [0] rfl ?_
  refine g_aload_n F 0 rfl rfl dX7_another_0 ?_
  refine g_get F hV iX7 0 rfl rfl 21 (by decide) (List.mem_of_getElem? (i := 1) rfl) rfl dX7_another_1 ?_
  refine g_iconst F dX7_another_4 ?_
  refine g_isub F dX7_another_5 ?_
  refine g_istore_n F ([(1, iv ((((m_fs : Nat) : Int)) - 1)), (0, .ref (m 0))]) rfl rfl (by decide) dX7_another_6 ?_
  have lp7 : ∀ (n : Nat) (t : Nat) (x : Int) (ht : t ≤ m_fs) (hx : x = (t : Int) - 1) (hP : pvI m_fs m_cd m_ch t = pvI m_fs m_cd m_ch m_fs), t < n → GW p_ l e_ (headSpec wsX7_another ({ frames := 0, cells := 0, slots := 0, locals := 0 })).room s_ m_ ([.ref (m 0)]).toArray b_ me_ c_ (MQ b_ (Qm D (fun ov ow => ∃ (r : Bool) (ch : Nat → Int), ((r = false ∧ pvI m_fs m_cd m_ch m_fs < 0) ∨ (r = true ∧ ∃ i0 : Nat, pvI m_fs m_cd m_ch m_fs = (i0 : Int) ∧ ∀ j, j < m_fs → ch j = nxC m_ch i0 j)) ∧ ov = some (iv (if r = true then 1 else 0)) ∧ ow = wMO cA m (((m_nc : Nat) : Int)) (((m_nr : Nat) : Int)) (m_ke) (m_so) (m_bu) (m_bc) (m_pu) (m_qu) (((m_fs : Nat) : Int)) (((m_cd : Nat) : Int)) (m_un) (m_hb) (m_pf) (m_ef) ++ wME cA m (m_fr) (m_cs) (m_cn) (m_ck) (ch) (m_tb) (m_cr)) A) ([.ref (m 0)]).toArray s_ 0 0 A) (IM D s_ A) 3 0 0 (wMO cA m (((m_nc : Nat) : Int)) (((m_nr : Nat) : Int)) (m_ke) (m_so) (m_bu) (m_bc) (m_pu) (m_qu) (((m_fs : Nat) : Int)) (((m_cd : Nat) : Int)) (m_un) (m_hb) (m_pf) (m_ef) ++ wME cA m (m_fr) (m_cs) (m_cn) (m_ck) (m_ch) (m_tb) (m_cr)) ([(0, .ref (m 0)), (1, iv (x))]) [] 7 := by
    intro n; induction n with
    | zero => intro t x; intros; omega
    | succ n ih7 =>
      intro t x ht hx hP hmu7
      refine g_iload_n F 1 rfl rfl dX7_another_7 ?_
      refine g_if_lt F (tgt := 37) dX7_another_8 (by decide) ⟨by omega, by omega⟩ (fun c_1 => ?_) (fun c_1 => ?_)
      · skip
        refine g_iload_n F 1 rfl rfl dX7_another_37 ?_
        refine g_if_ge F (tgt := 43) dX7_another_38 (by decide) ⟨by omega, by omega⟩ (fun c_2 => ?_) (fun c_2 => ?_)
        · skip
          exfalso; omega
        · skip
          refine g_iconst F dX7_another_41 ?_
          exact g_zret F rfl (nar_01 (Or.inl rfl)) (by decide) (by decide) ⟨false, m_ch, (Or.inl ⟨rfl, by rw [← hP, show t = 0 by omega]; show (-1 : Int) < 0; decide⟩), congrArg (fun z => some (iv z)) (show (0 : Int) = if false = true then 1 else 0 by rfl), rfl⟩ dX7_another_42
      · skip
        have hc9 := hch.1 (t - 1) (by omega)
        refine g_aload_n F 0 rfl rfl dX7_another_11 ?_
        refine g_get F hV iX7 0 rfl rfl 26 (by decide) (List.mem_of_getElem? (i := 2) rfl) rfl dX7_another_12 ?_
        refine g_iload_n F 1 rfl rfl dX7_another_15 ?_
        refine g_iald F hV 5 rfl (t - 1) (by omega) (by omega) (by decide) dX7_another_16 ?_
        refine g_aload_n F 0 rfl rfl dX7_another_17 ?_
        refine g_get F hV iX7 0 rfl rfl 22 (by decide) (List.mem_of_getElem? (i := 3) rfl) rfl dX7_another_18 ?_
        refine g_aload_n F 0 rfl rfl dX7_another_21 ?_
        refine g_get F hV iX7 0 rfl rfl 21 (by decide) (List.mem_of_getElem? (i := 1) rfl) rfl dX7_another_22 ?_
        refine g_isub F dX7_another_25 ?_
        refine g_iload_n F 1 rfl rfl dX7_another_26 ?_
        refine g_iadd F dX7_another_27 ?_
        refine g_icmp_ne F (tgt := 37) dX7_another_28 (by decide) ⟨by omega, by omega⟩ ⟨by omega, by omega⟩ (fun c_3 => ?_) (fun c_3 => ?_)
        · skip
          refine g_iload_n F 1 rfl rfl dX7_another_37 ?_
          refine g_if_ge F (tgt := 43) dX7_another_38 (by decide) ⟨by omega, by omega⟩ (fun c_4 => ?_) (fun c_4 => ?_)
          · skip
            have hc8 := hch.1 (t - 1) (by omega)
            have hpa : pvI m_fs m_cd m_ch t = ((t - 1 : Nat) : Int) := pv_at (by omega) (by omega)
            refine g_aload_n F 0 rfl rfl dX7_another_43 ?_
            refine g_get F hV iX7 0 rfl rfl 26 (by decide) (List.mem_of_getElem? (i := 2) rfl) rfl dX7_another_44 ?_
            refine g_iload_n F 1 rfl rfl dX7_another_47 ?_
            refine g_dup2 F rfl rfl dX7_another_48 ?_
            refine g_iald F hV 5 rfl (t - 1) (by omega) (by omega) (by decide) dX7_another_49 ?_
            refine g_iconst F dX7_another_50 ?_
            refine g_iadd F dX7_another_51 ?_
            refine g_iast F 5 rfl (t - 1) (by omega) (by omega) (by decide) (wMO cA m (((m_nc : Nat) : Int)) (((m_nr : Nat) : Int)) (m_ke) (m_so) (m_bu) (m_bc) (m_pu) (m_qu) (((m_fs : Nat) : Int)) (((m_cd : Nat) : Int)) (m_un) (m_hb) (m_pf) (m_ef) ++ wME cA m (m_fr) (m_cs) (m_cn) (m_ck) (va_up m_ch (t - 1) ((m_ch (t - 1)) + 1)) (m_tb) (m_cr)) rfl dX7_another_52 ?_
            refine g_iload_n F 1 rfl rfl dX7_another_53 ?_
            refine g_iconst F dX7_another_54 ?_
            refine g_iadd F dX7_another_55 ?_
            refine g_eq (st' := [iv (((t : Nat) : Int))]) rfl rfl (congrArg (fun zz => [iv zz]) (show (x + 1 : Int) = ((t : Nat) : Int) from (by omega))) ?_
            refine g_istore_n F ([(2, iv (((t : Nat) : Int))), (0, .ref (m 0)), (1, iv (x))]) rfl rfl (by decide) dX7_another_56 ?_
            have lp57 : ∀ (n : Nat) (j : Nat) (cx : Nat → Int) (hj : t ≤ j ∧ j ≤ m_fs) (hc : ∀ q, q < m_fs → cx q = if q < j then nxC m_ch (t - 1) q else m_ch q), m_fs - j < n → GW p_ l e_ (headSpec wsX7_another ({ frames := 0, cells := 0, slots := 0, locals := 0 })).room s_ m_ ([.ref (m 0)]).toArray b_ me_ c_ (MQ b_ (Qm D (fun ov ow => ∃ (r : Bool) (ch : Nat → Int), ((r = false ∧ pvI m_fs m_cd m_ch m_fs < 0) ∨ (r = true ∧ ∃ i0 : Nat, pvI m_fs m_cd m_ch m_fs = (i0 : Int) ∧ ∀ j, j < m_fs → ch j = nxC m_ch i0 j)) ∧ ov = some (iv (if r = true then 1 else 0)) ∧ ow = wMO cA m (((m_nc : Nat) : Int)) (((m_nr : Nat) : Int)) (m_ke) (m_so) (m_bu) (m_bc) (m_pu) (m_qu) (((m_fs : Nat) : Int)) (((m_cd : Nat) : Int)) (m_un) (m_hb) (m_pf) (m_ef) ++ wME cA m (m_fr) (m_cs) (m_cn) (m_ck) (ch) (m_tb) (m_cr)) A) ([.ref (m 0)]).toArray s_ 0 0 A) (IM D s_ A) 3 0 0 (wMO cA m (((m_nc : Nat) : Int)) (((m_nr : Nat) : Int)) (m_ke) (m_so) (m_bu) (m_bc) (m_pu) (m_qu) (((m_fs : Nat) : Int)) (((m_cd : Nat) : Int)) (m_un) (m_hb) (m_pf) (m_ef) ++ wME cA m (m_fr) (m_cs) (m_cn) (m_ck) (cx) (m_tb) (m_cr)) ([(0, .ref (m 0)), (1, iv (x)), (2, iv (((j : Nat) : Int)))]) [] 57 := by
              intro n; induction n with
              | zero => intro j cx; intros; omega
              | succ n ih57 =>
                intro j cx hj hc hmu57
                refine g_iload_n F 2 rfl rfl dX7_another_57 ?_
                refine g_aload_n F 0 rfl rfl dX7_another_58 ?_
                refine g_get F hV iX7 0 rfl rfl 21 (by decide) (List.mem_of_getElem? (i := 1) rfl) rfl dX7_another_59 ?_
                refine g_icmp_ge F (tgt := 87) dX7_another_62 (by decide) ⟨by omega, by omega⟩ ⟨by omega, by omega⟩ (fun c_5 => ?_) (fun c_5 => ?_)
                · skip
                  refine g_iconst F dX7_another_87 ?_
                  exact g_zret F rfl (nar_01 (Or.inr rfl)) (by decide) (by decide) ⟨true, cx, (Or.inr ⟨rfl, t - 1, by rw [← hP]; exact hpa, fun q hq => by rw [hc q hq, if_pos (by omega)]⟩), congrArg (fun z => some (iv z)) (show (1 : Int) = if true = true then 1 else 0 by rfl), rfl⟩ dX7_another_88
                · skip
                  refine g_aload_n F 0 rfl rfl dX7_another_65 ?_
                  refine g_get F hV iX7 0 rfl rfl 26 (by decide) (List.mem_of_getElem? (i := 2) rfl) rfl dX7_another_66 ?_
                  refine g_iload_n F 2 rfl rfl dX7_another_69 ?_
                  refine g_aload_n F 0 rfl rfl dX7_another_70 ?_
                  refine g_get F hV iX7 0 rfl rfl 26 (by decide) (List.mem_of_getElem? (i := 2) rfl) rfl dX7_another_71 ?_
                  refine g_iload_n F 2 rfl rfl dX7_another_74 ?_
                  refine g_iconst F dX7_another_75 ?_
                  refine g_isub F dX7_another_76 ?_
                  refine g_iald F hV 5 rfl (j - 1) (by omega) (by omega) (by decide) dX7_another_77 ?_
                  refine g_iconst F dX7_another_78 ?_
                  refine g_iadd F dX7_another_79 ?_
                  refine g_iast F 5 rfl (j) (by omega) (by omega) (by decide) (wMO cA m (((m_nc : Nat) : Int)) (((m_nr : Nat) : Int)) (m_ke) (m_so) (m_bu) (m_bc) (m_pu) (m_qu) (((m_fs : Nat) : Int)) (((m_cd : Nat) : Int)) (m_un) (m_hb) (m_pf) (m_ef) ++ wME cA m (m_fr) (m_cs) (m_cn) (m_ck) (va_up cx j ((cx (j - 1)) + 1)) (m_tb) (m_cr)) rfl dX7_another_80 ?_
                  refine g_iinc F 2 rfl ([(2, iv ((((j : Nat) : Int)) + 1)), (0, .ref (m 0)), (1, iv (x))]) rfl (by decide) dX7_another_81 ?_
                  refine g_goto F (tgt := 57) dX7_another_84 (by decide) ?_
                  refine g_lsub ([(0, .ref (m 0)), (1, iv (x)), (2, iv ((((j : Nat) : Int)) + 1))]) [1, 2, 0] rfl ?_
                  exact ih57 (j + 1) (va_up cx j ((cx (j - 1)) + 1)) (by omega) (nx_s (by omega) (by omega) hc) (by omega)
            refine g_lsub ([(0, .ref (m 0)), (1, iv (x)), (2, iv (((t : Nat) : Int)))]) [1, 2, 0] rfl ?_
            exact lp57 (_ + 1) t (va_up m_ch (t - 1) ((m_ch (t - 1)) + 1)) (by omega) (by have h9 := nx_0 (c := m_ch) (i0 := t - 1) (n := m_fs); rw [show t - 1 + 1 = t by omega] at h9; exact h9) (Nat.lt_succ_self _)
          · skip
            exfalso; omega
        · skip
          refine g_iinc F 1 rfl ([(1, iv (x + (-1))), (0, .ref (m 0))]) rfl (by decide) dX7_another_31 ?_
          refine g_goto F (tgt := 7) dX7_another_34 (by decide) ?_
          refine g_lsub ([(0, .ref (m 0)), (1, iv (x + (-1)))]) [1, 0] rfl ?_
          exact ih7 (t - 1) (x + (-1)) (by omega) (by omega) (by rw [← hP]; exact pv_dn (by omega) (by omega)) (by omega)
  refine g_lsub ([(0, .ref (m 0)), (1, iv ((((m_fs : Nat) : Int)) - 1))]) [1, 0] rfl ?_
  exact lp7 (_ + 1) m_fs ((((m_fs : Nat) : Int)) - 1) (by omega) (rfl) (rfl) (Nat.lt_succ_self _)
