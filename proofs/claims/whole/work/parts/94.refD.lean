set_option maxHeartbeats 4000000 in
set_option maxRecDepth 100000 in
theorem kX7_meets (l : Launch) (D : va_G) (cA : Nat → ClassId) (m : Nat → Nat) (m_nc : Nat) (m_nr : Nat) (m_ke : Int) (m_so : Int) (m_bu : Int) (m_bc : Int) (m_pu : Int) (m_qu : Int) (m_fs : Nat) (m_cd : Nat) (m_un : Int) (m_hb : Int) (m_pf : Int) (m_ef : Int) (m_fr : Nat → Int) (m_cs : Nat → Int) (m_cn : Nat → Int) (m_ck : Nat → Int) (m_ch : Nat → Int) (m_tb : Nat → Int) (m_cr : Nat → Int) (hn : m_fs ≤ 5) (hK : m_cd ≤ 20) (hch : chV m_fs m_cd m_ch) (hs : smallC m_fs m_cd m_cs m_cn) : CT l yX7_meets wsX7_meets ({ frames := 1, cells := 0, slots := 0, locals := 30 }) D cA [.ref (m 0)] (wMO cA m (((m_nc : Nat) : Int)) (((m_nr : Nat) : Int)) (m_ke) (m_so) (m_bu) (m_bc) (m_pu) (m_qu) (((m_fs : Nat) : Int)) (((m_cd : Nat) : Int)) (m_un) (m_hb) (m_pf) (m_ef) ++ wME cA m (m_fr) (m_cs) (m_cn) (m_ck) (m_ch) (m_tb) (m_cr)) (fun ov ow => ∃ (r : Bool) (tb : Nat → Int) (cr : Nat → Int) (un : Int), ((r = true ∧ ∃ q, crnO m_fs m_cs m_cn m_ch = some (q, un) ∧ ∀ j, j < m_fs → cr j = q j) ∨ (r = false ∧ crnO m_fs m_cs m_cn m_ch = none)) ∧ ov = some (iv (if r = true then 1 else 0)) ∧ ow = wMO cA m (((m_nc : Nat) : Int)) (((m_nr : Nat) : Int)) (m_ke) (m_so) (m_bu) (m_bc) (m_pu) (m_qu) (((m_fs : Nat) : Int)) (((m_cd : Nat) : Int)) (un) (m_hb) (m_pf) (m_ef) ++ wME cA m (m_fr) (m_cs) (m_cn) (m_ck) (m_ch) (tb) (cr)) 0 0 := by
  refine CT.mk (cc := cX7_meets) (maxL := 9) (ret := (some .boolean)) (by decide +kernel) rfl (Nat.le_of_ble_eq_true rfl) ?_
  intro p_ e_ s_ m_ b_ me_ c_ A F hnm hA
  have hV := @IM_P D s_ A
  have iX7 : ∀ w ∈ u_ws RX7 TX7 38, w ∈ wsX7_meets := by decide +kernel
  obtain ⟨w, hw⟩ : ∃ w : Nat, w = m_fs + 1 := ⟨_, rfl⟩
  have hsm := mt_small hs hch
  refine g_lsub ([(0, .ref (m 0))]) [0] rfl ?_
  refine g_aload_n F 0 rfl rfl dX7_meets_0 ?_
  refine g_get F hV iX7 0 rfl rfl 21 (by decide) (List.mem_of_getElem? (i := 1) rfl) rfl dX7_meets_1 ?_
  refine g_iconst F dX7_meets_4 ?_
  refine g_iadd F dX7_meets_5 ?_
  refine g_eq (st' := [iv (((w : Nat) : Int))]) rfl rfl (congrArg (fun zz => [iv zz]) (show ((((m_fs : Nat) : Int)) + 1 : Int) = ((w : Nat) : Int) from (by omega))) ?_
  refine g_istore_n F ([(1, iv (((w : Nat) : Int))), (0, .ref (m 0))]) rfl rfl (by decide) dX7_meets_6 ?_
  refine g_iconst F dX7_meets_7 ?_
  refine g_istore_n F ([(2, iv (0)), (1, iv (((w : Nat) : Int))), (0, .ref (m 0))]) rfl rfl (by decide) dX7_meets_8 ?_
  have lp9 : ∀ (n : Nat) (i : Nat) (tx : Nat → Int) (hi : i ≤ m_fs) (hF : ∀ r q, q < w → (r < i ∨ (r = i ∧ q < 0)) → tx (w * r + q) = (mtM m_fs m_cs m_cn m_ch) r q), m_fs - i < n → GW p_ l e_ (headSpec wsX7_meets ({ frames := 1, cells := 0, slots := 0, locals := 30 })).room s_ m_ ([.ref (m 0)]).toArray b_ me_ c_ (MQ b_ (Qm D (fun ov ow => ∃ (r : Bool) (tb : Nat → Int) (cr : Nat → Int) (un : Int), ((r = true ∧ ∃ q, crnO m_fs m_cs m_cn m_ch = some (q, un) ∧ ∀ j, j < m_fs → cr j = q j) ∨ (r = false ∧ crnO m_fs m_cs m_cn m_ch = none)) ∧ ov = some (iv (if r = true then 1 else 0)) ∧ ow = wMO cA m (((m_nc : Nat) : Int)) (((m_nr : Nat) : Int)) (m_ke) (m_so) (m_bu) (m_bc) (m_pu) (m_qu) (((m_fs : Nat) : Int)) (((m_cd : Nat) : Int)) (un) (m_hb) (m_pf) (m_ef) ++ wME cA m (m_fr) (m_cs) (m_cn) (m_ck) (m_ch) (tb) (cr)) A) ([.ref (m 0)]).toArray s_ 0 0 A) (IM D s_ A) 9 0 0 (wMO cA m (((m_nc : Nat) : Int)) (((m_nr : Nat) : Int)) (m_ke) (m_so) (m_bu) (m_bc) (m_pu) (m_qu) (((m_fs : Nat) : Int)) (((m_cd : Nat) : Int)) (m_un) (m_hb) (m_pf) (m_ef) ++ wME cA m (m_fr) (m_cs) (m_cn) (m_ck) (m_ch) (tx) (m_cr)) ([(0, .ref (m 0)), (1, iv (((w : Nat) : Int))), (2, iv (((i : Nat) : Int)))]) [] 9 := by
    intro n; induction n with
    | zero => intro i tx; intros; omega
    | succ n ih9 =>
      intro i tx hi hF hmu9
      refine g_iload_n F 2 rfl rfl dX7_meets_9 ?_
      refine g_aload_n F 0 rfl rfl dX7_meets_10 ?_
      refine g_get F hV iX7 0 rfl rfl 21 (by decide) (List.mem_of_getElem? (i := 1) rfl) rfl dX7_meets_11 ?_
      refine g_icmp_ge F (tgt := 89) dX7_meets_14 (by decide) ⟨by omega, by omega⟩ ⟨by omega, by omega⟩ (fun c_1 => ?_) (fun c_1 => ?_)
      · skip
        refine g_lconst F (z := 1) dX7_meets_89 (by decide) ?_
        refine g_lstore_n F ([(2, jv (1)), (0, .ref (m 0)), (1, iv (((w : Nat) : Int)))]) rfl rfl (by decide) dX7_meets_90 ?_
        refine g_iconst F dX7_meets_91 ?_
        refine g_istore F ([(4, iv (0)), (2, jv (1)), (0, .ref (m 0)), (1, iv (((w : Nat) : Int)))]) rfl (by decide) dX7_meets_92 ?_
        have lp94 : ∀ (n : Nat) (p : Nat) (bef : Int) (tx : Nat → Int) (T : Nat → Nat → Int) (hp : p ≤ m_fs) (hE : elM m_fs (mtM m_fs m_cs m_cn m_ch) p = some (T, bef)) (hT : ∀ r q, r < m_fs → q < w → tx (w * r + q) = T r q), m_fs - p < n → GW p_ l e_ (headSpec wsX7_meets ({ frames := 1, cells := 0, slots := 0, locals := 30 })).room s_ m_ ([.ref (m 0)]).toArray b_ me_ c_ (MQ b_ (Qm D (fun ov ow => ∃ (r : Bool) (tb : Nat → Int) (cr : Nat → Int) (un : Int), ((r = true ∧ ∃ q, crnO m_fs m_cs m_cn m_ch = some (q, un) ∧ ∀ j, j < m_fs → cr j = q j) ∨ (r = false ∧ crnO m_fs m_cs m_cn m_ch = none)) ∧ ov = some (iv (if r = true then 1 else 0)) ∧ ow = wMO cA m (((m_nc : Nat) : Int)) (((m_nr : Nat) : Int)) (m_ke) (m_so) (m_bu) (m_bc) (m_pu) (m_qu) (((m_fs : Nat) : Int)) (((m_cd : Nat) : Int)) (un) (m_hb) (m_pf) (m_ef) ++ wME cA m (m_fr) (m_cs) (m_cn) (m_ck) (m_ch) (tb) (cr)) A) ([.ref (m 0)]).toArray s_ 0 0 A) (IM D s_ A) 9 0 0 (wMO cA m (((m_nc : Nat) : Int)) (((m_nr : Nat) : Int)) (m_ke) (m_so) (m_bu) (m_bc) (m_pu) (m_qu) (((m_fs : Nat) : Int)) (((m_cd : Nat) : Int)) (m_un) (m_hb) (m_pf) (m_ef) ++ wME cA m (m_fr) (m_cs) (m_cn) (m_ck) (m_ch) (tx) (m_cr)) ([(0, .ref (m 0)), (1, iv (((w : Nat) : Int))), (2, jv (bef)), (4, iv (((p : Nat) : Int)))]) [] 94 := by
          intro n; induction n with
          | zero => intro p bef tx T; intros; omega
          | succ n ih94 =>
            intro p bef tx T hp hE hT hmu94
            have hkI := el_keeps hsm.1 p hp hE
            have hbd := el_bnd hn hsm.1 hsm.2 hkI
            refine g_iload F 3 rfl dX7_meets_94 ?_
            refine g_aload_n F 0 rfl rfl dX7_meets_96 ?_
            refine g_get F hV iX7 0 rfl rfl 21 (by decide) (List.mem_of_getElem? (i := 1) rfl) rfl dX7_meets_97 ?_
            refine g_icmp_ge F (tgt := 212) dX7_meets_100 (by decide) ⟨by omega, by omega⟩ ⟨by omega, by omega⟩ (fun c_2 => ?_) (fun c_2 => ?_)
            · skip
              have hpe : p = m_fs := by omega
              have hEn : elM m_fs (mtM m_fs m_cs m_cn m_ch) m_fs = some (T, bef) := by rw [← hE, hpe]
              refine g_aload_n F 0 rfl rfl dX7_meets_212 ?_
              refine g_lload_n F 2 rfl rfl dX7_meets_213 ?_
              refine g_put F iX7 tyX7 tyX7_ok nmX7 0 rfl rfl 29 (by decide) (List.mem_of_getElem? (i := 6) rfl) rfl rfl rfl (Nat.le_of_ble_eq_true rfl) (wMO cA m (((m_nc : Nat) : Int)) (((m_nr : Nat) : Int)) (m_ke) (m_so) (m_bu) (m_bc) (m_pu) (m_qu) (((m_fs : Nat) : Int)) (((m_cd : Nat) : Int)) (bef) (m_hb) (m_pf) (m_ef) ++ wME cA m (m_fr) (m_cs) (m_cn) (m_ck) (m_ch) (tx) (m_cr)) rfl dX7_meets_214 ?_
              refine g_iconst F dX7_meets_217 ?_
              refine g_istore F ([(4, iv (0)), (0, .ref (m 0)), (1, iv (((w : Nat) : Int))), (2, jv (bef))]) rfl (by decide) dX7_meets_218 ?_
              have lp220 : ∀ (n : Nat) (i : Nat) (cx : Nat → Int) (hi : i ≤ m_fs) (hcx : cx = mixZ (fun j => T j m_fs) m_cr i), m_fs - i < n → GW p_ l e_ (headSpec wsX7_meets ({ frames := 1, cells := 0, slots := 0, locals := 30 })).room s_ m_ ([.ref (m 0)]).toArray b_ me_ c_ (MQ b_ (Qm D (fun ov ow => ∃ (r : Bool) (tb : Nat → Int) (cr : Nat → Int) (un : Int), ((r = true ∧ ∃ q, crnO m_fs m_cs m_cn m_ch = some (q, un) ∧ ∀ j, j < m_fs → cr j = q j) ∨ (r = false ∧ crnO m_fs m_cs m_cn m_ch = none)) ∧ ov = some (iv (if r = true then 1 else 0)) ∧ ow = wMO cA m (((m_nc : Nat) : Int)) (((m_nr : Nat) : Int)) (m_ke) (m_so) (m_bu) (m_bc) (m_pu) (m_qu) (((m_fs : Nat) : Int)) (((m_cd : Nat) : Int)) (un) (m_hb) (m_pf) (m_ef) ++ wME cA m (m_fr) (m_cs) (m_cn) (m_ck) (m_ch) (tb) (cr)) A) ([.ref (m 0)]).toArray s_ 0 0 A) (IM D s_ A) 9 0 0 (wMO cA m (((m_nc : Nat) : Int)) (((m_nr : Nat) : Int)) (m_ke) (m_so) (m_bu) (m_bc) (m_pu) (m_qu) (((m_fs : Nat) : Int)) (((m_cd : Nat) : Int)) (bef) (m_hb) (m_pf) (m_ef) ++ wME cA m (m_fr) (m_cs) (m_cn) (m_ck) (m_ch) (tx) (cx)) ([(0, .ref (m 0)), (1, iv (((w : Nat) : Int))), (2, jv (bef)), (4, iv (((i : Nat) : Int)))]) [] 220 := by
                intro n; induction n with
                | zero => intro i cx; intros; omega
                | succ n ih220 =>
                  intro i cx hi hcx hmu220
                  refine g_iload F 3 rfl dX7_meets_220 ?_
                  refine g_aload_n F 0 rfl rfl dX7_meets_222 ?_
                  refine g_get F hV iX7 0 rfl rfl 21 (by decide) (List.mem_of_getElem? (i := 1) rfl) rfl dX7_meets_223 ?_
                  refine g_icmp_ge F (tgt := 256) dX7_meets_226 (by decide) ⟨by omega, by omega⟩ ⟨by omega, by omega⟩ (fun c_3 => ?_) (fun c_3 => ?_)
                  · skip
                    refine g_aload_n F 0 rfl rfl dX7_meets_256 ?_
                    refine g_get F hV iX7 0 rfl rfl 29 (by decide) (List.mem_of_getElem? (i := 6) rfl) rfl dX7_meets_257 ?_
                    refine g_lconst F (z := 0) dX7_meets_260 (by decide) ?_
                    refine g_lcmp_ge F (tgt := 307) dX7_meets_261 dX7_meets_262 (by decide) (show I64 _ from ⟨by omega, by omega⟩) ⟨by decide, by decide⟩ (fun c_4 => ?_) (fun c_4 => ?_)
                    · skip
                      refine g_iconst F dX7_meets_307 ?_
                      exact g_zret F rfl (nar_01 (Or.inr rfl)) (by decide) (by decide) ⟨true, tx, cx, bef, (Or.inl ⟨rfl, _, by rw [crn_some hEn, if_neg (by omega)], fun j hj => by rw [hcx]; exact mix_lt (by omega)⟩), congrArg (fun z => some (iv z)) (show (1 : Int) = if true = true then 1 else 0 by rfl), rfl⟩ dX7_meets_308
                    · skip
                      refine g_aload_n F 0 rfl rfl dX7_meets_265 ?_
                      refine g_aload_n F 0 rfl rfl dX7_meets_266 ?_
                      refine g_get F hV iX7 0 rfl rfl 29 (by decide) (List.mem_of_getElem? (i := 6) rfl) rfl dX7_meets_267 ?_
                      refine g_lneg F dX7_meets_270 ?_
                      refine g_put F iX7 tyX7 tyX7_ok nmX7 0 rfl rfl 29 (by decide) (List.mem_of_getElem? (i := 6) rfl) rfl rfl rfl (Nat.le_of_ble_eq_true rfl) (wMO cA m (((m_nc : Nat) : Int)) (((m_nr : Nat) : Int)) (m_ke) (m_so) (m_bu) (m_bc) (m_pu) (m_qu) (((m_fs : Nat) : Int)) (((m_cd : Nat) : Int)) (-bef) (m_hb) (m_pf) (m_ef) ++ wME cA m (m_fr) (m_cs) (m_cn) (m_ck) (m_ch) (tx) (cx)) rfl dX7_meets_271 ?_
                      refine g_iconst F dX7_meets_274 ?_
                      refine g_istore F ([(4, iv (0)), (0, .ref (m 0)), (1, iv (((w : Nat) : Int))), (2, jv (bef))]) rfl (by decide) dX7_meets_275 ?_
                      have lp277 : ∀ (n : Nat) (k : Nat) (cy : Nat → Int) (hk : k ≤ m_fs) (hcy : cy = mixZ (fun j => -T j m_fs) cx k), m_fs - k < n → GW p_ l e_ (headSpec wsX7_meets ({ frames := 1, cells := 0, slots := 0, locals := 30 })).room s_ m_ ([.ref (m 0)]).toArray b_ me_ c_ (MQ b_ (Qm D (fun ov ow => ∃ (r : Bool) (tb : Nat → Int) (cr : Nat → Int) (un : Int), ((r = true ∧ ∃ q, crnO m_fs m_cs m_cn m_ch = some (q, un) ∧ ∀ j, j < m_fs → cr j = q j) ∨ (r = false ∧ crnO m_fs m_cs m_cn m_ch = none)) ∧ ov = some (iv (if r = true then 1 else 0)) ∧ ow = wMO cA m (((m_nc : Nat) : Int)) (((m_nr : Nat) : Int)) (m_ke) (m_so) (m_bu) (m_bc) (m_pu) (m_qu) (((m_fs : Nat) : Int)) (((m_cd : Nat) : Int)) (un) (m_hb) (m_pf) (m_ef) ++ wME cA m (m_fr) (m_cs) (m_cn) (m_ck) (m_ch) (tb) (cr)) A) ([.ref (m 0)]).toArray s_ 0 0 A) (IM D s_ A) 9 0 0 (wMO cA m (((m_nc : Nat) : Int)) (((m_nr : Nat) : Int)) (m_ke) (m_so) (m_bu) (m_bc) (m_pu) (m_qu) (((m_fs : Nat) : Int)) (((m_cd : Nat) : Int)) (-bef) (m_hb) (m_pf) (m_ef) ++ wME cA m (m_fr) (m_cs) (m_cn) (m_ck) (m_ch) (tx) (cy)) ([(0, .ref (m 0)), (1, iv (((w : Nat) : Int))), (2, jv (bef)), (4, iv (((k : Nat) : Int)))]) [] 277 := by
                        intro n; induction n with
                        | zero => intro k cy; intros; omega
                        | succ n ih277 =>
                          intro k cy hk hcy hmu277
                          refine g_iload F 3 rfl dX7_meets_277 ?_
                          refine g_aload_n F 0 rfl rfl dX7_meets_279 ?_
                          refine g_get F hV iX7 0 rfl rfl 21 (by decide) (List.mem_of_getElem? (i := 1) rfl) rfl dX7_meets_280 ?_
                          refine g_icmp_ge F (tgt := 307) dX7_meets_283 (by decide) ⟨by omega, by omega⟩ ⟨by omega, by omega⟩ (fun c_5 => ?_) (fun c_5 => ?_)
                          · skip
                            refine g_iconst F dX7_meets_307 ?_
                            exact g_zret F rfl (nar_01 (Or.inr rfl)) (by decide) (by decide) ⟨true, tx, cy, (-bef), (Or.inl ⟨rfl, _, by rw [crn_some hEn, if_pos (by omega)], fun j hj => by rw [hcy]; exact mix_lt (by omega)⟩), congrArg (fun z => some (iv z)) (show (1 : Int) = if true = true then 1 else 0 by rfl), rfl⟩ dX7_meets_308
                          · skip
                            refine g_aload_n F 0 rfl rfl dX7_meets_286 ?_
                            refine g_get F hV iX7 0 rfl rfl 28 (by decide) (List.mem_of_getElem? (i := 7) rfl) rfl dX7_meets_287 ?_
                            refine g_iload F 3 rfl dX7_meets_290 ?_
                            refine g_aload_n F 0 rfl rfl dX7_meets_292 ?_
                            refine g_get F hV iX7 0 rfl rfl 28 (by decide) (List.mem_of_getElem? (i := 7) rfl) rfl dX7_meets_293 ?_
                            refine g_iload F 3 rfl dX7_meets_296 ?_
                            refine g_lald F hV 7 rfl (k) (by omega) (by omega) (by decide) dX7_meets_298 ?_
                            refine g_lneg F dX7_meets_299 ?_
                            refine g_last F 7 rfl (k) (by omega) (by omega) (by decide) (wMO cA m (((m_nc : Nat) : Int)) (((m_nr : Nat) : Int)) (m_ke) (m_so) (m_bu) (m_bc) (m_pu) (m_qu) (((m_fs : Nat) : Int)) (((m_cd : Nat) : Int)) (-bef) (m_hb) (m_pf) (m_ef) ++ wME cA m (m_fr) (m_cs) (m_cn) (m_ck) (m_ch) (tx) (va_up cy k (-(cy k)))) rfl dX7_meets_300 ?_
                            refine g_iinc F 3 rfl ([(4, iv ((((k : Nat) : Int)) + 1)), (0, .ref (m 0)), (1, iv (((w : Nat) : Int))), (2, jv (bef))]) rfl (by decide) dX7_meets_301 ?_
                            refine g_goto F (tgt := 277) dX7_meets_304 (by decide) ?_
                            refine g_lsub ([(0, .ref (m 0)), (1, iv (((w : Nat) : Int))), (2, jv (bef)), (4, iv ((((k : Nat) : Int)) + 1))]) [1, 2, 3, 0] rfl ?_
                            exact ih277 (k + 1) (va_up cy k (-(cy k))) (by omega) (by rw [show cy k = T k m_fs by rw [hcy, mix_ge (Nat.le_refl k), hcx, mix_lt (by omega)], hcy]; exact mix_up rfl) (by omega)
                      refine g_lsub ([(0, .ref (m 0)), (1, iv (((w : Nat) : Int))), (2, jv (bef)), (4, iv (0))]) [1, 2, 3, 0] rfl ?_
                      exact lp277 (_ + 1) 0 cx (by omega) (mix_0 _ _).symm (Nat.lt_succ_self _)
                  · skip
                    have hwi := ix_30 (w := w) (a := i) (by omega) (by omega)
                    refine g_aload_n F 0 rfl rfl dX7_meets_229 ?_
                    refine g_get F hV iX7 0 rfl rfl 28 (by decide) (List.mem_of_getElem? (i := 7) rfl) rfl dX7_meets_230 ?_
                    refine g_iload F 3 rfl dX7_meets_233 ?_
                    refine g_aload_n F 0 rfl rfl dX7_meets_235 ?_
                    refine g_get F hV iX7 0 rfl rfl 27 (by decide) (List.mem_of_getElem? (i := 2) rfl) rfl dX7_meets_236 ?_
                    refine g_iload_n F 1 rfl rfl dX7_meets_239 ?_
                    refine g_iload F 3 rfl dX7_meets_240 ?_
                    refine g_imul F dX7_meets_242 ?_
                    refine g_aload_n F 0 rfl rfl dX7_meets_243 ?_
                    refine g_get F hV iX7 0 rfl rfl 21 (by decide) (List.mem_of_getElem? (i := 1) rfl) rfl dX7_meets_244 ?_
                    refine g_iadd F dX7_meets_247 ?_
                    refine g_lald F hV 6 rfl ((w * i) + m_fs) (by omega) (by omega) (by decide) dX7_meets_248 ?_
                    refine g_last F 7 rfl (i) (by omega) (by omega) (by decide) (wMO cA m (((m_nc : Nat) : Int)) (((m_nr : Nat) : Int)) (m_ke) (m_so) (m_bu) (m_bc) (m_pu) (m_qu) (((m_fs : Nat) : Int)) (((m_cd : Nat) : Int)) (bef) (m_hb) (m_pf) (m_ef) ++ wME cA m (m_fr) (m_cs) (m_cn) (m_ck) (m_ch) (tx) (va_up cx i (tx ((w * i) + m_fs)))) rfl dX7_meets_249 ?_
                    refine g_iinc F 3 rfl ([(4, iv ((((i : Nat) : Int)) + 1)), (0, .ref (m 0)), (1, iv (((w : Nat) : Int))), (2, jv (bef))]) rfl (by decide) dX7_meets_250 ?_
                    refine g_goto F (tgt := 220) dX7_meets_253 (by decide) ?_
                    refine g_lsub ([(0, .ref (m 0)), (1, iv (((w : Nat) : Int))), (2, jv (bef)), (4, iv ((((i : Nat) : Int)) + 1))]) [1, 2, 3, 0] rfl ?_
                    exact ih220 (i + 1) (va_up cx i (tx ((w * i) + m_fs))) (by omega) (by rw [hcx]; exact mix_up (hT i m_fs (by omega) (by omega))) (by omega)
              refine g_lsub ([(0, .ref (m 0)), (1, iv (((w : Nat) : Int))), (2, jv (bef)), (4, iv (0))]) [1, 2, 3, 0] rfl ?_
              exact lp220 (_ + 1) 0 m_cr (by omega) (mix_0 _ _).symm (Nat.lt_succ_self _)
            · skip
              refine g_iload F 3 rfl dX7_meets_103 ?_
              refine g_istore F ([(5, iv (((p : Nat) : Int))), (0, .ref (m 0)), (1, iv (((w : Nat) : Int))), (2, jv (bef)), (4, iv (((p : Nat) : Int)))]) rfl (by decide) dX7_meets_105 ?_
              have lp107 : ∀ (n : Nat) (az : Nat) (haz : p ≤ az ∧ az ≤ m_fs) (hN : atN T p m_fs (m_fs - az) = atN T p m_fs (m_fs - p)), m_fs - az < n → GW p_ l e_ (headSpec wsX7_meets ({ frames := 1, cells := 0, slots := 0, locals := 30 })).room s_ m_ ([.ref (m 0)]).toArray b_ me_ c_ (MQ b_ (Qm D (fun ov ow => ∃ (r : Bool) (tb : Nat → Int) (cr : Nat → Int) (un : Int), ((r = true ∧ ∃ q, crnO m_fs m_cs m_cn m_ch = some (q, un) ∧ ∀ j, j < m_fs → cr j = q j) ∨ (r = false ∧ crnO m_fs m_cs m_cn m_ch = none)) ∧ ov = some (iv (if r = true then 1 else 0)) ∧ ow = wMO cA m (((m_nc : Nat) : Int)) (((m_nr : Nat) : Int)) (m_ke) (m_so) (m_bu) (m_bc) (m_pu) (m_qu) (((m_fs : Nat) : Int)) (((m_cd : Nat) : Int)) (un) (m_hb) (m_pf) (m_ef) ++ wME cA m (m_fr) (m_cs) (m_cn) (m_ck) (m_ch) (tb) (cr)) A) ([.ref (m 0)]).toArray s_ 0 0 A) (IM D s_ A) 9 0 0 (wMO cA m (((m_nc : Nat) : Int)) (((m_nr : Nat) : Int)) (m_ke) (m_so) (m_bu) (m_bc) (m_pu) (m_qu) (((m_fs : Nat) : Int)) (((m_cd : Nat) : Int)) (m_un) (m_hb) (m_pf) (m_ef) ++ wME cA m (m_fr) (m_cs) (m_cn) (m_ck) (m_ch) (tx) (m_cr)) ([(0, .ref (m 0)), (1, iv (((w : Nat) : Int))), (2, jv (bef)), (4, iv (((p : Nat) : Int))), (5, iv (((az : Nat) : Int)))]) [] 107 := by
                intro n; induction n with
                | zero => intro az; intros; omega
                | succ n ih107 =>
                  intro az haz hN hmu107
                  refine g_iload F 4 rfl dX7_meets_107 ?_
                  refine g_aload_n F 0 rfl rfl dX7_meets_109 ?_
                  refine g_get F hV iX7 0 rfl rfl 21 (by decide) (List.mem_of_getElem? (i := 1) rfl) rfl dX7_meets_110 ?_
                  refine g_icmp_ge F (tgt := 139) dX7_meets_113 (by decide) ⟨by omega, by omega⟩ ⟨by omega, by omega⟩ (fun c_6 => ?_) (fun c_6 => ?_)
                  · skip
                    refine g_iload F 4 rfl dX7_meets_139 ?_
                    refine g_aload_n F 0 rfl rfl dX7_meets_141 ?_
                    refine g_get F hV iX7 0 rfl rfl 21 (by decide) (List.mem_of_getElem? (i := 1) rfl) rfl dX7_meets_142 ?_
                    refine g_icmp_ne F (tgt := 150) dX7_meets_145 (by decide) ⟨by omega, by omega⟩ ⟨by omega, by omega⟩ (fun c_7 => ?_) (fun c_7 => ?_)
                    · skip
                      exfalso; omega
                    · skip
                      refine g_iconst F dX7_meets_148 ?_
                      exact g_zret F rfl (nar_01 (Or.inl rfl)) (by decide) (by decide) ⟨false, tx, m_cr, m_un, (Or.inr ⟨rfl, crn_none hE (by rw [← hN, show az = m_fs by omega, Nat.sub_self]; rfl) (by omega)⟩), congrArg (fun z => some (iv z)) (show (0 : Int) = if false = true then 1 else 0 by rfl), rfl⟩ dX7_meets_149
                  · skip
                    have hwz := ix_30 (w := w) (a := az) (by omega) (by omega)
                    have hb1 := hbd.1 az p (by omega) (by omega)
                    have hb2 := hT az p (by omega) (by omega)
                    refine g_aload_n F 0 rfl rfl dX7_meets_116 ?_
                    refine g_get F hV iX7 0 rfl rfl 27 (by decide) (List.mem_of_getElem? (i := 2) rfl) rfl dX7_meets_117 ?_
                    refine g_iload_n F 1 rfl rfl dX7_meets_120 ?_
                    refine g_iload F 4 rfl dX7_meets_121 ?_
                    refine g_imul F dX7_meets_123 ?_
                    refine g_iload F 3 rfl dX7_meets_124 ?_
                    refine g_iadd F dX7_meets_126 ?_
                    refine g_lald F hV 6 rfl ((w * az) + p) (by omega) (by omega) (by decide) dX7_meets_127 ?_
                    refine g_lconst F (z := 0) dX7_meets_128 (by decide) ?_
                    refine g_lcmp_ne F (tgt := 139) dX7_meets_129 dX7_meets_130 (by decide) (show I64 _ from by rw [hb2]; exact ⟨by omega, by omega⟩) ⟨by decide, by decide⟩ (fun c_8 => ?_) (fun c_8 => ?_)
                    · skip
                      refine g_iload F 4 rfl dX7_meets_139 ?_
                      refine g_aload_n F 0 rfl rfl dX7_meets_141 ?_
                      refine g_get F hV iX7 0 rfl rfl 21 (by decide) (List.mem_of_getElem? (i := 1) rfl) rfl dX7_meets_142 ?_
                      refine g_icmp_ne F (tgt := 150) dX7_meets_145 (by decide) ⟨by omega, by omega⟩ ⟨by omega, by omega⟩ (fun c_9 => ?_) (fun c_9 => ?_)
                      · skip
                        have haz2 : atN T p m_fs (m_fs - p) = az := by rw [← hN]; exact at_hit (by omega) (by rw [← hT az p (by omega) (by omega)]; omega)
                        have hwp := ix_30 (w := w) (a := p) (by omega) (by omega)
                        refine g_aload_n F 0 rfl rfl dX7_meets_150 ?_
                        refine g_iload F 4 rfl dX7_meets_151 ?_
                        refine g_iload F 3 rfl dX7_meets_153 ?_
                        refine g_iload_n F 1 rfl rfl dX7_meets_155 ?_
                        refine g_callV F (As := [iv (((az : Nat) : Int)), iv (((p : Nat) : Int)), iv (((w : Nat) : Int))]) (rest := []) (wr := []) (kX7_swap l D cA m m_nc m_nr m_ke m_so m_bu m_bc m_pu m_qu (((m_fs : Nat) : Int)) (((m_cd : Nat) : Int)) m_un m_hb m_pf m_ef m_fr m_cs m_cn m_ck m_ch tx m_cr az p w (by omega) (by omega) (by omega)) (cwV 3 F.2.2.2.2.1 gX7_meets_X7_swap rfl rfl rfl (by decide +kernel) ⟨Nat.le_of_ble_eq_true rfl, Nat.le_of_ble_eq_true rfl⟩) rfl rfl (q0 := 0) rfl [0, 1, 2, 3, 4, 5, 6, 7] [] rfl rfl (by decide) (by decide) (by decide) rfl rfl (Nat.le_of_ble_eq_true rfl) ⟨Nat.le_of_ble_eq_true rfl, Nat.le_of_ble_eq_true rfl⟩ hA dX7_meets_156 (fun v w hv => ?_)
                        obtain ⟨tb156, hswap156, hv, hw⟩ := hv
                        subst hv
                        subst hw
                        refine g_wsub (wMO cA m (((m_nc : Nat) : Int)) (((m_nr : Nat) : Int)) (m_ke) (m_so) (m_bu) (m_bc) (m_pu) (m_qu) (((m_fs : Nat) : Int)) (((m_cd : Nat) : Int)) (m_un) (m_hb) (m_pf) (m_ef) ++ wME cA m (m_fr) (m_cs) (m_cn) (m_ck) (m_ch) (tb156) (m_cr)) [0, 1, 2, 3, 4, 5, 6, 7] (by decide) rfl ?_
                        refine g_eq (st' := []) rfl rfl rfl ?_
                        refine g_aload_n F 0 rfl rfl dX7_meets_159 ?_
                        refine g_get F hV iX7 0 rfl rfl 27 (by decide) (List.mem_of_getElem? (i := 2) rfl) rfl dX7_meets_160 ?_
                        refine g_iload_n F 1 rfl rfl dX7_meets_163 ?_
                        refine g_iload F 3 rfl dX7_meets_164 ?_
                        refine g_imul F dX7_meets_166 ?_
                        refine g_iload F 3 rfl dX7_meets_167 ?_
                        refine g_iadd F dX7_meets_169 ?_
                        refine g_lald F hV 6 rfl ((w * p) + p) (by omega) (by omega) (by decide) dX7_meets_170 ?_
                        obtain ⟨pv, hpv⟩ : ∃ y : Int, y = tb156 ((w * p) + p) := ⟨_, rfl⟩
                        rw [← hpv]
                        refine g_lstore F ([(6, jv (pv)), (0, .ref (m 0)), (1, iv (((w : Nat) : Int))), (2, jv (bef)), (4, iv (((p : Nat) : Int))), (5, iv (((az : Nat) : Int)))]) rfl (by decide) dX7_meets_171 ?_
                        have hpS : swM T az p p p = pv := by rw [hpv, hswap156 p p (by omega)]; exact (sw_cong (by omega) (by omega) hT (by omega) (by omega)).symm
                        have hkS := el_swap hkI (by omega) haz.1 (by omega)
                        have hbS := el_bnd hn hsm.1 hsm.2 hkS
                        have hkC := el_clear hkS (by omega) hsm.1 (by rw [hpS]; have h9 := at_hit (T := T) (p := p) (n := m_fs) (z := az) ; intro h0; rw [hpS.symm] at h0; unfold swM at h0; split at h0; (rename_i e9; rw [← hT p p (by omega) (by omega)] at h0; subst e9; omega); (rw [if_neg (by omega), if_pos rfl, ← hT az p (by omega) (by omega)] at h0; omega))
                        have hbC := el_bnd hn hsm.1 hsm.2 hkC
                        rw [hpS] at hbC
                        refine g_iconst F dX7_meets_173 ?_
                        refine g_istore F ([(8, iv (0)), (6, jv (pv)), (0, .ref (m 0)), (1, iv (((w : Nat) : Int))), (2, jv (bef)), (4, iv (((p : Nat) : Int))), (5, iv (((az : Nat) : Int)))]) rfl (by decide) dX7_meets_174 ?_
                        have lp176 : ∀ (n : Nat) (i : Nat) (ty : Nat → Int) (hi : i ≤ m_fs) (hY : ∀ r q, r < m_fs → q < w → ty (w * r + q) = if r < i then clM (swM T az p) p pv bef r q else swM T az p r q), m_fs - i < n → GW p_ l e_ (headSpec wsX7_meets ({ frames := 1, cells := 0, slots := 0, locals := 30 })).room s_ m_ ([.ref (m 0)]).toArray b_ me_ c_ (MQ b_ (Qm D (fun ov ow => ∃ (r : Bool) (tb : Nat → Int) (cr : Nat → Int) (un : Int), ((r = true ∧ ∃ q, crnO m_fs m_cs m_cn m_ch = some (q, un) ∧ ∀ j, j < m_fs → cr j = q j) ∨ (r = false ∧ crnO m_fs m_cs m_cn m_ch = none)) ∧ ov = some (iv (if r = true then 1 else 0)) ∧ ow = wMO cA m (((m_nc : Nat) : Int)) (((m_nr : Nat) : Int)) (m_ke) (m_so) (m_bu) (m_bc) (m_pu) (m_qu) (((m_fs : Nat) : Int)) (((m_cd : Nat) : Int)) (un) (m_hb) (m_pf) (m_ef) ++ wME cA m (m_fr) (m_cs) (m_cn) (m_ck) (m_ch) (tb) (cr)) A) ([.ref (m 0)]).toArray s_ 0 0 A) (IM D s_ A) 9 0 0 (wMO cA m (((m_nc : Nat) : Int)) (((m_nr : Nat) : Int)) (m_ke) (m_so) (m_bu) (m_bc) (m_pu) (m_qu) (((m_fs : Nat) : Int)) (((m_cd : Nat) : Int)) (m_un) (m_hb) (m_pf) (m_ef) ++ wME cA m (m_fr) (m_cs) (m_cn) (m_ck) (m_ch) (ty) (m_cr)) ([(0, .ref (m 0)), (1, iv (((w : Nat) : Int))), (2, jv (bef)), (4, iv (((p : Nat) : Int))), (5, iv (((az : Nat) : Int))), (6, jv (pv)), (8, iv (((i : Nat) : Int)))]) [] 176 := by
                          intro n; induction n with
                          | zero => intro i ty; intros; omega
                          | succ n ih176 =>
                            intro i ty hi hY hmu176
                            refine g_iload F 6 rfl dX7_meets_176 ?_
                            refine g_aload_n F 0 rfl rfl dX7_meets_178 ?_
                            refine g_get F hV iX7 0 rfl rfl 21 (by decide) (List.mem_of_getElem? (i := 1) rfl) rfl dX7_meets_179 ?_
                            refine g_icmp_ge F (tgt := 203) dX7_meets_182 (by decide) ⟨by omega, by omega⟩ ⟨by omega, by omega⟩ (fun c_10 => ?_) (fun c_10 => ?_)
                            · skip
                              refine g_lload F 5 rfl dX7_meets_203 ?_
                              refine g_lstore_n F ([(2, jv (pv)), (0, .ref (m 0)), (1, iv (((w : Nat) : Int))), (4, iv (((p : Nat) : Int))), (5, iv (((az : Nat) : Int))), (6, jv (pv)), (8, iv (((i : Nat) : Int)))]) rfl rfl (by decide) dX7_meets_205 ?_
                              refine g_iinc F 3 rfl ([(4, iv ((((p : Nat) : Int)) + 1)), (2, jv (pv)), (0, .ref (m 0)), (1, iv (((w : Nat) : Int))), (5, iv (((az : Nat) : Int))), (6, jv (pv)), (8, iv (((i : Nat) : Int)))]) rfl (by decide) dX7_meets_206 ?_
                              refine g_goto F (tgt := 94) dX7_meets_209 (by decide) ?_
                              refine g_lsub ([(0, .ref (m 0)), (1, iv (((w : Nat) : Int))), (2, jv (pv)), (4, iv ((((p : Nat) : Int)) + 1))]) [2, 3, 1, 0] rfl ?_
                              exact ih94 (p + 1) pv ty (clM (swM T az p) p pv bef) (by omega) (by rw [el_go hE (a := az) (by omega) (by omega), hpS]) (fun r q hr hq => by rw [hY r q hr hq, if_pos (by omega)]) (by omega)
                            · skip
                              have hrow : ∀ q, q < w → (ty (w * i + q)).natAbs ≤ 70858800000 := fun q hq => by rw [hY i q (by omega) hq, if_neg (Nat.lt_irrefl i)]; rcases (show q < m_fs ∨ q = m_fs by omega) with z | z; exact Nat.le_trans (hbS.1 i q (by omega) z) (by decide); (subst z; exact hbS.2.1 i (by omega))
                              have hrop : ∀ q, q < w → (ty (w * p + q)).natAbs ≤ 70858800000 := fun q hq => by rw [hY p q (by omega) hq]; rcases (show q < m_fs ∨ q = m_fs by omega) with z | z; (split; exact Nat.le_trans (hbC.1 p q (by omega) z) (by decide); exact Nat.le_trans (hbS.1 p q (by omega) z) (by decide)); (subst z; split; exact hbC.2.1 p (by omega); exact hbS.2.1 p (by omega))
                              have hown9 : (ty (w * i + p)).natAbs ≤ 7085880 := by rw [hY i p (by omega) (by omega), if_neg (Nat.lt_irrefl i)]; exact hbS.1 i p (by omega) (by omega)
                              have hpv9 : pv.natAbs ≤ 7085880 := by rw [← hpS]; exact hbS.1 p p (by omega) (by omega)
                              refine g_aload_n F 0 rfl rfl dX7_meets_185 ?_
                              refine g_iload F 6 rfl dX7_meets_186 ?_
                              refine g_iload F 3 rfl dX7_meets_188 ?_
                              refine g_iload_n F 1 rfl rfl dX7_meets_190 ?_
                              refine g_lload F 5 rfl dX7_meets_191 ?_
                              refine g_lload_n F 2 rfl rfl dX7_meets_193 ?_
                              refine g_callV F (As := [iv (((i : Nat) : Int)), iv (((p : Nat) : Int)), iv (((w : Nat) : Int)), jv (pv), jv (bef)]) (rest := []) (wr := []) (kX7_clear l D cA m m_nc m_nr m_ke m_so m_bu m_bc m_pu m_qu (((m_fs : Nat) : Int)) (((m_cd : Nat) : Int)) m_un m_hb m_pf m_ef m_fr m_cs m_cn m_ck m_ch ty m_cr i p w pv bef (by omega) (by omega) (by omega) (by omega) (hrow) (hrop) (hown9) (hpv9) (⟨hbd.2.2.2, hbd.2.2.1⟩)) (cwV 5 F.2.2.2.2.1 gX7_meets_X7_clear rfl rfl rfl (by decide +kernel) ⟨Nat.le_of_ble_eq_true rfl, Nat.le_of_ble_eq_true rfl⟩) rfl rfl (q0 := 0) rfl [0, 1, 2, 3, 4, 5, 6, 7] [] rfl rfl (by decide) (by decide) (by decide) rfl rfl (Nat.le_of_ble_eq_true rfl) ⟨Nat.le_of_ble_eq_true rfl, Nat.le_of_ble_eq_true rfl⟩ hA dX7_meets_194 (fun v w hv => ?_)
                              obtain ⟨tb194, hclear194, hv, hw⟩ := hv
                              subst hv
                              subst hw
                              refine g_wsub (wMO cA m (((m_nc : Nat) : Int)) (((m_nr : Nat) : Int)) (m_ke) (m_so) (m_bu) (m_bc) (m_pu) (m_qu) (((m_fs : Nat) : Int)) (((m_cd : Nat) : Int)) (m_un) (m_hb) (m_pf) (m_ef) ++ wME cA m (m_fr) (m_cs) (m_cn) (m_ck) (m_ch) (tb194) (m_cr)) [0, 1, 2, 3, 4, 5, 6, 7] (by decide) rfl ?_
                              refine g_eq (st' := []) rfl rfl rfl ?_
                              refine g_iinc F 6 rfl ([(8, iv ((((i : Nat) : Int)) + 1)), (0, .ref (m 0)), (1, iv (((w : Nat) : Int))), (2, jv (bef)), (4, iv (((p : Nat) : Int))), (5, iv (((az : Nat) : Int))), (6, jv (pv))]) rfl (by decide) dX7_meets_197 ?_
                              refine g_goto F (tgt := 176) dX7_meets_200 (by decide) ?_
                              refine g_lsub ([(0, .ref (m 0)), (1, iv (((w : Nat) : Int))), (2, jv (bef)), (4, iv (((p : Nat) : Int))), (5, iv (((az : Nat) : Int))), (6, jv (pv)), (8, iv ((((i : Nat) : Int)) + 1))]) [1, 2, 3, 4, 5, 6, 0] rfl ?_
                              exact ih176 (i + 1) tb194 (by omega) (cl_next (by omega) (by omega) (by omega) hY hclear194) (by omega)
                        refine g_lsub ([(0, .ref (m 0)), (1, iv (((w : Nat) : Int))), (2, jv (bef)), (4, iv (((p : Nat) : Int))), (5, iv (((az : Nat) : Int))), (6, jv (pv)), (8, iv (0))]) [2, 3, 4, 5, 6, 1, 0] rfl ?_
                        exact lp176 (_ + 1) 0 tb156 (by omega) (fun r q hr hq => by rw [if_neg (Nat.not_lt_zero r), hswap156 r q hq]; exact sw_cong (by omega) (by omega) hT hr hq) (Nat.lt_succ_self _)
                      · skip
                        exfalso; omega
                    · skip
                      refine g_iinc F 4 rfl ([(5, iv ((((az : Nat) : Int)) + 1)), (0, .ref (m 0)), (1, iv (((w : Nat) : Int))), (2, jv (bef)), (4, iv (((p : Nat) : Int)))]) rfl (by decide) dX7_meets_133 ?_
                      refine g_goto F (tgt := 107) dX7_meets_136 (by decide) ?_
                      refine g_lsub ([(0, .ref (m 0)), (1, iv (((w : Nat) : Int))), (2, jv (bef)), (4, iv (((p : Nat) : Int))), (5, iv ((((az : Nat) : Int)) + 1))]) [1, 2, 3, 4, 0] rfl ?_
                      exact ih107 (az + 1) (by omega) (by rw [at_go (by omega) (by rw [← hT az p (by omega) (by omega)]; omega)]; exact hN) (by omega)
              refine g_lsub ([(0, .ref (m 0)), (1, iv (((w : Nat) : Int))), (2, jv (bef)), (4, iv (((p : Nat) : Int))), (5, iv (((p : Nat) : Int)))]) [1, 2, 3, 4, 0] rfl ?_
              exact lp107 (_ + 1) p (by omega) (rfl) (Nat.lt_succ_self _)
        refine g_lsub ([(0, .ref (m 0)), (1, iv (((w : Nat) : Int))), (2, jv (1)), (4, iv (0))]) [2, 3, 1, 0] rfl ?_
        exact lp94 (_ + 1) 0 1 tx ((mtM m_fs m_cs m_cn m_ch)) (by omega) (rfl) (fun r q hr hq => hF r q hq (by omega)) (Nat.lt_succ_self _)
      · skip
        refine g_iconst F dX7_meets_17 ?_
        refine g_istore_n F ([(3, iv (0)), (0, .ref (m 0)), (1, iv (((w : Nat) : Int))), (2, iv (((i : Nat) : Int)))]) rfl rfl (by decide) dX7_meets_18 ?_
        have lp19 : ∀ (n : Nat) (j : Nat) (ty : Nat → Int) (hj : j ≤ m_fs) (hG : ∀ r q, q < w → (r < i ∨ (r = i ∧ q < j)) → ty (w * r + q) = (mtM m_fs m_cs m_cn m_ch) r q), m_fs - j < n → GW p_ l e_ (headSpec wsX7_meets ({ frames := 1, cells := 0, slots := 0, locals := 30 })).room s_ m_ ([.ref (m 0)]).toArray b_ me_ c_ (MQ b_ (Qm D (fun ov ow => ∃ (r : Bool) (tb : Nat → Int) (cr : Nat → Int) (un : Int), ((r = true ∧ ∃ q, crnO m_fs m_cs m_cn m_ch = some (q, un) ∧ ∀ j, j < m_fs → cr j = q j) ∨ (r = false ∧ crnO m_fs m_cs m_cn m_ch = none)) ∧ ov = some (iv (if r = true then 1 else 0)) ∧ ow = wMO cA m (((m_nc : Nat) : Int)) (((m_nr : Nat) : Int)) (m_ke) (m_so) (m_bu) (m_bc) (m_pu) (m_qu) (((m_fs : Nat) : Int)) (((m_cd : Nat) : Int)) (un) (m_hb) (m_pf) (m_ef) ++ wME cA m (m_fr) (m_cs) (m_cn) (m_ck) (m_ch) (tb) (cr)) A) ([.ref (m 0)]).toArray s_ 0 0 A) (IM D s_ A) 9 0 0 (wMO cA m (((m_nc : Nat) : Int)) (((m_nr : Nat) : Int)) (m_ke) (m_so) (m_bu) (m_bc) (m_pu) (m_qu) (((m_fs : Nat) : Int)) (((m_cd : Nat) : Int)) (m_un) (m_hb) (m_pf) (m_ef) ++ wME cA m (m_fr) (m_cs) (m_cn) (m_ck) (m_ch) (ty) (m_cr)) ([(0, .ref (m 0)), (1, iv (((w : Nat) : Int))), (2, iv (((i : Nat) : Int))), (3, iv (((j : Nat) : Int)))]) [] 19 := by
          intro n; induction n with
          | zero => intro j ty; intros; omega
          | succ n ih19 =>
            intro j ty hj hG hmu19
            refine g_iload_n F 3 rfl rfl dX7_meets_19 ?_
            refine g_aload_n F 0 rfl rfl dX7_meets_20 ?_
            refine g_get F hV iX7 0 rfl rfl 21 (by decide) (List.mem_of_getElem? (i := 1) rfl) rfl dX7_meets_21 ?_
            refine g_icmp_ge F (tgt := 59) dX7_meets_24 (by decide) ⟨by omega, by omega⟩ ⟨by omega, by omega⟩ (fun c_11 => ?_) (fun c_11 => ?_)
            · skip
              have hci := hch.1 i (by omega)
              have hwi := ix_30 (w := w) (a := i) (by omega) (by omega)
              refine g_aload_n F 0 rfl rfl dX7_meets_59 ?_
              refine g_get F hV iX7 0 rfl rfl 27 (by decide) (List.mem_of_getElem? (i := 2) rfl) rfl dX7_meets_60 ?_
              refine g_iload_n F 1 rfl rfl dX7_meets_63 ?_
              refine g_iload_n F 2 rfl rfl dX7_meets_64 ?_
              refine g_imul F dX7_meets_65 ?_
              refine g_aload_n F 0 rfl rfl dX7_meets_66 ?_
              refine g_get F hV iX7 0 rfl rfl 21 (by decide) (List.mem_of_getElem? (i := 1) rfl) rfl dX7_meets_67 ?_
              refine g_iadd F dX7_meets_70 ?_
              refine g_aload_n F 0 rfl rfl dX7_meets_71 ?_
              refine g_get F hV iX7 0 rfl rfl 24 (by decide) (List.mem_of_getElem? (i := 5) rfl) rfl dX7_meets_72 ?_
              refine g_aload_n F 0 rfl rfl dX7_meets_75 ?_
              refine g_get F hV iX7 0 rfl rfl 26 (by decide) (List.mem_of_getElem? (i := 4) rfl) rfl dX7_meets_76 ?_
              refine g_iload_n F 2 rfl rfl dX7_meets_79 ?_
              refine g_iald F hV 5 rfl (i) (by omega) (by omega) (by decide) dX7_meets_80 ?_
              refine g_lald F hV 3 rfl ((m_ch i).toNat) (by omega) (by omega) (by decide) dX7_meets_81 ?_
              refine g_last F 6 rfl ((w * i) + m_fs) (by omega) (by omega) (by decide) (wMO cA m (((m_nc : Nat) : Int)) (((m_nr : Nat) : Int)) (m_ke) (m_so) (m_bu) (m_bc) (m_pu) (m_qu) (((m_fs : Nat) : Int)) (((m_cd : Nat) : Int)) (m_un) (m_hb) (m_pf) (m_ef) ++ wME cA m (m_fr) (m_cs) (m_cn) (m_ck) (m_ch) (va_up ty ((w * i) + m_fs) (m_cn ((m_ch i).toNat))) (m_cr)) rfl dX7_meets_82 ?_
              refine g_iinc F 2 rfl ([(2, iv ((((i : Nat) : Int)) + 1)), (0, .ref (m 0)), (1, iv (((w : Nat) : Int))), (3, iv (((j : Nat) : Int)))]) rfl (by decide) dX7_meets_83 ?_
              refine g_goto F (tgt := 9) dX7_meets_86 (by decide) ?_
              refine g_lsub ([(0, .ref (m 0)), (1, iv (((w : Nat) : Int))), (2, iv ((((i : Nat) : Int)) + 1))]) [1, 2, 0] rfl ?_
              exact ih9 (i + 1) (va_up ty ((w * i) + m_fs) (m_cn ((m_ch i).toNat))) (by omega) (fun r q hq h => (fl_step (n := m_fs) (M := (mtM m_fs m_cs m_cn m_ch)) hw (show m_fs < w by omega) (by unfold mtM; rw [if_neg (Nat.lt_irrefl _)]) (fun r q hq h => hG r q hq (by omega))) r q hq (by omega)) (by omega)
            · skip
              have hci := hch.1 i (by omega)
              have hwi := ix_30 (w := w) (a := i) (by omega) (by omega)
              have hcs9 := hs.1 (m_ch i).toNat j (by omega) (by omega)
              refine g_aload_n F 0 rfl rfl dX7_meets_27 ?_
              refine g_get F hV iX7 0 rfl rfl 27 (by decide) (List.mem_of_getElem? (i := 2) rfl) rfl dX7_meets_28 ?_
              refine g_iload_n F 1 rfl rfl dX7_meets_31 ?_
              refine g_iload_n F 2 rfl rfl dX7_meets_32 ?_
              refine g_imul F dX7_meets_33 ?_
              refine g_iload_n F 3 rfl rfl dX7_meets_34 ?_
              refine g_iadd F dX7_meets_35 ?_
              refine g_aload_n F 0 rfl rfl dX7_meets_36 ?_
              refine g_get F hV iX7 0 rfl rfl 23 (by decide) (List.mem_of_getElem? (i := 3) rfl) rfl dX7_meets_37 ?_
              refine g_iconst F dX7_meets_40 ?_
              refine g_aload_n F 0 rfl rfl dX7_meets_41 ?_
              refine g_get F hV iX7 0 rfl rfl 26 (by decide) (List.mem_of_getElem? (i := 4) rfl) rfl dX7_meets_42 ?_
              refine g_iload_n F 2 rfl rfl dX7_meets_45 ?_
              refine g_iald F hV 5 rfl (i) (by omega) (by omega) (by decide) dX7_meets_46 ?_
              refine g_imul F dX7_meets_47 ?_
              refine g_iload_n F 3 rfl rfl dX7_meets_48 ?_
              refine g_iadd F dX7_meets_49 ?_
              refine g_iald F hV 2 rfl ((m_ch i).toNat * 5 + j) (by omega) (by omega) (by decide) dX7_meets_50 ?_
              refine g_i2l F ⟨by omega, by omega⟩ dX7_meets_51 ?_
              refine g_last F 6 rfl ((w * i) + j) (by omega) (by omega) (by decide) (wMO cA m (((m_nc : Nat) : Int)) (((m_nr : Nat) : Int)) (m_ke) (m_so) (m_bu) (m_bc) (m_pu) (m_qu) (((m_fs : Nat) : Int)) (((m_cd : Nat) : Int)) (m_un) (m_hb) (m_pf) (m_ef) ++ wME cA m (m_fr) (m_cs) (m_cn) (m_ck) (m_ch) (va_up ty ((w * i) + j) (m_cs ((m_ch i).toNat * 5 + j))) (m_cr)) rfl dX7_meets_52 ?_
              refine g_iinc F 3 rfl ([(3, iv ((((j : Nat) : Int)) + 1)), (0, .ref (m 0)), (1, iv (((w : Nat) : Int))), (2, iv (((i : Nat) : Int)))]) rfl (by decide) dX7_meets_53 ?_
              refine g_goto F (tgt := 19) dX7_meets_56 (by decide) ?_
              refine g_lsub ([(0, .ref (m 0)), (1, iv (((w : Nat) : Int))), (2, iv (((i : Nat) : Int))), (3, iv ((((j : Nat) : Int)) + 1))]) [1, 2, 3, 0] rfl ?_
              exact ih19 (j + 1) (va_up ty ((w * i) + j) (m_cs ((m_ch i).toNat * 5 + j))) (by omega) (fl_step (n := m_fs) hw (by omega) (by unfold mtM; rw [if_pos (by omega)]) hG) (by omega)
        refine g_lsub ([(0, .ref (m 0)), (1, iv (((w : Nat) : Int))), (2, iv (((i : Nat) : Int))), (3, iv (0))]) [1, 2, 3, 0] rfl ?_
        exact lp19 (_ + 1) 0 tx (by omega) (hF) (Nat.lt_succ_self _)
  refine g_lsub ([(0, .ref (m 0)), (1, iv (((w : Nat) : Int))), (2, iv (0))]) [2, 1, 0] rfl ?_
  exact lp9 (_ + 1) 0 m_tb (by omega) (fun r q _ h => absurd h (by omega)) (Nat.lt_succ_self _)
