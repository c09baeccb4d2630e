abbrev bzF (f : Nat → Int) : Nat → Bool := fun c => decide (f c ≠ 0)
abbrev frN (f : Nat → Int) : Nat → Nat := fun j => (f j).toNat
theorem gf_end {nc k : Nat} {fx fa : Nat → Int} (hk : k = cntZ (unf (bzF fx)) nc) (h : ∀ c, c < nc → bzF fx c = false → fa (cntZ (unf (bzF fx)) c) = (c : Int)) : frI nc k (bzF fx) (frN fa) ∧ ∀ j, j < k → 0 ≤ fa j ∧ fa j < (nc : Int) := by
  refine ⟨⟨hk, fun c hc hf => ?_⟩, fun j hj => ?_⟩
  · show (fa (cntZ (unf (bzF fx)) c)).toNat = c
    rw [h c hc hf, Int.toNat_natCast]
  · obtain ⟨c, c1, c2, c3⟩ := cnt_onto (f := unf (bzF fx)) (n := nc) (j := j) (by rw [← hk]; exact hj)
    have h1 := h c c1 (by simpa [unf] using c2)
    rw [c3] at h1
    omega
theorem gf_no {fx fa : Nat → Int} {c k : Nat} (h0 : fx c ≠ 0) (hk : k = cntZ (unf (bzF fx)) c) (h : ∀ q, q < c → bzF fx q = false → fa (cntZ (unf (bzF fx)) q) = (q : Int)) : k = cntZ (unf (bzF fx)) (c + 1) ∧ ∀ q, q < c + 1 → bzF fx q = false → fa (cntZ (unf (bzF fx)) q) = (q : Int) := by
  have hb : bzF fx c = true := by show decide (fx c ≠ 0) = true; exact decide_eq_true h0
  refine ⟨?_, fun q hq hf => ?_⟩
  · show k = cntZ (unf (bzF fx)) c + (if unf (bzF fx) c then 1 else 0)
    rw [if_neg (by show ¬ (!bzF fx c) = true; rw [hb]; decide)]; omega
  · rcases (show q < c ∨ q = c by omega) with z | z
    · exact h q z hf
    · rw [z, hb] at hf; exact absurd hf (by decide)
theorem gf_yes {fx fa : Nat → Int} {c k : Nat} (h0 : fx c = 0) (hk : k = cntZ (unf (bzF fx)) c) (h : ∀ q, q < c → bzF fx q = false → fa (cntZ (unf (bzF fx)) q) = (q : Int)) : k + 1 = cntZ (unf (bzF fx)) (c + 1) ∧ ∀ q, q < c + 1 → bzF fx q = false → va_up fa k (c : Int) (cntZ (unf (bzF fx)) q) = (q : Int) := by
  have hb : bzF fx c = false := by show decide (fx c ≠ 0) = false; exact decide_eq_false (fun z => z h0)
  refine ⟨?_, fun q hq hf => ?_⟩
  · show k + 1 = cntZ (unf (bzF fx)) c + (if unf (bzF fx) c then 1 else 0)
    rw [if_pos (by show (!bzF fx c) = true; rw [hb]; rfl)]; omega
  · rcases (show q < c ∨ q = c by omega) with z | z
    · have h1 := cnt_lt (f := unf (bzF fx)) (c := q) (n := c) (by simp [unf, hf]) z
      rw [up_ne (by omega)]
      exact h q z hf
    · subst z
      rw [← hk, up_same]
-- ===== conditions, one after the other =====
abbrev agC (n K : Nat) (cs cn ck cs' cn' ck' : Nat → Int) : Prop := ∀ k, k < K → ck' k = ck k ∧ cn' k = cn k ∧ ∀ j, j < n → cs' (k * 5 + j) = cs (k * 5 + j)
theorem row_ag {n K k r : Nat} {fr : Nat → Nat} {cs cn ck cs' cn' ck' rk num sa : Nat → Int} {fs : Int} (ha : agC n K cs cn ck cs' cn' ck') (hk : k < K) (h : cdRow n fr cs cn ck rk num sa fs k r) : cdRow n fr cs' cn' ck' rk num sa fs k r := by
  obtain ⟨a1, a2, a3⟩ := ha k hk
  obtain ⟨h1, h2, h3⟩ := h
  exact ⟨by rw [a1, h1], by rw [a2, h2], fun j hj => by rw [a3 j hj, h3 j hj]⟩
theorem bnd_ag {n K k j0 : Nat} {cs cn ck cs' cn' ck' : Nat → Int} {kind v : Int} (ha : agC n K cs cn ck cs' cn' ck') (hk : k < K) (h : cdBnd n cs cn ck k j0 kind v) : cdBnd n cs' cn' ck' k j0 kind v := by
  obtain ⟨a1, a2, a3⟩ := ha k hk
  obtain ⟨h1, h2, h3⟩ := h
  exact ⟨by rw [a1, h1], by rw [a2, h2], fun j hj => by rw [a3 j hj, h3 j hj]⟩
def cdQ (nc n K : Nat) (fx : Nat → Bool) (fr : Nat → Nat) (fv lo hi rk num sa : Nat → Int) (rd : Nat → Prop) (jd : Nat) (cs cn ck : Nat → Int) : Prop :=
  (∀ k, k < K → (∃ r, rd r ∧ cdRow n fr cs cn ck rk num sa (fxS nc fx fv sa r) k r) ∨ (∃ j0, j0 < jd ∧ (cdBnd n cs cn ck k j0 1 (lo (fr j0)) ∨ (hi (fr j0) ≠ NONEz ∧ cdBnd n cs cn ck k j0 0 (hi (fr j0)))))) ∧
  (∀ r, rd r → ∃ k, k < K ∧ cdRow n fr cs cn ck rk num sa (fxS nc fx fv sa r) k r) ∧
  (∀ j0, j0 < jd → (∃ k, k < K ∧ cdBnd n cs cn ck k j0 1 (lo (fr j0))) ∧ (hi (fr j0) ≠ NONEz → ∃ k, k < K ∧ cdBnd n cs cn ck k j0 0 (hi (fr j0))))
theorem cdQ_0 {nc n : Nat} {fx : Nat → Bool} {fr : Nat → Nat} {fv lo hi rk num sa cs cn ck : Nat → Int} {rd : Nat → Prop} (h : ∀ r, ¬ rd r) : cdQ nc n 0 fx fr fv lo hi rk num sa rd 0 cs cn ck :=
  ⟨fun k hk => absurd hk (Nat.not_lt_zero k), fun r hr => absurd hr (h r), fun j hj => absurd hj (Nat.not_lt_zero j)⟩
theorem cdQ_rd {nc n K jd : Nat} {fx : Nat → Bool} {fr : Nat → Nat} {fv lo hi rk num sa cs cn ck : Nat → Int} {rd rd' : Nat → Prop} (he : ∀ r, rd' r ↔ rd r) (h : cdQ nc n K fx fr fv lo hi rk num sa rd jd cs cn ck) : cdQ nc n K fx fr fv lo hi rk num sa rd' jd cs cn ck := by
  have e : rd' = rd := funext (fun r => propext (he r))
  rw [e]; exact h
theorem cdQ_row {nc n K jd r : Nat} {fx : Nat → Bool} {fr : Nat → Nat} {fv lo hi rk num sa cs cn ck cs' cn' ck' : Nat → Int} {rd rd' : Nat → Prop} (h : cdQ nc n K fx fr fv lo hi rk num sa rd jd cs cn ck) (ha : agC n K cs cn ck cs' cn' ck') (hr : cdRow n fr cs' cn' ck' rk num sa (fxS nc fx fv sa r) K r) (he : ∀ q, rd' q ↔ (rd q ∨ q = r)) : cdQ nc n (K + 1) fx fr fv lo hi rk num sa rd' jd cs' cn' ck' := by
  obtain ⟨h1, h2, h3⟩ := h
  refine ⟨fun k hk => ?_, fun q hq => ?_, fun j0 hj => ?_⟩
  · rcases (show k < K ∨ k = K by omega) with z | z
    · rcases h1 k z with ⟨q, q1, q2⟩ | ⟨j0, j1, j2⟩
      · exact Or.inl ⟨q, (he q).mpr (Or.inl q1), row_ag ha z q2⟩
      · refine Or.inr ⟨j0, j1, ?_⟩
        rcases j2 with j2 | ⟨j2, j3⟩
        · exact Or.inl (bnd_ag ha z j2)
        · exact Or.inr ⟨j2, bnd_ag ha z j3⟩
    · subst z
      exact Or.inl ⟨r, (he r).mpr (Or.inr rfl), hr⟩
  · rcases (he q).mp hq with z | z
    · obtain ⟨k, k1, k2⟩ := h2 q z
      exact ⟨k, by omega, row_ag ha k1 k2⟩
    · subst z
      exact ⟨K, by omega, hr⟩
  · obtain ⟨⟨k, k1, k2⟩, k3⟩ := h3 j0 hj
    refine ⟨⟨k, by omega, bnd_ag ha k1 k2⟩, fun hh => ?_⟩
    obtain ⟨k', k4, k5⟩ := k3 hh
    exact ⟨k', by omega, bnd_ag ha k4 k5⟩
theorem cdQ_bnd {nc n K K' jd : Nat} {fx : Nat → Bool} {fr : Nat → Nat} {fv lo hi rk num sa cs cn ck cs' cn' ck' : Nat → Int} {rd : Nat → Prop} (h : cdQ nc n K fx fr fv lo hi rk num sa rd jd cs cn ck) (ha : agC n K cs cn ck cs' cn' ck') (hl : cdBnd n cs' cn' ck' K jd 1 (lo (fr jd))) (hh : (hi (fr jd) = NONEz ∧ K' = K + 1) ∨ (hi (fr jd) ≠ NONEz ∧ K' = K + 2 ∧ cdBnd n cs' cn' ck' (K + 1) jd 0 (hi (fr jd)))) : cdQ nc n K' fx fr fv lo hi rk num sa rd (jd + 1) cs' cn' ck' := by
  obtain ⟨h1, h2, h3⟩ := h
  have hKK : K < K' := by rcases hh with ⟨-, z⟩ | ⟨-, z, -⟩ <;> omega
  refine ⟨fun k hk => ?_, fun q hq => ?_, fun j0 hj => ?_⟩
  · rcases (show k < K ∨ k = K ∨ K < k by omega) with z | z | z
    · rcases h1 k z with ⟨q, q1, q2⟩ | ⟨j0, j1, j2⟩
      · exact Or.inl ⟨q, q1, row_ag ha z q2⟩
      · refine Or.inr ⟨j0, by omega, ?_⟩
        rcases j2 with j2 | ⟨j2, j3⟩
        · exact Or.inl (bnd_ag ha z j2)
        · exact Or.inr ⟨j2, bnd_ag ha z j3⟩
    · subst z
      exact Or.inr ⟨jd, by omega, Or.inl hl⟩
    · rcases hh with ⟨-, w⟩ | ⟨w1, w2, w3⟩
      · omega
      · rw [show k = K + 1 by omega]
        exact Or.inr ⟨jd, by omega, Or.inr ⟨w1, w3⟩⟩
  · obtain ⟨k, k1, k2⟩ := h2 q hq
    exact ⟨k, by omega, row_ag ha k1 k2⟩
  · rcases (show j0 < jd ∨ j0 = jd by omega) with z | z
    · obtain ⟨⟨k, k1, k2⟩, k3⟩ := h3 j0 z
      refine ⟨⟨k, by omega, bnd_ag ha k1 k2⟩, fun hh => ?_⟩
      obtain ⟨k', k4, k5⟩ := k3 hh
      exact ⟨k', by omega, bnd_ag ha k4 k5⟩
    · subst z
      refine ⟨⟨K, hKK, hl⟩, fun w => ?_⟩
      rcases hh with ⟨w1, -⟩ | ⟨-, w2, w3⟩
      · exact absurd w1 w
      · exact ⟨K + 1, by omega, w3⟩
theorem cdQ_end {nc nr n K : Nat} {fx : Nat → Bool} {fr : Nat → Nat} {fv lo hi rk num sa cs cn ck : Nat → Int} {wh : Nat → Prop} (h : cdQ nc n K fx fr fv lo hi rk num sa (fun r => r < nr ∧ wh r) n cs cn ck) : cdI nc nr n K fx fr fv lo hi rk num sa wh cs cn ck := by
  obtain ⟨h1, h2, h3⟩ := h
  refine ⟨fun k hk => ?_, fun r hr hw => h2 r ⟨hr, hw⟩, h3⟩
  rcases h1 k hk with ⟨q, q1, q2⟩ | ⟨j0, j1, j2⟩
  · exact Or.inl ⟨q, q1.1, q1.2, q2⟩
  · exact Or.inr ⟨j0, j1, j2⟩
/-- the conditions of one laying, and their bounds -/
def smK (n K : Nat) (cs cn ck : Nat → Int) : Prop := smallC n K cs cn ∧ ∀ k, k < K → 0 ≤ ck k ∧ ck k ≤ 2
theorem smK_0 {n : Nat} {cs cn ck : Nat → Int} : smK n 0 cs cn ck := ⟨⟨fun k j hk => absurd hk (Nat.not_lt_zero k), fun k hk => absurd hk (Nat.not_lt_zero k)⟩, fun k hk => absurd hk (Nat.not_lt_zero k)⟩
theorem smK_s {n K : Nat} {cs cn ck cs' cn' ck' : Nat → Int} (h : smK n K cs cn ck) (ha : agC n K cs cn ck cs' cn' ck') (h1 : ∀ j, j < n → (cs' (K * 5 + j)).natAbs ≤ 9) (h2 : (cn' K).natAbs ≤ 2000) (h3 : 0 ≤ ck' K ∧ ck' K ≤ 2) : smK n (K + 1) cs' cn' ck' := by
  refine ⟨⟨fun k j hk hj => ?_, fun k hk => ?_⟩, fun k hk => ?_⟩
  · rcases (show k < K ∨ k = K by omega) with z | z
    · rw [(ha k z).2.2 j hj]; exact h.1.1 k j z hj
    · rw [z]; exact h1 j hj
  · rcases (show k < K ∨ k = K by omega) with z | z
    · rw [(ha k z).2.1]; exact h.1.2 k z
    · rw [z]; exact h2
  · rcases (show k < K ∨ k = K by omega) with z | z
    · rw [(ha k z).1]; exact h.2 k z
    · rw [z]; exact h3
/-- a condition added: its row of shares f -/
theorem ag_row {n K : Nat} (hn : n ≤ 5) {cs cn ck f : Nat → Int} {x k : Int} {m : Nat} (hm : m ≤ 5) : agC n K cs cn ck (rowZ (rowZ cs (K * 5) (fun _ => 0) 5) (K * 5) f m) (va_up cn K x) (va_up ck K k) := by
  intro q hq
  refine ⟨up_ne (by omega), up_ne (by omega), fun j hj => ?_⟩
  rw [row_out (by omega), row_out (by omega)]
theorem ag_one {n K j0 : Nat} (hn : n ≤ 5) (hj : j0 < n) {cs cn ck : Nat → Int} {x k : Int} : agC n K cs cn ck (va_up (rowZ cs (K * 5) (fun _ => 0) 5) (K * 5 + j0) 1) (va_up cn K x) (va_up ck K k) := by
  intro q hq
  refine ⟨up_ne (by omega), up_ne (by omega), fun j hj => ?_⟩
  rw [up_ne (by omega), row_out (by omega)]
theorem ag_tr {n K K' : Nat} (hK : K ≤ K') {a b c a' b' c' a2 b2 c2 : Nat → Int} (h : agC n K a b c a' b' c') (h' : agC n K' a' b' c' a2 b2 c2) : agC n K a b c a2 b2 c2 := by
  intro k hk
  obtain ⟨x1, x2, x3⟩ := h k hk
  obtain ⟨y1, y2, y3⟩ := h' k (by omega)
  exact ⟨by rw [y1, x1], by rw [y2, x2], fun j hj => by rw [y3 j hj, x3 j hj]⟩
theorem cd_new {n K r : Nat} (hn : n ≤ 5) {fr : Nat → Nat} {cs cn ck rk num sa : Nat → Int} {x fs : Int} (hx : x = num r - fs) : cdRow n fr (rowZ (rowZ cs (K * 5) (fun _ => 0) 5) (K * 5) (fun j => sa (r * 5 + fr j)) n) (va_up cn K x) (va_up ck K (rk r)) rk num sa fs K r := by
  refine ⟨up_same, by rw [up_same, hx], fun j hj => ?_⟩
  rw [row_in (by omega) (by omega), show K * 5 + j - K * 5 = j by omega]
theorem bd_new {n K j0 : Nat} (hn : n ≤ 5) (hj0 : j0 < n) {cs cn ck : Nat → Int} {x k : Int} : cdBnd n (va_up (rowZ cs (K * 5) (fun _ => 0) 5) (K * 5 + j0) 1) (va_up cn K x) (va_up ck K k) K j0 k x := by
  refine ⟨up_same, up_same, fun j hj => ?_⟩
  by_cases e : j = j0
  · subst e; rw [up_same, if_pos rfl]
  · rw [up_ne (by omega), row_in (by omega) (by omega), if_neg e]
theorem one_sm {n K j0 : Nat} (hn : n ≤ 5) (hj0 : j0 < n) {cs : Nat → Int} : ∀ j, j < n → (va_up (rowZ cs (K * 5) (fun _ => 0) 5) (K * 5 + j0) 1 (K * 5 + j)).natAbs ≤ 9 := by
  intro j hj
  by_cases e : j = j0
  · subst e; rw [up_same]; decide
  · rw [up_ne (by omega), row_in (by omega) (by omega)]; decide
/-- what a laying leaves -/
def layP (nc nr n K : Nat) (fx : Nat → Bool) (fv lo hi rk num sa : Nat → Int) (wh : Nat → Prop) (fr cs cn ck : Nat → Int) : Prop :=
  frI nc n fx (frN fr) ∧ (∀ j, j < n → 0 ≤ fr j ∧ fr j < (nc : Int)) ∧ cdI nc nr n K fx (frN fr) fv lo hi rk num sa wh cs cn ck ∧ smK n K cs cn ck ∧ K ≤ 20 ∧ n ≤ 5
theorem fx_sum_s {fx fv sa : Nat → Int} {r c : Nat} : fxS (c + 1) (bzF fx) fv sa r = fxS c (bzF fx) fv sa r + (if fx c ≠ 0 then sa (r * 5 + c) * fv c else 0) := by
  show sumZ _ c + (if decide (fx c ≠ 0) = true then _ else _) = _
  by_cases h : fx c ≠ 0
  · rw [if_pos h, if_pos (decide_eq_true h)]
  · rw [if_neg h, if_neg (by rw [decide_eq_true_eq]; exact h)]
set_option maxHeartbeats 4000000 in
set_option maxRecDepth 100000 in
theorem kX7_gatherFree (l : Launch) (D : va_G) (cA : Nat → ClassId) (m : Nat → Nat) (m_nc : Nat) (m_nr : Nat) (m_ke : Int) (m_so : Int) (m_bu : Int) (m_bc : Int) (m_pu : Int) (m_qu : Int) (m_fs : Int) (m_cd : Int) (m_un : Int) (m_hb : Int) (m_pf : Int) (m_ef : Int) (m_fr : Nat → Int) (m_cs : Nat → Int) (m_cn : Nat → Int) (m_ck : Nat → Int) (m_ch : Nat → Int) (m_tb : Nat → Int) (m_cr : Nat → Int) (m_fx : Nat → Int) (m_fv : Nat → Int) (m_sn : Nat → Int) (qnc : m_nc ≤ 5) (hfx : ∀ j, j < m_nc → 0 ≤ m_fx j ∧ m_fx j ≤ 1) : CT l yX7_gatherFree wsX7_gatherFree ({ frames := 0, cells := 0, slots := 0, locals := 0 }) D cA [.ref (m 0)] (wMO cA m (((m_nc : Nat) : Int)) (((m_nr : Nat) : Int)) (m_ke) (m_so) (m_bu) (m_bc) (m_pu) (m_qu) (m_fs) (m_cd) (m_un) (m_hb) (m_pf) (m_ef) ++ wME cA m (m_fr) (m_cs) (m_cn) (m_ck) (m_ch) (m_tb) (m_cr) ++ wMX cA m (m_fx) (m_fv) (m_sn)) (fun ov ow => ∃ (fr : Nat → Int) (fs : Nat), (frI m_nc fs (bzF m_fx) (frN fr) ∧ ∀ j, j < fs → 0 ≤ fr j ∧ fr j < (m_nc : Int)) ∧ ov = none ∧ ow = wMO cA m (((m_nc : Nat) : Int)) (((m_nr : Nat) : Int)) (m_ke) (m_so) (m_bu) (m_bc) (m_pu) (m_qu) (((fs : Nat) : Int)) (m_cd) (m_un) (m_hb) (m_pf) (m_ef) ++ wME cA m (fr) (m_cs) (m_cn) (m_ck) (m_ch) (m_tb) (m_cr) ++ wMX cA m (m_fx) (m_fv) (m_sn)) 0 0 := by
  refine CT.mk (cc := cX7_gatherFree) (maxL := 2) (ret := none) (by decide +kernel) rfl (Nat.le_of_ble_eq_true rfl) ?_
  intro p_ e_ s_ m_ b_ me_ c_ A F hnm hA
  have hV := @IM_P D s_ A
  have iX7 : ∀ w ∈ u_ws RX7 TX7 38, w ∈ wsX7_gatherFree := by decide +kernel
  refine g_lsub ([(0, .ref (m 0))]) [0] rfl ?_
  refine g_aload_n F 0 rfl rfl dX7_gatherFree_0 ?_
  refine g_iconst F dX7_gatherFree_1 ?_
  refine g_put F iX7 tyX7 tyX7_ok nmX7 0 rfl rfl 21 (by decide) (List.mem_of_getElem? (i := 1) rfl) rfl rfl rfl (Nat.le_of_ble_eq_true rfl) (wMO cA m (((m_nc : Nat) : Int)) (((m_nr : Nat) : Int)) (m_ke) (m_so) (m_bu) (m_bc) (m_pu) (m_qu) (0) (m_cd) (m_un) (m_hb) (m_pf) (m_ef) ++ wME cA m (m_fr) (m_cs) (m_cn) (m_ck) (m_ch) (m_tb) (m_cr) ++ wMX cA m (m_fx) (m_fv) (m_sn)) rfl dX7_gatherFree_2 ?_
  refine g_iconst F dX7_gatherFree_5 ?_
  refine g_istore_n F ([(1, iv (0)), (0, .ref (m 0))]) rfl rfl (by decide) dX7_gatherFree_6 ?_
  have lp7 : ∀ (n : Nat) (c : Nat) (k : Nat) (fa : Nat → Int) (hc : c ≤ m_nc) (hk : k = cntZ (unf (bzF m_fx)) c) (hF : ∀ q, q < c → bzF m_fx q = false → fa (cntZ (unf (bzF m_fx)) q) = (q : Int)), m_nc - c < n → GW p_ l e_ (headSpec wsX7_gatherFree ({ frames := 0, cells := 0, slots := 0, locals := 0 })).room s_ m_ ([.ref (m 0)]).toArray b_ me_ c_ (MQ b_ (Qm D (fun ov ow => ∃ (fr : Nat → Int) (fs : Nat), (frI m_nc fs (bzF m_fx) (frN fr) ∧ ∀ j, j < fs → 0 ≤ fr j ∧ fr j < (m_nc : Int)) ∧ ov = none ∧ ow = wMO cA m (((m_nc : Nat) : Int)) (((m_nr : Nat) : Int)) (m_ke) (m_so) (m_bu) (m_bc) (m_pu) (m_qu) (((fs : Nat) : Int)) (m_cd) (m_un) (m_hb) (m_pf) (m_ef) ++ wME cA m (fr) (m_cs) (m_cn) (m_ck) (m_ch) (m_tb) (m_cr) ++ wMX cA m (m_fx) (m_fv) (m_sn)) A) ([.ref (m 0)]).toArray s_ 0 0 A) (IM D s_ A) 2 0 0 (wMO cA m (((m_nc : Nat) : Int)) (((m_nr : Nat) : Int)) (m_ke) (m_so) (m_bu) (m_bc) (m_pu) (m_qu) (((k : Nat) : Int)) (m_cd) (m_un) (m_hb) (m_pf) (m_ef) ++ wME cA m (fa) (m_cs) (m_cn) (m_ck) (m_ch) (m_tb) (m_cr) ++ wMX cA m (m_fx) (m_fv) (m_sn)) ([(0, .ref (m 0)), (1, iv (((c : Nat) : Int)))]) [] 7 := by
    intro n; induction n with
    | zero => intro c k fa; intros; omega
    | succ n ih7 =>
      intro c k fa hc hk hF hmu7
      have hkc := cntZ_le (unf (bzF m_fx)) c
      refine g_iload_n F 1 rfl rfl dX7_gatherFree_7 ?_
      refine g_aload_n F 0 rfl rfl dX7_gatherFree_8 ?_
      refine g_get F hV iX7 0 rfl rfl 0 (by decide) (List.mem_of_getElem? (i := 2) rfl) rfl dX7_gatherFree_9 ?_
      refine g_icmp_ge F (tgt := 50) dX7_gatherFree_12 (by decide) ⟨by omega, by omega⟩ ⟨by omega, by omega⟩ (fun c_1 => ?_) (fun c_1 => ?_)
      · skip
        exact g_vret F rfl (by decide) (by decide) ⟨fa, k, (gf_end (by rw [hk, show c = m_nc by omega]) (fun q hq => hF q (by omega))), rfl, rfl⟩ dX7_gatherFree_50
      · skip
        refine g_aload_n F 0 rfl rfl dX7_gatherFree_15 ?_
        refine g_get F hV iX7 0 rfl rfl 30 (by decide) (List.mem_of_getElem? (i := 3) rfl) rfl dX7_gatherFree_16 ?_
        refine g_iload_n F 1 rfl rfl dX7_gatherFree_19 ?_
        have r_2 := hfx (c)
        refine g_zald F hV 8 rfl (c) (by omega) (by omega) (by decide) dX7_gatherFree_20 ?_
        refine g_if_ne F (tgt := 44) dX7_gatherFree_21 (by decide) ⟨by omega, by omega⟩ (fun c_3 => ?_) (fun c_3 => ?_)
        · skip
          refine g_iinc F 1 rfl ([(1, iv ((((c : Nat) : Int)) + 1)), (0, .ref (m 0))]) rfl (by decide) dX7_gatherFree_44 ?_
          refine g_goto F (tgt := 7) dX7_gatherFree_47 (by decide) ?_
          refine g_lsub ([(0, .ref (m 0)), (1, iv ((((c : Nat) : Int)) + 1))]) [1, 0] rfl ?_
          exact ih7 (c + 1) k fa (by omega) (gf_no (by omega) hk hF).1 (gf_no (by omega) hk hF).2 (by omega)
        · skip
          refine g_aload_n F 0 rfl rfl dX7_gatherFree_24 ?_
          refine g_get F hV iX7 0 rfl rfl 20 (by decide) (List.mem_of_getElem? (i := 4) rfl) rfl dX7_gatherFree_25 ?_
          refine g_aload_n F 0 rfl rfl dX7_gatherFree_28 ?_
          refine g_get F hV iX7 0 rfl rfl 21 (by decide) (List.mem_of_getElem? (i := 1) rfl) rfl dX7_gatherFree_29 ?_
          refine g_iload_n F 1 rfl rfl dX7_gatherFree_32 ?_
          refine g_iast F 1 rfl (k) (by omega) (by omega) (by decide) (wMO cA m (((m_nc : Nat) : Int)) (((m_nr : Nat) : Int)) (m_ke) (m_so) (m_bu) (m_bc) (m_pu) (m_qu) (((k : Nat) : Int)) (m_cd) (m_un) (m_hb) (m_pf) (m_ef) ++ wME cA m (va_up fa k (((c : Nat) : Int))) (m_cs) (m_cn) (m_ck) (m_ch) (m_tb) (m_cr) ++ wMX cA m (m_fx) (m_fv) (m_sn)) rfl dX7_gatherFree_33 ?_
          refine g_aload_n F 0 rfl rfl dX7_gatherFree_34 ?_
          refine g_dup F rfl dX7_gatherFree_35 ?_
          refine g_get F hV iX7 0 rfl rfl 21 (by decide) (List.mem_of_getElem? (i := 1) rfl) rfl dX7_gatherFree_36 ?_
          refine g_iconst F dX7_gatherFree_39 ?_
          refine g_iadd F dX7_gatherFree_40 ?_
          refine g_put F iX7 tyX7 tyX7_ok nmX7 0 rfl rfl 21 (by decide) (List.mem_of_getElem? (i := 1) rfl) rfl rfl rfl (Nat.le_of_ble_eq_true rfl) (wMO cA m (((m_nc : Nat) : Int)) (((m_nr : Nat) : Int)) (m_ke) (m_so) (m_bu) (m_bc) (m_pu) (m_qu) ((((k : Nat) : Int)) + 1) (m_cd) (m_un) (m_hb) (m_pf) (m_ef) ++ wME cA m (va_up fa k (((c : Nat) : Int))) (m_cs) (m_cn) (m_ck) (m_ch) (m_tb) (m_cr) ++ wMX cA m (m_fx) (m_fv) (m_sn)) rfl dX7_gatherFree_41 ?_
          refine g_iinc F 1 rfl ([(1, iv ((((c : Nat) : Int)) + 1)), (0, .ref (m 0))]) rfl (by decide) dX7_gatherFree_44 ?_
          refine g_goto F (tgt := 7) dX7_gatherFree_47 (by decide) ?_
          refine g_lsub ([(0, .ref (m 0)), (1, iv ((((c : Nat) : Int)) + 1))]) [1, 0] rfl ?_
          exact ih7 (c + 1) (k + 1) (va_up fa k (((c : Nat) : Int))) (by omega) (gf_yes (by omega) hk hF).1 (gf_yes (by omega) hk hF).2 (by omega)
  refine g_lsub ([(0, .ref (m 0)), (1, iv (0))]) [1, 0] rfl ?_
  exact lp7 (_ + 1) 0 0 m_fr (by omega) (rfl) (fun q hq => absurd hq (Nat.not_lt_zero q)) (Nat.lt_succ_self _)

set_option maxHeartbeats 4000000 in
set_option maxRecDepth 100000 in
theorem kX7_lay (l : Launch) (D : va_G) (cA : Nat → ClassId) (m : Nat → Nat) (m_nc : Nat) (m_nr : Nat) (m_ke : Int) (m_so : Int) (m_bu : Int) (m_bc : Int) (m_pu : Int) (m_qu : Int) (m_fs : Int) (m_cd : Int) (m_un : Int) (m_hb : Int) (m_pf : Int) (m_ef : Int) (m_kd : Nat → Int) (m_lo : Nat → Int) (m_hi : Nat → Int) (m_co : Nat → Int) (m_pa : Nat → Int) (m_rk : Nat → Int) (m_nu : Nat → Int) (m_ct : Nat → Int) (m_sa : Nat → Int) (m_fr : Nat → Int) (m_cs : Nat → Int) (m_cn : Nat → Int) (m_ck : Nat → Int) (m_ch : Nat → Int) (m_tb : Nat → Int) (m_cr : Nat → Int) (m_fx : Nat → Int) (m_fv : Nat → Int) (m_sn : Nat → Int) (b : Nat) (qnc : m_nc ≤ 5) (qnr : m_nr ≤ 7) (hfx : ∀ j, j < m_nc → 0 ≤ m_fx j ∧ m_fx j ≤ 1) (hfv : ∀ j, j < m_nc → m_fx j ≠ 0 → -20 ≤ m_fv j ∧ m_fv j ≤ 20) (hsn : ∀ j, j < m_nr → -198 ≤ m_sn j ∧ m_sn j ≤ 198) (hsa : ∀ j, -9 ≤ m_sa j ∧ m_sa j ≤ 9) (hrk : ∀ j, 0 ≤ m_rk j ∧ m_rk j ≤ 2) (hlo : ∀ j, -20 ≤ m_lo j ∧ m_lo j ≤ 20) (hhi : ∀ j, m_hi j = -2000000005 ∨ (-20 ≤ m_hi j ∧ m_hi j ≤ 20)) (hb : b < 128) : CT l yX7_lay wsX7_lay ({ frames := 1, cells := 0, slots := 0, locals := 24 }) D cA [.ref (m 0), iv (((b : Nat) : Int))] (wMO cA m (((m_nc : Nat) : Int)) (((m_nr : Nat) : Int)) (m_ke) (m_so) (m_bu) (m_bc) (m_pu) (m_qu) (m_fs) (m_cd) (m_un) (m_hb) (m_pf) (m_ef) ++ wMP cA m (m_kd) (m_lo) (m_hi) (m_co) (m_pa) (m_rk) (m_nu) (m_ct) (m_sa) ++ wME cA m (m_fr) (m_cs) (m_cn) (m_ck) (m_ch) (m_tb) (m_cr) ++ wMX cA m (m_fx) (m_fv) (m_sn)) (fun ov ow => ∃ (fr : Nat → Int) (fs : Nat) (cs : Nat → Int) (cn : Nat → Int) (ck : Nat → Int) (cd : Nat), (layP m_nc m_nr fs cd (bzF m_fx) m_fv m_lo m_hi m_rk m_sn m_sa (fun r => b.testBit r = true) fr cs cn ck) ∧ ov = none ∧ ow = wMO cA m (((m_nc : Nat) : Int)) (((m_nr : Nat) : Int)) (m_ke) (m_so) (m_bu) (m_bc) (m_pu) (m_qu) (((fs : Nat) : Int)) (((cd : Nat) : Int)) (m_un) (m_hb) (m_pf) (m_ef) ++ wMP cA m (m_kd) (m_lo) (m_hi) (m_co) (m_pa) (m_rk) (m_nu) (m_ct) (m_sa) ++ wME cA m (fr) (cs) (cn) (ck) (m_ch) (m_tb) (m_cr) ++ wMX cA m (m_fx) (m_fv) (m_sn)) 0 0 := by
  refine CT.mk (cc := cX7_lay) (maxL := 7) (ret := none) (by decide +kernel) rfl (Nat.le_of_ble_eq_true rfl) ?_
  intro p_ e_ s_ m_ b_ me_ c_ A F hnm hA
  have hV := @IM_P D s_ A
  have iX7 : ∀ w ∈ u_ws RX7 TX7 38, w ∈ wsX7_lay := by decide +kernel
  refine g_lsub ([(0, .ref (m 0)), (1, iv (((b : Nat) : Int)))]) [0, 1] rfl ?_
  refine g_aload_n F 0 rfl rfl dX7_lay_0 ?_
  refine g_callV F (As := []) (rest := []) (wr := wMP cA m (m_kd) (m_lo) (m_hi) (m_co) (m_pa) (m_rk) (m_nu) (m_ct) (m_sa)) (kX7_gatherFree l D cA m m_nc m_nr m_ke m_so m_bu m_bc m_pu m_qu m_fs m_cd m_un m_hb m_pf m_ef m_fr m_cs m_cn m_ck m_ch m_tb m_cr m_fx m_fv m_sn (qnc) (hfx)) (cwV 0 F.2.2.2.2.1 gX7_lay_X7_gatherFree rfl rfl rfl (by decide +kernel) ⟨Nat.le_of_ble_eq_true rfl, Nat.le_of_ble_eq_true rfl⟩) rfl rfl (q0 := 0) rfl [0, 10, 11, 12, 13, 14, 15, 16, 17, 18, 19] [1, 2, 3, 4, 5, 6, 7, 8, 9] rfl rfl (by decide) (by decide) (by decide) rfl rfl (Nat.le_of_ble_eq_true rfl) ⟨Nat.le_of_ble_eq_true rfl, Nat.le_of_ble_eq_true rfl⟩ hA dX7_lay_1 (fun v w hv => ?_)
  obtain ⟨fr1, fs1, hg, hv, hw⟩ := hv
  subst hv
  subst hw
  refine g_wsub (wMO cA m (((m_nc : Nat) : Int)) (((m_nr : Nat) : Int)) (m_ke) (m_so) (m_bu) (m_bc) (m_pu) (m_qu) (((fs1 : Nat) : Int)) (m_cd) (m_un) (m_hb) (m_pf) (m_ef) ++ wMP cA m (m_kd) (m_lo) (m_hi) (m_co) (m_pa) (m_rk) (m_nu) (m_ct) (m_sa) ++ wME cA m (fr1) (m_cs) (m_cn) (m_ck) (m_ch) (m_tb) (m_cr) ++ wMX cA m (m_fx) (m_fv) (m_sn)) [9, 0, 1, 2, 3, 4, 5, 6, 7, 8, 10, 11, 12, 13, 14, 15, 16, 17, 18, 19] (by decide) rfl ?_
  refine g_eq (st' := []) rfl rfl rfl ?_
  have hn5 : fs1 ≤ 5 := by rw [hg.1.1]; exact Nat.le_trans (cntZ_le _ _) qnc
  refine g_aload_n F 0 rfl rfl dX7_lay_4 ?_
  refine g_iconst F dX7_lay_5 ?_
  refine g_put F iX7 tyX7 tyX7_ok nmX7 0 rfl rfl 22 (by decide) (List.mem_of_getElem? (i := 1) rfl) rfl rfl rfl (Nat.le_of_ble_eq_true rfl) (wMO cA m (((m_nc : Nat) : Int)) (((m_nr : Nat) : Int)) (m_ke) (m_so) (m_bu) (m_bc) (m_pu) (m_qu) (((fs1 : Nat) : Int)) (0) (m_un) (m_hb) (m_pf) (m_ef) ++ wMP cA m (m_kd) (m_lo) (m_hi) (m_co) (m_pa) (m_rk) (m_nu) (m_ct) (m_sa) ++ wME cA m (fr1) (m_cs) (m_cn) (m_ck) (m_ch) (m_tb) (m_cr) ++ wMX cA m (m_fx) (m_fv) (m_sn)) rfl dX7_lay_6 ?_
  refine g_iconst F dX7_lay_9 ?_
  refine g_istore_n F ([(2, iv (0)), (0, .ref (m 0)), (1, iv (((b : Nat) : Int)))]) rfl rfl (by decide) dX7_lay_10 ?_
  have lp11 : ∀ (n : Nat) (r : Nat) (K : Nat) (csx : Nat → Int) (cnx : Nat → Int) (ckx : Nat → Int) (hr : r ≤ m_nr) (hK : K ≤ r) (hI : cdQ m_nc fs1 K (bzF m_fx) (frN fr1) m_fv m_lo m_hi m_rk m_sn m_sa (fun q => q < r ∧ b.testBit q = true) 0 csx cnx ckx) (hS : smK fs1 K csx cnx ckx), m_nr - r < n → GW p_ l e_ (headSpec wsX7_lay ({ frames := 1, cells := 0, slots := 0, locals := 24 })).room s_ m_ ([.ref (m 0), iv (((b : Nat) : Int))]).toArray b_ me_ c_ (MQ b_ (Qm D (fun ov ow => ∃ (fr : Nat → Int) (fs : Nat) (cs : Nat → Int) (cn : Nat → Int) (ck : Nat → Int) (cd : Nat), (layP m_nc m_nr fs cd (bzF m_fx) m_fv m_lo m_hi m_rk m_sn m_sa (fun r => b.testBit r = true) fr cs cn ck) ∧ ov = none ∧ ow = wMO cA m (((m_nc : Nat) : Int)) (((m_nr : Nat) : Int)) (m_ke) (m_so) (m_bu) (m_bc) (m_pu) (m_qu) (((fs : Nat) : Int)) (((cd : Nat) : Int)) (m_un) (m_hb) (m_pf) (m_ef) ++ wMP cA m (m_kd) (m_lo) (m_hi) (m_co) (m_pa) (m_rk) (m_nu) (m_ct) (m_sa) ++ wME cA m (fr) (cs) (cn) (ck) (m_ch) (m_tb) (m_cr) ++ wMX cA m (m_fx) (m_fv) (m_sn)) A) ([.ref (m 0), iv (((b : Nat) : Int))]).toArray s_ 0 0 A) (IM D s_ A) 7 0 0 (wMO cA m (((m_nc : Nat) : Int)) (((m_nr : Nat) : Int)) (m_ke) (m_so) (m_bu) (m_bc) (m_pu) (m_qu) (((fs1 : Nat) : Int)) (((K : Nat) : Int)) (m_un) (m_hb) (m_pf) (m_ef) ++ wMP cA m (m_kd) (m_lo) (m_hi) (m_co) (m_pa) (m_rk) (m_nu) (m_ct) (m_sa) ++ wME cA m (fr1) (csx) (cnx) (ckx) (m_ch) (m_tb) (m_cr) ++ wMX cA m (m_fx) (m_fv) (m_sn)) ([(0, .ref (m 0)), (1, iv (((b : Nat) : Int))), (2, iv (((r : Nat) : Int)))]) [] 11 := by
    intro n; induction n with
    | zero => intro r K csx cnx ckx; intros; omega
    | succ n ih11 =>
      intro r K csx cnx ckx hr hK hI hS hmu11
      refine g_iload_n F 2 rfl rfl dX7_lay_11 ?_
      refine g_aload_n F 0 rfl rfl dX7_lay_12 ?_
      refine g_get F hV iX7 0 rfl rfl 6 (by decide) (List.mem_of_getElem? (i := 2) rfl) rfl dX7_lay_13 ?_
      refine g_icmp_ge F (tgt := 156) dX7_lay_16 (by decide) ⟨by omega, by omega⟩ ⟨by omega, by omega⟩ (fun c_1 => ?_) (fun c_1 => ?_)
      · skip
        refine g_iconst F dX7_lay_156 ?_
        refine g_istore_n F ([(2, iv (0)), (0, .ref (m 0)), (1, iv (((b : Nat) : Int)))]) rfl rfl (by decide) dX7_lay_157 ?_
        have lp158 : ∀ (n : Nat) (j : Nat) (K2 : Nat) (csy : Nat → Int) (cny : Nat → Int) (cky : Nat → Int) (hj : j ≤ fs1) (hK2 : K2 ≤ m_nr + 2 * j) (hI2 : cdQ m_nc fs1 K2 (bzF m_fx) (frN fr1) m_fv m_lo m_hi m_rk m_sn m_sa (fun q => q < m_nr ∧ b.testBit q = true) j csy cny cky) (hS2 : smK fs1 K2 csy cny cky), fs1 - j < n → GW p_ l e_ (headSpec wsX7_lay ({ frames := 1, cells := 0, slots := 0, locals := 24 })).room s_ m_ ([.ref (m 0), iv (((b : Nat) : Int))]).toArray b_ me_ c_ (MQ b_ (Qm D (fun ov ow => ∃ (fr : Nat → Int) (fs : Nat) (cs : Nat → Int) (cn : Nat → Int) (ck : Nat → Int) (cd : Nat), (layP m_nc m_nr fs cd (bzF m_fx) m_fv m_lo m_hi m_rk m_sn m_sa (fun r => b.testBit r = true) fr cs cn ck) ∧ ov = none ∧ ow = wMO cA m (((m_nc : Nat) : Int)) (((m_nr : Nat) : Int)) (m_ke) (m_so) (m_bu) (m_bc) (m_pu) (m_qu) (((fs : Nat) : Int)) (((cd : Nat) : Int)) (m_un) (m_hb) (m_pf) (m_ef) ++ wMP cA m (m_kd) (m_lo) (m_hi) (m_co) (m_pa) (m_rk) (m_nu) (m_ct) (m_sa) ++ wME cA m (fr) (cs) (cn) (ck) (m_ch) (m_tb) (m_cr) ++ wMX cA m (m_fx) (m_fv) (m_sn)) A) ([.ref (m 0), iv (((b : Nat) : Int))]).toArray s_ 0 0 A) (IM D s_ A) 7 0 0 (wMO cA m (((m_nc : Nat) : Int)) (((m_nr : Nat) : Int)) (m_ke) (m_so) (m_bu) (m_bc) (m_pu) (m_qu) (((fs1 : Nat) : Int)) (((K2 : Nat) : Int)) (m_un) (m_hb) (m_pf) (m_ef) ++ wMP cA m (m_kd) (m_lo) (m_hi) (m_co) (m_pa) (m_rk) (m_nu) (m_ct) (m_sa) ++ wME cA m (fr1) (csy) (cny) (cky) (m_ch) (m_tb) (m_cr) ++ wMX cA m (m_fx) (m_fv) (m_sn)) ([(0, .ref (m 0)), (1, iv (((b : Nat) : Int))), (2, iv (((j : Nat) : Int)))]) [] 158 := by
          intro n; induction n with
          | zero => intro j K2 csy cny cky; intros; omega
          | succ n ih158 =>
            intro j K2 csy cny cky hj hK2 hI2 hS2 hmu158
            refine g_iload_n F 2 rfl rfl dX7_lay_158 ?_
            refine g_aload_n F 0 rfl rfl dX7_lay_159 ?_
            refine g_get F hV iX7 0 rfl rfl 21 (by decide) (List.mem_of_getElem? (i := 9) rfl) rfl dX7_lay_160 ?_
            refine g_icmp_ge F (tgt := 242) dX7_lay_163 (by decide) ⟨by omega, by omega⟩ ⟨by omega, by omega⟩ (fun c_2 => ?_) (fun c_2 => ?_)
            · skip
              exact g_vret F rfl (by decide) (by decide) ⟨fr1, fs1, csy, cny, cky, K2, ⟨hg.1, hg.2, cdQ_end (by rw [show fs1 = j by omega] at hI2 ⊢; exact hI2), hS2, by omega, hn5⟩, rfl, rfl⟩ dX7_lay_242
            · skip
              have hf9 := hg.2 j (by omega)
              have hl9 := hlo (fr1 j).toNat
              have hh9 := hhi (fr1 j).toNat
              refine g_aload_n F 0 rfl rfl dX7_lay_166 ?_
              refine g_get F hV iX7 0 rfl rfl 23 (by decide) (List.mem_of_getElem? (i := 10) rfl) rfl dX7_lay_167 ?_
              refine g_iconst F dX7_lay_170 ?_
              refine g_aload_n F 0 rfl rfl dX7_lay_171 ?_
              refine g_iconst F dX7_lay_172 ?_
              refine g_aload_n F 0 rfl rfl dX7_lay_173 ?_
              refine g_get F hV iX7 0 rfl rfl 2 (by decide) (List.mem_of_getElem? (i := 12) rfl) rfl dX7_lay_174 ?_
              refine g_aload_n F 0 rfl rfl dX7_lay_177 ?_
              refine g_get F hV iX7 0 rfl rfl 20 (by decide) (List.mem_of_getElem? (i := 11) rfl) rfl dX7_lay_178 ?_
              refine g_iload_n F 2 rfl rfl dX7_lay_181 ?_
              refine g_iald F hV 10 rfl (j) (by omega) (by omega) (by decide) dX7_lay_182 ?_
              have r_3 := hlo ((fr1 j).toNat)
              refine g_iald F hV 2 rfl ((fr1 j).toNat) (by omega) (by omega) (by decide) dX7_lay_183 ?_
              refine g_i2l F ⟨by omega, by omega⟩ dX7_lay_184 ?_
              refine g_callV F (As := [iv (1), jv (m_lo ((fr1 j).toNat))]) (rest := [iv (5), .ref (m 11)]) (wr := wMP cA m (m_kd) (m_lo) (m_hi) (m_co) (m_pa) (m_rk) (m_nu) (m_ct) (m_sa) ++ wMX cA m (m_fx) (m_fv) (m_sn)) (kX7_condition l D cA m m_nc m_nr m_ke m_so m_bu m_bc m_pu m_qu (((fs1 : Nat) : Int)) K2 m_un m_hb m_pf m_ef fr1 csy cny cky m_ch m_tb m_cr 1 (m_lo ((fr1 j).toNat)) (by omega)) (cwV 2 F.2.2.2.2.1 gX7_lay_X7_condition rfl rfl rfl (by decide +kernel) ⟨Nat.le_of_ble_eq_true rfl, Nat.le_of_ble_eq_true rfl⟩) rfl rfl (q0 := 0) rfl [0, 10, 11, 12, 13, 14, 15, 16] [1, 2, 3, 4, 5, 6, 7, 8, 9, 17, 18, 19] rfl rfl (by decide) (by decide) (by decide) rfl rfl (Nat.le_of_ble_eq_true rfl) ⟨Nat.le_of_ble_eq_true rfl, Nat.le_of_ble_eq_true rfl⟩ hA dX7_lay_185 (fun v w hv => ?_)
              obtain ⟨hv, hw⟩ := hv
              subst hv
              subst hw
              refine g_wsub (wMO cA m (((m_nc : Nat) : Int)) (((m_nr : Nat) : Int)) (m_ke) (m_so) (m_bu) (m_bc) (m_pu) (m_qu) (((fs1 : Nat) : Int)) (((K2 + 1 : Nat) : Int)) (m_un) (m_hb) (m_pf) (m_ef) ++ wMP cA m (m_kd) (m_lo) (m_hi) (m_co) (m_pa) (m_rk) (m_nu) (m_ct) (m_sa) ++ wME cA m (fr1) (rowZ csy (K2 * 5) (fun _ => 0) 5) (va_up cny K2 (m_lo ((fr1 j).toNat))) (va_up cky K2 1) (m_ch) (m_tb) (m_cr) ++ wMX cA m (m_fx) (m_fv) (m_sn)) [12, 0, 1, 2, 3, 4, 5, 6, 7, 8, 13, 14, 15, 16, 17, 18, 19, 9, 10, 11] (by decide) rfl ?_
              refine g_eq (st' := [iv (((K2 : Nat) : Int)), iv (5), .ref (m 11)]) rfl rfl rfl ?_
              refine g_imul F dX7_lay_188 ?_
              refine g_iload_n F 2 rfl rfl dX7_lay_189 ?_
              refine g_iadd F dX7_lay_190 ?_
              refine g_iconst F dX7_lay_191 ?_
              refine g_iast F 11 rfl (K2 * 5 + j) (by omega) (by omega) (by decide) (wMO cA m (((m_nc : Nat) : Int)) (((m_nr : Nat) : Int)) (m_ke) (m_so) (m_bu) (m_bc) (m_pu) (m_qu) (((fs1 : Nat) : Int)) (((K2 + 1 : Nat) : Int)) (m_un) (m_hb) (m_pf) (m_ef) ++ wMP cA m (m_kd) (m_lo) (m_hi) (m_co) (m_pa) (m_rk) (m_nu) (m_ct) (m_sa) ++ wME cA m (fr1) (va_up (rowZ csy (K2 * 5) (fun _ => 0) 5) (K2 * 5 + j) 1) (va_up cny K2 (m_lo ((fr1 j).toNat))) (va_up cky K2 1) (m_ch) (m_tb) (m_cr) ++ wMX cA m (m_fx) (m_fv) (m_sn)) rfl dX7_lay_192 ?_
              refine g_aload_n F 0 rfl rfl dX7_lay_193 ?_
              refine g_get F hV iX7 0 rfl rfl 3 (by decide) (List.mem_of_getElem? (i := 13) rfl) rfl dX7_lay_194 ?_
              refine g_aload_n F 0 rfl rfl dX7_lay_197 ?_
              refine g_get F hV iX7 0 rfl rfl 20 (by decide) (List.mem_of_getElem? (i := 11) rfl) rfl dX7_lay_198 ?_
              refine g_iload_n F 2 rfl rfl dX7_lay_201 ?_
              refine g_iald F hV 10 rfl (j) (by omega) (by omega) (by decide) dX7_lay_202 ?_
              have r_4 := hhi ((fr1 j).toNat)
              refine g_iald F hV 3 rfl ((fr1 j).toNat) (by omega) (by omega) (by decide) dX7_lay_203 ?_
              refine g_ldc F (-2000000005) (by decide) (List.mem_of_getElem? (i := 14) rfl) dX7_lay_204 ?_
              refine g_icmp_eq F (tgt := 236) dX7_lay_206 (by decide) ⟨by omega, by omega⟩ ⟨by decide, by decide⟩ (fun c_5 => ?_) (fun c_5 => ?_)
              · skip
                refine g_iinc F 2 rfl ([(2, iv ((((j : Nat) : Int)) + 1)), (0, .ref (m 0)), (1, iv (((b : Nat) : Int)))]) rfl (by decide) dX7_lay_236 ?_
                refine g_goto F (tgt := 158) dX7_lay_239 (by decide) ?_
                refine g_lsub ([(0, .ref (m 0)), (1, iv (((b : Nat) : Int))), (2, iv ((((j : Nat) : Int)) + 1))]) [1, 2, 0] rfl ?_
                exact ih158 (j + 1) (K2 + 1) (va_up (rowZ csy (K2 * 5) (fun _ => 0) 5) (K2 * 5 + j) 1) (va_up cny K2 (m_lo ((fr1 j).toNat))) (va_up cky K2 1) (by omega) (by omega) (cdQ_bnd hI2 (ag_one hn5 (by omega)) (bd_new hn5 (by omega)) (Or.inl ⟨by show m_hi _ = -2000000005; omega, rfl⟩)) (smK_s hS2 (ag_one hn5 (by omega)) (one_sm hn5 (by omega)) (by rw [up_same]; have := hlo (fr1 j).toNat; omega) (by rw [up_same]; decide)) (by omega)
              · skip
                refine g_aload_n F 0 rfl rfl dX7_lay_209 ?_
                refine g_get F hV iX7 0 rfl rfl 23 (by decide) (List.mem_of_getElem? (i := 10) rfl) rfl dX7_lay_210 ?_
                refine g_iconst F dX7_lay_213 ?_
                refine g_aload_n F 0 rfl rfl dX7_lay_214 ?_
                refine g_iconst F dX7_lay_215 ?_
                refine g_aload_n F 0 rfl rfl dX7_lay_216 ?_
                refine g_get F hV iX7 0 rfl rfl 3 (by decide) (List.mem_of_getElem? (i := 13) rfl) rfl dX7_lay_217 ?_
                refine g_aload_n F 0 rfl rfl dX7_lay_220 ?_
                refine g_get F hV iX7 0 rfl rfl 20 (by decide) (List.mem_of_getElem? (i := 11) rfl) rfl dX7_lay_221 ?_
                refine g_iload_n F 2 rfl rfl dX7_lay_224 ?_
                refine g_iald F hV 10 rfl (j) (by omega) (by omega) (by decide) dX7_lay_225 ?_
                have r_6 := hhi ((fr1 j).toNat)
                refine g_iald F hV 3 rfl ((fr1 j).toNat) (by omega) (by omega) (by decide) dX7_lay_226 ?_
                refine g_i2l F ⟨by omega, by omega⟩ dX7_lay_227 ?_
                refine g_callV F (As := [iv (0), jv (m_hi ((fr1 j).toNat))]) (rest := [iv (5), .ref (m 11)]) (wr := wMP cA m (m_kd) (m_lo) (m_hi) (m_co) (m_pa) (m_rk) (m_nu) (m_ct) (m_sa) ++ wMX cA m (m_fx) (m_fv) (m_sn)) (kX7_condition l D cA m m_nc m_nr m_ke m_so m_bu m_bc m_pu m_qu (((fs1 : Nat) : Int)) (K2 + 1) m_un m_hb m_pf m_ef fr1 (va_up (rowZ csy (K2 * 5) (fun _ => 0) 5) (K2 * 5 + j) 1) (va_up cny K2 (m_lo ((fr1 j).toNat))) (va_up cky K2 1) m_ch m_tb m_cr 0 (m_hi ((fr1 j).toNat)) (by omega)) (cwV 2 F.2.2.2.2.1 gX7_lay_X7_condition rfl rfl rfl (by decide +kernel) ⟨Nat.le_of_ble_eq_true rfl, Nat.le_of_ble_eq_true rfl⟩) rfl rfl (q0 := 0) rfl [0, 10, 11, 12, 13, 14, 15, 16] [1, 2, 3, 4, 5, 6, 7, 8, 9, 17, 18, 19] rfl rfl (by decide) (by decide) (by decide) rfl rfl (Nat.le_of_ble_eq_true rfl) ⟨Nat.le_of_ble_eq_true rfl, Nat.le_of_ble_eq_true rfl⟩ hA dX7_lay_228 (fun v w hv => ?_)
                obtain ⟨hv, hw⟩ := hv
                subst hv
                subst hw
                refine g_wsub (wMO cA m (((m_nc : Nat) : Int)) (((m_nr : Nat) : Int)) (m_ke) (m_so) (m_bu) (m_bc) (m_pu) (m_qu) (((fs1 : Nat) : Int)) ((((K2 + 1) + 1 : Nat) : Int)) (m_un) (m_hb) (m_pf) (m_ef) ++ wMP cA m (m_kd) (m_lo) (m_hi) (m_co) (m_pa) (m_rk) (m_nu) (m_ct) (m_sa) ++ wME cA m (fr1) (rowZ (va_up (rowZ csy (K2 * 5) (fun _ => 0) 5) (K2 * 5 + j) 1) ((K2 + 1) * 5) (fun _ => 0) 5) (va_up (va_up cny K2 (m_lo ((fr1 j).toNat))) (K2 + 1) (m_hi ((fr1 j).toNat))) (va_up (va_up cky K2 1) (K2 + 1) 0) (m_ch) (m_tb) (m_cr) ++ wMX cA m (m_fx) (m_fv) (m_sn)) [12, 0, 1, 2, 3, 4, 5, 6, 7, 8, 13, 14, 15, 16, 17, 18, 19, 9, 10, 11] (by decide) rfl ?_
                refine g_eq (st' := [iv ((((K2 + 1) : Nat) : Int)), iv (5), .ref (m 11)]) rfl rfl rfl ?_
                refine g_imul F dX7_lay_231 ?_
                refine g_iload_n F 2 rfl rfl dX7_lay_232 ?_
                refine g_iadd F dX7_lay_233 ?_
                refine g_iconst F dX7_lay_234 ?_
                refine g_iast F 11 rfl ((K2 + 1) * 5 + j) (by omega) (by omega) (by decide) (wMO cA m (((m_nc : Nat) : Int)) (((m_nr : Nat) : Int)) (m_ke) (m_so) (m_bu) (m_bc) (m_pu) (m_qu) (((fs1 : Nat) : Int)) ((((K2 + 1) + 1 : Nat) : Int)) (m_un) (m_hb) (m_pf) (m_ef) ++ wMP cA m (m_kd) (m_lo) (m_hi) (m_co) (m_pa) (m_rk) (m_nu) (m_ct) (m_sa) ++ wME cA m (fr1) (va_up (rowZ (va_up (rowZ csy (K2 * 5) (fun _ => 0) 5) (K2 * 5 + j) 1) ((K2 + 1) * 5) (fun _ => 0) 5) ((K2 + 1) * 5 + j) 1) (va_up (va_up cny K2 (m_lo ((fr1 j).toNat))) (K2 + 1) (m_hi ((fr1 j).toNat))) (va_up (va_up cky K2 1) (K2 + 1) 0) (m_ch) (m_tb) (m_cr) ++ wMX cA m (m_fx) (m_fv) (m_sn)) rfl dX7_lay_235 ?_
                refine g_iinc F 2 rfl ([(2, iv ((((j : Nat) : Int)) + 1)), (0, .ref (m 0)), (1, iv (((b : Nat) : Int)))]) rfl (by decide) dX7_lay_236 ?_
                refine g_goto F (tgt := 158) dX7_lay_239 (by decide) ?_
                refine g_lsub ([(0, .ref (m 0)), (1, iv (((b : Nat) : Int))), (2, iv ((((j : Nat) : Int)) + 1))]) [1, 2, 0] rfl ?_
                exact ih158 (j + 1) (K2 + 2) (va_up (rowZ (va_up (rowZ csy (K2 * 5) (fun _ => 0) 5) (K2 * 5 + j) 1) ((K2 + 1) * 5) (fun _ => 0) 5) ((K2 + 1) * 5 + j) 1) (va_up (va_up cny K2 (m_lo ((fr1 j).toNat))) (K2 + 1) (m_hi ((fr1 j).toNat))) (va_up (va_up cky K2 1) (K2 + 1) 0) (by omega) (by omega) (cdQ_bnd hI2 (ag_tr (Nat.le_succ _) (ag_one hn5 (by omega)) (ag_one hn5 (by omega))) (bnd_ag (K := K2 + 1) (ag_one hn5 (by omega)) (by omega) (bd_new hn5 (by omega))) (Or.inr ⟨by show ¬ m_hi _ = -2000000005; omega, rfl, bd_new hn5 (by omega)⟩)) (smK_s (smK_s hS2 (ag_one hn5 (by omega)) (one_sm hn5 (by omega)) (by rw [up_same]; have := hlo (fr1 j).toNat; omega) (by rw [up_same]; decide)) (ag_one hn5 (by omega)) (one_sm hn5 (by omega)) (by rw [up_same]; have := hhi (fr1 j).toNat; omega) (by rw [up_same]; decide)) (by omega)
        refine g_lsub ([(0, .ref (m 0)), (1, iv (((b : Nat) : Int))), (2, iv (0))]) [1, 2, 0] rfl ?_
        exact lp158 (_ + 1) 0 K csx cnx ckx (by omega) (by omega) (by rw [show r = m_nr by omega] at hI; exact hI) (hS) (Nat.lt_succ_self _)
      · skip
        refine g_iload_n F 1 rfl rfl dX7_lay_19 ?_
        refine g_iload_n F 2 rfl rfl dX7_lay_20 ?_
        refine g_ishr F (a := b) (b := r) rfl rfl (by omega) (by omega) dX7_lay_21 ?_
        refine g_iconst F dX7_lay_22 ?_
        refine g_iand F (a := (b >>> r)) (b := 1) rfl rfl dX7_lay_23 ?_
        have hbr : (b >>> r) &&& 1 ≤ 1 := by rw [bit_and]; split <;> omega
        refine g_iconst F dX7_lay_24 ?_
        refine g_icmp_ne F (tgt := 150) dX7_lay_25 (by decide) ⟨by omega, by omega⟩ ⟨by decide, by decide⟩ (fun c_7 => ?_) (fun c_7 => ?_)
        · skip
          have hbit : ¬ b.testBit r = true := by intro z; rw [bit_and, if_pos z] at c_7; exact c_7 rfl
          refine g_iinc F 2 rfl ([(2, iv ((((r : Nat) : Int)) + 1)), (0, .ref (m 0)), (1, iv (((b : Nat) : Int)))]) rfl (by decide) dX7_lay_150 ?_
          refine g_goto F (tgt := 11) dX7_lay_153 (by decide) ?_
          refine g_lsub ([(0, .ref (m 0)), (1, iv (((b : Nat) : Int))), (2, iv ((((r : Nat) : Int)) + 1))]) [1, 2, 0] rfl ?_
          exact ih11 (r + 1) K csx cnx ckx (by omega) (by omega) (cdQ_rd (fun q => ⟨fun z => ⟨by rcases (show q < r ∨ q = r by omega) with y | y; exact y; (subst y; exact absurd z.2 hbit), z.2⟩, fun z => ⟨by omega, z.2⟩⟩) hI) (hS) (by omega)
        · skip
          have hbit : b.testBit r = true := by rw [bit_and] at c_7; by_cases z : b.testBit r = true; exact z; (rw [if_neg z] at c_7; exact absurd c_7 (by decide))
          refine g_aload_n F 0 rfl rfl dX7_lay_28 ?_
          refine g_get F hV iX7 0 rfl rfl 32 (by decide) (List.mem_of_getElem? (i := 3) rfl) rfl dX7_lay_29 ?_
          refine g_iload_n F 2 rfl rfl dX7_lay_32 ?_
          have r_8 := hsn (r)
          refine g_iald F hV 19 rfl (r) (by omega) (by omega) (by decide) dX7_lay_33 ?_
          refine g_i2l F ⟨by omega, by omega⟩ dX7_lay_34 ?_
          refine g_lstore_n F ([(3, jv (m_sn r)), (0, .ref (m 0)), (1, iv (((b : Nat) : Int))), (2, iv (((r : Nat) : Int)))]) rfl rfl (by decide) dX7_lay_35 ?_
          refine g_iconst F dX7_lay_36 ?_
          refine g_istore F ([(5, iv (0)), (3, jv (m_sn r)), (0, .ref (m 0)), (1, iv (((b : Nat) : Int))), (2, iv (((r : Nat) : Int)))]) rfl (by decide) dX7_lay_37 ?_
          have lp39 : ∀ (n : Nat) (c : Nat) (x : Int) (hc : c ≤ m_nc) (hx : x = m_sn r - fxS c (bzF m_fx) m_fv m_sa r) (hxb : x.natAbs ≤ 198 + 180 * c), m_nc - c < n → GW p_ l e_ (headSpec wsX7_lay ({ frames := 1, cells := 0, slots := 0, locals := 24 })).room s_ m_ ([.ref (m 0), iv (((b : Nat) : Int))]).toArray b_ me_ c_ (MQ b_ (Qm D (fun ov ow => ∃ (fr : Nat → Int) (fs : Nat) (cs : Nat → Int) (cn : Nat → Int) (ck : Nat → Int) (cd : Nat), (layP m_nc m_nr fs cd (bzF m_fx) m_fv m_lo m_hi m_rk m_sn m_sa (fun r => b.testBit r = true) fr cs cn ck) ∧ ov = none ∧ ow = wMO cA m (((m_nc : Nat) : Int)) (((m_nr : Nat) : Int)) (m_ke) (m_so) (m_bu) (m_bc) (m_pu) (m_qu) (((fs : Nat) : Int)) (((cd : Nat) : Int)) (m_un) (m_hb) (m_pf) (m_ef) ++ wMP cA m (m_kd) (m_lo) (m_hi) (m_co) (m_pa) (m_rk) (m_nu) (m_ct) (m_sa) ++ wME cA m (fr) (cs) (cn) (ck) (m_ch) (m_tb) (m_cr) ++ wMX cA m (m_fx) (m_fv) (m_sn)) A) ([.ref (m 0), iv (((b : Nat) : Int))]).toArray s_ 0 0 A) (IM D s_ A) 7 0 0 (wMO cA m (((m_nc : Nat) : Int)) (((m_nr : Nat) : Int)) (m_ke) (m_so) (m_bu) (m_bc) (m_pu) (m_qu) (((fs1 : Nat) : Int)) (((K : Nat) : Int)) (m_un) (m_hb) (m_pf) (m_ef) ++ wMP cA m (m_kd) (m_lo) (m_hi) (m_co) (m_pa) (m_rk) (m_nu) (m_ct) (m_sa) ++ wME cA m (fr1) (csx) (cnx) (ckx) (m_ch) (m_tb) (m_cr) ++ wMX cA m (m_fx) (m_fv) (m_sn)) ([(0, .ref (m 0)), (1, iv (((b : Nat) : Int))), (2, iv (((r : Nat) : Int))), (3, jv (x)), (5, iv (((c : Nat) : Int)))]) [] 39 := by
            intro n; induction n with
            | zero => intro c x; intros; omega
            | succ n ih39 =>
              intro c x hc hx hxb hmu39
              refine g_iload F 4 rfl dX7_lay_39 ?_
              refine g_aload_n F 0 rfl rfl dX7_lay_41 ?_
              refine g_get F hV iX7 0 rfl rfl 0 (by decide) (List.mem_of_getElem? (i := 4) rfl) rfl dX7_lay_42 ?_
              refine g_icmp_ge F (tgt := 91) dX7_lay_45 (by decide) ⟨by omega, by omega⟩ ⟨by omega, by omega⟩ (fun c_9 => ?_) (fun c_9 => ?_)
              · skip
                refine g_aload_n F 0 rfl rfl dX7_lay_91 ?_
                refine g_aload_n F 0 rfl rfl dX7_lay_92 ?_
                refine g_get F hV iX7 0 rfl rfl 7 (by decide) (List.mem_of_getElem? (i := 8) rfl) rfl dX7_lay_93 ?_
                refine g_iload_n F 2 rfl rfl dX7_lay_96 ?_
                have r_10 := hrk (r)
                refine g_iald F hV 6 rfl (r) (by omega) (by omega) (by decide) dX7_lay_97 ?_
                refine g_lload_n F 3 rfl rfl dX7_lay_98 ?_
                refine g_callV F (As := [iv (m_rk r), jv (x)]) (rest := []) (wr := wMP cA m (m_kd) (m_lo) (m_hi) (m_co) (m_pa) (m_rk) (m_nu) (m_ct) (m_sa) ++ wMX cA m (m_fx) (m_fv) (m_sn)) (kX7_condition l D cA m m_nc m_nr m_ke m_so m_bu m_bc m_pu m_qu (((fs1 : Nat) : Int)) K m_un m_hb m_pf m_ef fr1 csx cnx ckx m_ch m_tb m_cr (m_rk r) x (by omega)) (cwV 2 F.2.2.2.2.1 gX7_lay_X7_condition rfl rfl rfl (by decide +kernel) ⟨Nat.le_of_ble_eq_true rfl, Nat.le_of_ble_eq_true rfl⟩) rfl rfl (q0 := 0) rfl [0, 10, 11, 12, 13, 14, 15, 16] [1, 2, 3, 4, 5, 6, 7, 8, 9, 17, 18, 19] rfl rfl (by decide) (by decide) (by decide) rfl rfl (Nat.le_of_ble_eq_true rfl) ⟨Nat.le_of_ble_eq_true rfl, Nat.le_of_ble_eq_true rfl⟩ hA dX7_lay_99 (fun v w hv => ?_)
                obtain ⟨hv, hw⟩ := hv
                subst hv
                subst hw
                refine g_wsub (wMO cA m (((m_nc : Nat) : Int)) (((m_nr : Nat) : Int)) (m_ke) (m_so) (m_bu) (m_bc) (m_pu) (m_qu) (((fs1 : Nat) : Int)) (((K + 1 : Nat) : Int)) (m_un) (m_hb) (m_pf) (m_ef) ++ wMP cA m (m_kd) (m_lo) (m_hi) (m_co) (m_pa) (m_rk) (m_nu) (m_ct) (m_sa) ++ wME cA m (fr1) (rowZ csx (K * 5) (fun _ => 0) 5) (va_up cnx K x) (va_up ckx K (m_rk r)) (m_ch) (m_tb) (m_cr) ++ wMX cA m (m_fx) (m_fv) (m_sn)) [12, 0, 1, 2, 3, 4, 5, 6, 7, 8, 13, 14, 15, 16, 17, 18, 19, 9, 10, 11] (by decide) rfl ?_
                refine g_eq (st' := [iv (((K : Nat) : Int))]) rfl rfl rfl ?_
                refine g_istore F ([(5, iv (((K : Nat) : Int))), (0, .ref (m 0)), (1, iv (((b : Nat) : Int))), (2, iv (((r : Nat) : Int))), (3, jv (x))]) rfl (by decide) dX7_lay_102 ?_
                refine g_iconst F dX7_lay_104 ?_
                refine g_istore F ([(6, iv (0)), (5, iv (((K : Nat) : Int))), (0, .ref (m 0)), (1, iv (((b : Nat) : Int))), (2, iv (((r : Nat) : Int))), (3, jv (x))]) rfl (by decide) dX7_lay_105 ?_
                have lp107 : ∀ (n : Nat) (j : Nat) (cz : Nat → Int) (hj : j ≤ fs1) (hcz : cz = rowZ (rowZ csx (K * 5) (fun _ => 0) 5) (K * 5) (fun j => m_sa (r * 5 + frN fr1 j)) j), fs1 - j < n → GW p_ l e_ (headSpec wsX7_lay ({ frames := 1, cells := 0, slots := 0, locals := 24 })).room s_ m_ ([.ref (m 0), iv (((b : Nat) : Int))]).toArray b_ me_ c_ (MQ b_ (Qm D (fun ov ow => ∃ (fr : Nat → Int) (fs : Nat) (cs : Nat → Int) (cn : Nat → Int) (ck : Nat → Int) (cd : Nat), (layP m_nc m_nr fs cd (bzF m_fx) m_fv m_lo m_hi m_rk m_sn m_sa (fun r => b.testBit r = true) fr cs cn ck) ∧ ov = none ∧ ow = wMO cA m (((m_nc : Nat) : Int)) (((m_nr : Nat) : Int)) (m_ke) (m_so) (m_bu) (m_bc) (m_pu) (m_qu) (((fs : Nat) : Int)) (((cd : Nat) : Int)) (m_un) (m_hb) (m_pf) (m_ef) ++ wMP cA m (m_kd) (m_lo) (m_hi) (m_co) (m_pa) (m_rk) (m_nu) (m_ct) (m_sa) ++ wME cA m (fr) (cs) (cn) (ck) (m_ch) (m_tb) (m_cr) ++ wMX cA m (m_fx) (m_fv) (m_sn)) A) ([.ref (m 0), iv (((b : Nat) : Int))]).toArray s_ 0 0 A) (IM D s_ A) 7 0 0 (wMO cA m (((m_nc : Nat) : Int)) (((m_nr : Nat) : Int)) (m_ke) (m_so) (m_bu) (m_bc) (m_pu) (m_qu) (((fs1 : Nat) : Int)) (((K + 1 : Nat) : Int)) (m_un) (m_hb) (m_pf) (m_ef) ++ wMP cA m (m_kd) (m_lo) (m_hi) (m_co) (m_pa) (m_rk) (m_nu) (m_ct) (m_sa) ++ wME cA m (fr1) (cz) (va_up cnx K x) (va_up ckx K (m_rk r)) (m_ch) (m_tb) (m_cr) ++ wMX cA m (m_fx) (m_fv) (m_sn)) ([(0, .ref (m 0)), (1, iv (((b : Nat) : Int))), (2, iv (((r : Nat) : Int))), (3, jv (x)), (5, iv (((K : Nat) : Int))), (6, iv (((j : Nat) : Int)))]) [] 107 := by
                  intro n; induction n with
                  | zero => intro j cz; intros; omega
                  | succ n ih107 =>
                    intro j cz hj hcz hmu107
                    refine g_iload F 5 rfl dX7_lay_107 ?_
                    refine g_aload_n F 0 rfl rfl dX7_lay_109 ?_
                    refine g_get F hV iX7 0 rfl rfl 21 (by decide) (List.mem_of_getElem? (i := 9) rfl) rfl dX7_lay_110 ?_
                    refine g_icmp_ge F (tgt := 150) dX7_lay_113 (by decide) ⟨by omega, by omega⟩ ⟨by omega, by omega⟩ (fun c_11 => ?_) (fun c_11 => ?_)
                    · skip
                      refine g_iinc F 2 rfl ([(2, iv ((((r : Nat) : Int)) + 1)), (0, .ref (m 0)), (1, iv (((b : Nat) : Int))), (3, jv (x)), (5, iv (((K : Nat) : Int))), (6, iv (((j : Nat) : Int)))]) rfl (by decide) dX7_lay_150 ?_
                      refine g_goto F (tgt := 11) dX7_lay_153 (by decide) ?_
                      refine g_lsub ([(0, .ref (m 0)), (1, iv (((b : Nat) : Int))), (2, iv ((((r : Nat) : Int)) + 1))]) [1, 2, 0] rfl ?_
                      exact ih11 (r + 1) (K + 1) cz (va_up cnx K x) (va_up ckx K (m_rk r)) (by omega) (by omega) (by rw [hcz, show j = fs1 by omega]; exact cdQ_row hI (ag_row hn5 hn5) (cd_new hn5 (by rw [hx, show c = m_nc by omega])) (fun q => ⟨fun z => by rcases (show q < r ∨ q = r by omega) with y | y; exact Or.inl ⟨y, z.2⟩; exact Or.inr y, fun z => by rcases z with y | y; exact ⟨by omega, y.2⟩; (subst y; exact ⟨by omega, hbit⟩)⟩)) (by rw [hcz, show j = fs1 by omega]; exact smK_s hS (ag_row hn5 hn5) (fun q hq => by rw [row_in (by omega) (by omega)]; have := hsa (r * 5 + frN fr1 (K * 5 + q - K * 5)); show (m_sa (r * 5 + frN fr1 (K * 5 + q - K * 5))).natAbs ≤ 9; omega) (by rw [up_same]; omega) (by rw [up_same]; exact hrk r)) (by omega)
                    · skip
                      have hf9 := hg.2 j (by omega)
                      refine g_aload_n F 0 rfl rfl dX7_lay_116 ?_
                      refine g_get F hV iX7 0 rfl rfl 23 (by decide) (List.mem_of_getElem? (i := 10) rfl) rfl dX7_lay_117 ?_
                      refine g_iconst F dX7_lay_120 ?_
                      refine g_iload F 4 rfl dX7_lay_121 ?_
                      refine g_imul F dX7_lay_123 ?_
                      refine g_iload F 5 rfl dX7_lay_124 ?_
                      refine g_iadd F dX7_lay_126 ?_
                      refine g_aload_n F 0 rfl rfl dX7_lay_127 ?_
                      refine g_get F hV iX7 0 rfl rfl 10 (by decide) (List.mem_of_getElem? (i := 6) rfl) rfl dX7_lay_128 ?_
                      refine g_iconst F dX7_lay_131 ?_
                      refine g_iload_n F 2 rfl rfl dX7_lay_132 ?_
                      refine g_imul F dX7_lay_133 ?_
                      refine g_aload_n F 0 rfl rfl dX7_lay_134 ?_
                      refine g_get F hV iX7 0 rfl rfl 20 (by decide) (List.mem_of_getElem? (i := 11) rfl) rfl dX7_lay_135 ?_
                      refine g_iload F 5 rfl dX7_lay_138 ?_
                      refine g_iald F hV 10 rfl (j) (by omega) (by omega) (by decide) dX7_lay_140 ?_
                      refine g_iadd F dX7_lay_141 ?_
                      have r_12 := hsa (r * 5 + (fr1 j).toNat)
                      refine g_iald F hV 9 rfl (r * 5 + (fr1 j).toNat) (by omega) (by omega) (by decide) dX7_lay_142 ?_
                      refine g_iast F 11 rfl (K * 5 + j) (by omega) (by omega) (by decide) (wMO cA m (((m_nc : Nat) : Int)) (((m_nr : Nat) : Int)) (m_ke) (m_so) (m_bu) (m_bc) (m_pu) (m_qu) (((fs1 : Nat) : Int)) (((K + 1 : Nat) : Int)) (m_un) (m_hb) (m_pf) (m_ef) ++ wMP cA m (m_kd) (m_lo) (m_hi) (m_co) (m_pa) (m_rk) (m_nu) (m_ct) (m_sa) ++ wME cA m (fr1) (va_up cz (K * 5 + j) (m_sa (r * 5 + (fr1 j).toNat))) (va_up cnx K x) (va_up ckx K (m_rk r)) (m_ch) (m_tb) (m_cr) ++ wMX cA m (m_fx) (m_fv) (m_sn)) rfl dX7_lay_143 ?_
                      refine g_iinc F 5 rfl ([(6, iv ((((j : Nat) : Int)) + 1)), (0, .ref (m 0)), (1, iv (((b : Nat) : Int))), (2, iv (((r : Nat) : Int))), (3, jv (x)), (5, iv (((K : Nat) : Int)))]) rfl (by decide) dX7_lay_144 ?_
                      refine g_goto F (tgt := 107) dX7_lay_147 (by decide) ?_
                      refine g_lsub ([(0, .ref (m 0)), (1, iv (((b : Nat) : Int))), (2, iv (((r : Nat) : Int))), (3, jv (x)), (5, iv (((K : Nat) : Int))), (6, iv ((((j : Nat) : Int)) + 1))]) [1, 2, 3, 4, 5, 0] rfl ?_
                      exact ih107 (j + 1) (va_up cz (K * 5 + j) (m_sa (r * 5 + (fr1 j).toNat))) (by omega) (by rw [hcz]; exact row_up rfl) (by omega)
                refine g_lsub ([(0, .ref (m 0)), (1, iv (((b : Nat) : Int))), (2, iv (((r : Nat) : Int))), (3, jv (x)), (5, iv (((K : Nat) : Int))), (6, iv (0))]) [2, 3, 4, 5, 1, 0] rfl ?_
                exact lp107 (_ + 1) 0 (rowZ csx (K * 5) (fun _ => 0) 5) (by omega) (row_0 _ _ _).symm (Nat.lt_succ_self _)
              · skip
                refine g_lload_n F 3 rfl rfl dX7_lay_48 ?_
                refine g_aload_n F 0 rfl rfl dX7_lay_49 ?_
                refine g_get F hV iX7 0 rfl rfl 30 (by decide) (List.mem_of_getElem? (i := 5) rfl) rfl dX7_lay_50 ?_
                refine g_iload F 4 rfl dX7_lay_53 ?_
                have r_13 := hfx (c)
                refine g_zald F hV 17 rfl (c) (by omega) (by omega) (by decide) dX7_lay_55 ?_
                refine g_if_eq F (tgt := 82) dX7_lay_56 (by decide) ⟨by omega, by omega⟩ (fun c_14 => ?_) (fun c_14 => ?_)
                · skip
                  refine g_lconst F (z := 0) dX7_lay_82 (by decide) ?_
                  refine g_lsub2 F dX7_lay_83 ?_
                  refine g_lstore_n F ([(3, jv (x - 0)), (0, .ref (m 0)), (1, iv (((b : Nat) : Int))), (2, iv (((r : Nat) : Int))), (5, iv (((c : Nat) : Int)))]) rfl rfl (by decide) dX7_lay_84 ?_
                  refine g_iinc F 4 rfl ([(5, iv ((((c : Nat) : Int)) + 1)), (3, jv (x - 0)), (0, .ref (m 0)), (1, iv (((b : Nat) : Int))), (2, iv (((r : Nat) : Int)))]) rfl (by decide) dX7_lay_85 ?_
                  refine g_goto F (tgt := 39) dX7_lay_88 (by decide) ?_
                  refine g_lsub ([(0, .ref (m 0)), (1, iv (((b : Nat) : Int))), (2, iv (((r : Nat) : Int))), (3, jv (x - 0)), (5, iv ((((c : Nat) : Int)) + 1))]) [2, 3, 4, 1, 0] rfl ?_
                  exact ih39 (c + 1) (x - 0) (by omega) (by rw [fx_sum_s, hx]; first | (rw [if_pos (show m_fx c ≠ 0 by omega)]; omega) | (rw [if_neg (show ¬ m_fx c ≠ 0 by omega)]; omega)) (by first | (have h9 := mul_nat (x := m_sa (r * 5 + c)) (y := m_fv c) (a := 9) (b := 20) (by have := hsa (r * 5 + c); omega) (by have := hfv c (by omega) (by omega); omega); omega) | omega) (by omega)
                · skip
                  refine g_aload_n F 0 rfl rfl dX7_lay_59 ?_
                  refine g_get F hV iX7 0 rfl rfl 10 (by decide) (List.mem_of_getElem? (i := 6) rfl) rfl dX7_lay_60 ?_
                  refine g_iconst F dX7_lay_63 ?_
                  refine g_iload_n F 2 rfl rfl dX7_lay_64 ?_
                  refine g_imul F dX7_lay_65 ?_
                  refine g_iload F 4 rfl dX7_lay_66 ?_
                  refine g_iadd F dX7_lay_68 ?_
                  have r_15 := hsa (r * 5 + c)
                  refine g_iald F hV 9 rfl (r * 5 + c) (by omega) (by omega) (by decide) dX7_lay_69 ?_
                  refine g_i2l F ⟨by omega, by omega⟩ dX7_lay_70 ?_
                  refine g_aload_n F 0 rfl rfl dX7_lay_71 ?_
                  refine g_get F hV iX7 0 rfl rfl 31 (by decide) (List.mem_of_getElem? (i := 7) rfl) rfl dX7_lay_72 ?_
                  refine g_iload F 4 rfl dX7_lay_75 ?_
                  refine g_lald F hV 18 rfl (c) (by omega) (by omega) (by decide) dX7_lay_77 ?_
                  refine g_lmul F dX7_lay_78 ?_
                  refine g_goto F (tgt := 83) dX7_lay_79 (by decide) ?_
                  refine g_lsub2 F dX7_lay_83 ?_
                  refine g_lstore_n F ([(3, jv (x - ((m_sa (r * 5 + c)) * (m_fv c)))), (0, .ref (m 0)), (1, iv (((b : Nat) : Int))), (2, iv (((r : Nat) : Int))), (5, iv (((c : Nat) : Int)))]) rfl rfl (by decide) dX7_lay_84 ?_
                  refine g_iinc F 4 rfl ([(5, iv ((((c : Nat) : Int)) + 1)), (3, jv (x - ((m_sa (r * 5 + c)) * (m_fv c)))), (0, .ref (m 0)), (1, iv (((b : Nat) : Int))), (2, iv (((r : Nat) : Int)))]) rfl (by decide) dX7_lay_85 ?_
                  refine g_goto F (tgt := 39) dX7_lay_88 (by decide) ?_
                  refine g_lsub ([(0, .ref (m 0)), (1, iv (((b : Nat) : Int))), (2, iv (((r : Nat) : Int))), (3, jv (x - ((m_sa (r * 5 + c)) * (m_fv c)))), (5, iv ((((c : Nat) : Int)) + 1))]) [2, 3, 4, 1, 0] rfl ?_
                  exact ih39 (c + 1) (x - ((m_sa (r * 5 + c)) * (m_fv c))) (by omega) (by rw [fx_sum_s, hx]; first | (rw [if_pos (show m_fx c ≠ 0 by omega)]; omega) | (rw [if_neg (show ¬ m_fx c ≠ 0 by omega)]; omega)) (by first | (have h9 := mul_nat (x := m_sa (r * 5 + c)) (y := m_fv c) (a := 9) (b := 20) (by have := hsa (r * 5 + c); omega) (by have := hfv c (by omega) (by omega); omega); omega) | omega) (by omega)
          refine g_lsub ([(0, .ref (m 0)), (1, iv (((b : Nat) : Int))), (2, iv (((r : Nat) : Int))), (3, jv (m_sn r)), (5, iv (0))]) [2, 3, 4, 1, 0] rfl ?_
          exact lp39 (_ + 1) 0 (m_sn r) (by omega) (Int.sub_zero _).symm (by have := hsn r (by omega); omega) (Nat.lt_succ_self _)
  refine g_lsub ([(0, .ref (m 0)), (1, iv (((b : Nat) : Int))), (2, iv (0))]) [1, 2, 0] rfl ?_
  exact lp11 (_ + 1) 0 0 m_cs m_cn m_ck (by omega) (by omega) (cdQ_0 (fun q hq => absurd hq.1 (Nat.not_lt_zero q))) (smK_0) (Nat.lt_succ_self _)
