def dnN (v : Int) (u : Nat) : Nat := u / Int.gcd v u
def lcN (v : Nat → Int) (u : Nat) : Nat → Nat
  | 0 => 1
  | c + 1 => Nat.lcm (lcN v u c) (dnN (v c) u)
theorem dn_dvd {v : Int} {u : Nat} : dnN v u ∣ u := Nat.div_dvd_of_dvd (Int.ofNat_dvd.mp (Int.gcd_dvd_right _ _))
theorem dn_mul {v : Int} {u : Nat} : dnN v u * Int.gcd v u = u := Nat.div_mul_cancel (Int.ofNat_dvd.mp (Int.gcd_dvd_right _ _))
theorem lc_dvd {v : Nat → Int} {u : Nat} : ∀ n, lcN v u n ∣ u
  | 0 => Nat.one_dvd _
  | n + 1 => Nat.lcm_dvd (lc_dvd n) dn_dvd
theorem dn_lc {v : Nat → Int} {u : Nat} : ∀ {n c : Nat}, c < n → dnN (v c) u ∣ lcN v u n
  | 0, c, h => absurd h (Nat.not_lt_zero c)
  | n + 1, c, h => by
    rcases (show c < n ∨ c = n by omega) with z | z
    · exact Nat.dvd_trans (dn_lc z) (Nat.dvd_lcm_left _ _)
    · subst z; exact Nat.dvd_lcm_right _ _
theorem gb_dvd {v : Nat → Int} {u : Int} : ∀ {n c : Nat}, c < n → ((gbZ v u n : Nat) : Int) ∣ v c
  | 0, c, h => absurd h (Nat.not_lt_zero c)
  | n + 1, c, h => by
    show ((Int.gcd (gbZ v u n : Int) (v n) : Nat) : Int) ∣ v c
    rcases (show c < n ∨ c = n by omega) with z | z
    · exact Int.dvd_trans (Int.gcd_dvd_left _ _) (gb_dvd z)
    · subst z; exact Int.gcd_dvd_right _ _
theorem gb_dvdu {v : Nat → Int} {u : Int} : ∀ n, ((gbZ v u n : Nat) : Int) ∣ u
  | 0 => by show ((u.natAbs : Nat) : Int) ∣ u; exact Int.natAbs_dvd.mpr (Int.dvd_refl _)
  | n + 1 => Int.dvd_trans (Int.gcd_dvd_left _ _) (gb_dvdu n)
theorem gb_great {v : Nat → Int} {u : Int} {t : Nat} (hu : (t : Int) ∣ u) : ∀ {n : Nat}, (∀ c, c < n → (t : Int) ∣ v c) → t ∣ gbZ v u n
  | 0, _ => by show t ∣ u.natAbs; exact Int.ofNat_dvd_left.mp hu
  | n + 1, h => by
    show t ∣ Int.gcd (gbZ v u n : Int) (v n)
    exact Int.dvd_gcd (Int.ofNat_dvd.mpr (gb_great hu (fun c hc => h c (by omega)))) (h n (by omega))
/-- the least number below them all -/
theorem lc_gb {v : Nat → Int} {u : Nat} (hu : 0 < u) (n : Nat) : lcN v u n = u / gbZ v (u : Int) n := by
  have hG : gbZ v (u : Int) n ∣ u := Int.ofNat_dvd.mp (gb_dvdu n)
  have hGp : 0 < gbZ v (u : Int) n := Nat.pos_of_dvd_of_pos hG hu
  obtain ⟨t, ht⟩ := lc_dvd (v := v) (u := u) n
  have hL : 0 < lcN v u n := Nat.pos_of_dvd_of_pos ⟨t, ht⟩ hu
  have htp : 0 < t := Nat.pos_of_ne_zero (fun z => by rw [z, Nat.mul_zero] at ht; omega)
  refine Nat.dvd_antisymm ?_ ?_
  · -- every denominator divides
    have key : ∀ m, m ≤ n → lcN v u m ∣ u / gbZ v (u : Int) n := by
      intro m
      induction m with
      | zero => intro _; exact Nat.one_dvd _
      | succ m ih =>
        intro hm
        refine Nat.lcm_dvd (ih (by omega)) ?_
        have h1 : gbZ v (u : Int) n ∣ Int.gcd (v m) u := Int.dvd_gcd (gb_dvd (by omega)) (gb_dvdu n)
        obtain ⟨h, hh⟩ := h1
        refine ⟨h, ?_⟩
        have h2 := dn_mul (v := v m) (u := u)
        rw [hh] at h2
        refine Nat.div_eq_of_eq_mul_left hGp ?_
        have h3 : dnN (v m) u * h * gbZ v (u : Int) n = u := by rw [Nat.mul_assoc, Nat.mul_comm h]; exact h2
        exact h3.symm
    exact key n (Nat.le_refl n)
  · have ht1 : (t : Int) ∣ (u : Int) := Int.ofNat_dvd.mpr ⟨lcN v u n, by rw [Nat.mul_comm]; exact ht⟩
    have ht2 : ∀ c, c < n → (t : Int) ∣ v c := by
      intro c hc
      obtain ⟨k, hk⟩ := dn_lc (v := v) (u := u) hc
      have h1 := dn_mul (v := v c) (u := u)
      have h3 : dnN (v c) u * Int.gcd (v c) u = dnN (v c) u * (k * t) := by rw [h1, ← Nat.mul_assoc, ← hk]; exact ht
      have hd : 0 < dnN (v c) u := Nat.pos_of_dvd_of_pos dn_dvd hu
      have h4 : Int.gcd (v c) u = k * t := Nat.eq_of_mul_eq_mul_left hd h3
      have h5 : t ∣ Int.gcd (v c) u := ⟨k, by rw [h4, Nat.mul_comm]⟩
      exact Int.dvd_trans (Int.ofNat_dvd.mpr h5) (Int.gcd_dvd_left _ _)
    obtain ⟨s, hs⟩ := gb_great ht1 ht2
    refine ⟨s, ?_⟩
    have h6 : u / gbZ v (u : Int) n * gbZ v (u : Int) n = u := Nat.div_mul_cancel hG
    rw [hs] at h6 ⊢
    have h8 : t * (u / (t * s) * s) = u := by rw [Nat.mul_left_comm]; exact h6
    have h7 : t * (u / (t * s) * s) = t * lcN v u n := by rw [h8, Nat.mul_comm t]; exact ht
    exact (Nat.eq_of_mul_eq_mul_left htp h7).symm
theorem low_1 {v : Int} {u : Nat} (hu : 0 < u) : lowZ v (u : Int) 1 = ((dnN v u : Nat) : Int) := by
  have hg : 0 < Int.gcd v u := Nat.pos_of_dvd_of_pos (Int.ofNat_dvd.mp (Int.gcd_dvd_right v u)) hu
  unfold lowZ
  rw [if_neg (by omega), if_neg (by decide)]
  rfl
theorem low_0 {v : Int} {u : Nat} (hu : 0 < u) : lowZ v (u : Int) 0 = Int.tdiv v (Int.gcd v u : Nat) := by
  have hg : 0 < Int.gcd v u := Nat.pos_of_dvd_of_pos (Int.ofNat_dvd.mp (Int.gcd_dvd_right v u)) hu
  unfold lowZ
  rw [if_neg (by omega), if_pos rfl]
theorem lc_step {L d : Nat} : Int.tdiv (L : Int) ((Int.gcd (L : Int) (d : Int) : Nat) : Int) * (d : Int) = ((Nat.lcm L d : Nat) : Int) := by
  have e1 : Int.gcd (L : Int) (d : Int) = Nat.gcd L d := rfl
  rw [e1]
  show ((L / Nat.gcd L d : Nat) : Int) * (d : Int) = _
  rw [← Int.natCast_mul]
  congr 1
  unfold Nat.lcm
  exact Nat.div_mul_right_comm (Nat.gcd_dvd_left L d) d
theorem pl_eq {v : Nat → Int} {u L c : Nat} (hu : 0 < u) (hL : L = lcN v u 5) (hc : c < 5) : lowZ (v c) (u : Int) 0 * Int.tdiv (L : Int) ((dnN (v c) u : Nat) : Int) = Int.tdiv (v c) ((gbZ v (u : Int) 5 : Nat) : Int) := by
  rw [low_0 hu]
  have hG : gbZ v (u : Int) 5 ∣ u := Int.ofNat_dvd.mp (gb_dvdu 5)
  have hGp : 0 < gbZ v (u : Int) 5 := Nat.pos_of_dvd_of_pos hG hu
  obtain ⟨h, hh⟩ : gbZ v (u : Int) 5 ∣ Int.gcd (v c) u := Int.dvd_gcd (gb_dvd hc) (gb_dvdu 5)
  have hgp : 0 < Int.gcd (v c) u := Nat.pos_of_dvd_of_pos (Int.ofNat_dvd.mp (Int.gcd_dvd_right (v c) u)) hu
  obtain ⟨x, hx⟩ : ((Int.gcd (v c) u : Nat) : Int) ∣ v c := Int.gcd_dvd_left _ _
  have hdp : 0 < dnN (v c) u := Nat.pos_of_dvd_of_pos dn_dvd hu
  have e1 : Int.tdiv (v c) ((Int.gcd (v c) u : Nat) : Int) = x := by
    have h1 : Int.tdiv (((Int.gcd (v c) u : Nat) : Int) * x) ((Int.gcd (v c) u : Nat) : Int) = x := Int.mul_tdiv_cancel_left x (by omega)
    rw [← hx] at h1; exact h1
  have e2 : L = dnN (v c) u * h := by
    rw [hL, lc_gb hu 5]
    refine Nat.div_eq_of_eq_mul_left hGp ?_
    have h2 := dn_mul (v := v c) (u := u)
    rw [hh] at h2
    rw [Nat.mul_assoc, Nat.mul_comm h]; exact h2.symm
  have e3 : Int.tdiv (L : Int) ((dnN (v c) u : Nat) : Int) = (h : Int) := by
    rw [e2, Int.natCast_mul]
    exact Int.mul_tdiv_cancel_left _ (by omega)
  have e4 : Int.tdiv (v c) ((gbZ v (u : Int) 5 : Nat) : Int) = (h : Int) * x := by
    have h3 : v c = ((gbZ v (u : Int) 5 : Nat) : Int) * ((h : Int) * x) := by
      rw [← Int.mul_assoc, ← Int.natCast_mul, ← hh]; exact hx
    have h4 : Int.tdiv (((gbZ v (u : Int) 5 : Nat) : Int) * ((h : Int) * x)) ((gbZ v (u : Int) 5 : Nat) : Int) = (h : Int) * x := Int.mul_tdiv_cancel_left _ (by omega)
    rw [← h3] at h4; exact h4
  rw [e1, e3, e4, Int.mul_comm]
theorem lc_end {v : Nat → Int} {u L : Nat} (hu : 0 < u) (hL : L = lcN v u 5) : (L : Int) = Int.tdiv (u : Int) ((gbZ v (u : Int) 5 : Nat) : Int) := by
  rw [hL, lc_gb hu 5]
  rfl
set_option maxHeartbeats 4000000 in
set_option maxRecDepth 100000 in
theorem kX7_take (l : Launch) (D : va_G) (cA : Nat → ClassId) (m : Nat → Nat) (m_nc : Nat) (m_nr : Nat) (m_ke : Int) (m_so : Int) (m_bu : Int) (m_bc : Int) (m_pu : Int) (m_qu : Int) (m_fs : Int) (m_cd : Int) (m_un : Int) (m_hb : Int) (m_pf : Int) (m_ef : Int) (m_be : Nat → Int) (m_tr : Nat → Int) (m_wy : Nat → Int) (m_pl : Nat → Int) (m_pr : Nat → Int) (hbu : 0 < m_bu ∧ m_bu ≤ 8000000) (hbe : ∀ j, -200000000000 ≤ m_be j ∧ m_be j ≤ 200000000000) (hke : -1 ≤ m_ke ∧ m_ke ≤ 2) : CT l yX7_take wsX7_take ({ frames := 2, cells := 0, slots := 0, locals := 55 }) D cA [.ref (m 0)] (wMO cA m (((m_nc : Nat) : Int)) (((m_nr : Nat) : Int)) (m_ke) (m_so) (m_bu) (m_bc) (m_pu) (m_qu) (m_fs) (m_cd) (m_un) (m_hb) (m_pf) (m_ef) ++ wMB cA m (m_be) (m_tr) (m_wy) ++ wMH cA m (m_pl) (m_pr)) (fun ov ow => ov = some (jv (if m_ke = 0 then Int.tdiv m_bu (gbZ m_be m_bu 5 : Nat) else -2000000002)) ∧ ow = if m_ke = 0 then wMO cA m (((m_nc : Nat) : Int)) (((m_nr : Nat) : Int)) (m_ke) (m_so) (m_bu) (m_bc) (Int.tdiv m_bu (gbZ m_be m_bu 5 : Nat)) (m_qu) (m_fs) (m_cd) (m_un) (m_hb) (m_pf) (m_ef) ++ wMB cA m (m_be) (m_tr) (m_wy) ++ wMH cA m (grV m_be m_bu) (m_pr) else wMO cA m (((m_nc : Nat) : Int)) (((m_nr : Nat) : Int)) (m_ke) (m_so) (m_bu) (m_bc) (m_pu) (m_qu) (m_fs) (m_cd) (m_un) (m_hb) (m_pf) (m_ef) ++ wMB cA m (m_be) (m_tr) (m_wy) ++ wMH cA m (m_pl) (m_pr)) 0 0 := by
  refine CT.mk (cc := cX7_take) (maxL := 6) (ret := (some .long)) (by decide +kernel) rfl (Nat.le_of_ble_eq_true rfl) ?_
  intro p_ e_ s_ m_ b_ me_ c_ A F hnm hA
  have hV := @IM_P D s_ A
  have iX7 : ∀ w ∈ u_ws RX7 TX7 38, w ∈ wsX7_take := by decide +kernel
  obtain ⟨u, hu⟩ : ∃ u : Nat, m_bu = (u : Int) := ⟨m_bu.toNat, by omega⟩
  have hup : 0 < u := by omega
  refine g_lsub ([(0, .ref (m 0))]) [0] rfl ?_
  refine g_aload_n F 0 rfl rfl dX7_take_0 ?_
  refine g_get F hV iX7 0 rfl rfl 11 (by decide) (List.mem_of_getElem? (i := 1) rfl) rfl dX7_take_1 ?_
  refine g_if_eq F (tgt := 11) dX7_take_4 (by decide) ⟨by omega, by omega⟩ (fun c_1 => ?_) (fun c_1 => ?_)
  · skip
    refine g_lconst F (z := 1) dX7_take_11 (by decide) ?_
    refine g_lstore_n F ([(1, jv (1)), (0, .ref (m 0))]) rfl rfl (by decide) dX7_take_12 ?_
    refine g_iconst F dX7_take_13 ?_
    refine g_istore_n F ([(3, iv (0)), (1, jv (1)), (0, .ref (m 0))]) rfl rfl (by decide) dX7_take_14 ?_
    have lp15 : ∀ (n : Nat) (c : Nat) (L : Nat) (hc : c ≤ 5) (hL : L = lcN m_be u c), 5 - c < n → GW p_ l e_ (headSpec wsX7_take ({ frames := 2, cells := 0, slots := 0, locals := 55 })).room s_ m_ ([.ref (m 0)]).toArray b_ me_ c_ (MQ b_ (Qm D (fun ov ow => ov = some (jv (if m_ke = 0 then Int.tdiv m_bu (gbZ m_be m_bu 5 : Nat) else -2000000002)) ∧ ow = if m_ke = 0 then wMO cA m (((m_nc : Nat) : Int)) (((m_nr : Nat) : Int)) (m_ke) (m_so) (m_bu) (m_bc) (Int.tdiv m_bu (gbZ m_be m_bu 5 : Nat)) (m_qu) (m_fs) (m_cd) (m_un) (m_hb) (m_pf) (m_ef) ++ wMB cA m (m_be) (m_tr) (m_wy) ++ wMH cA m (grV m_be m_bu) (m_pr) else wMO cA m (((m_nc : Nat) : Int)) (((m_nr : Nat) : Int)) (m_ke) (m_so) (m_bu) (m_bc) (m_pu) (m_qu) (m_fs) (m_cd) (m_un) (m_hb) (m_pf) (m_ef) ++ wMB cA m (m_be) (m_tr) (m_wy) ++ wMH cA m (m_pl) (m_pr)) A) ([.ref (m 0)]).toArray s_ 0 0 A) (IM D s_ A) 6 0 0 (wMO cA m (((m_nc : Nat) : Int)) (((m_nr : Nat) : Int)) (m_ke) (m_so) (m_bu) (m_bc) (m_pu) (m_qu) (m_fs) (m_cd) (m_un) (m_hb) (m_pf) (m_ef) ++ wMB cA m (m_be) (m_tr) (m_wy) ++ wMH cA m (m_pl) (m_pr)) ([(0, .ref (m 0)), (1, jv (((L : Nat) : Int))), (3, iv (((c : Nat) : Int)))]) [] 15 := by
      intro n; induction n with
      | zero => intro c L; intros; omega
      | succ n ih15 =>
        intro c L hc hL hmu15
        have hLd : L ∣ u := by rw [hL]; exact lc_dvd c
        have hLp := Nat.pos_of_dvd_of_pos hLd hup
        have hLu := Nat.le_of_dvd hup hLd
        refine g_iload_n F 2 rfl rfl dX7_take_15 ?_
        refine g_iconst F dX7_take_16 ?_
        refine g_icmp_ge F (tgt := 54) dX7_take_17 (by decide) ⟨by omega, by omega⟩ ⟨by decide, by decide⟩ (fun c_2 => ?_) (fun c_2 => ?_)
        · skip
          have hLe : L = lcN m_be u 5 := by rw [hL, show c = 5 by omega]
          refine g_iconst F dX7_take_54 ?_
          refine g_istore_n F ([(3, iv (0)), (0, .ref (m 0)), (1, jv (((L : Nat) : Int)))]) rfl rfl (by decide) dX7_take_55 ?_
          have lp56 : ∀ (n : Nat) (k : Nat) (px : Nat → Int) (hk : k ≤ 5) (hpx : px = mixZ (grV m_be m_bu) m_pl k), 5 - k < n → GW p_ l e_ (headSpec wsX7_take ({ frames := 2, cells := 0, slots := 0, locals := 55 })).room s_ m_ ([.ref (m 0)]).toArray b_ me_ c_ (MQ b_ (Qm D (fun ov ow => ov = some (jv (if m_ke = 0 then Int.tdiv m_bu (gbZ m_be m_bu 5 : Nat) else -2000000002)) ∧ ow = if m_ke = 0 then wMO cA m (((m_nc : Nat) : Int)) (((m_nr : Nat) : Int)) (m_ke) (m_so) (m_bu) (m_bc) (Int.tdiv m_bu (gbZ m_be m_bu 5 : Nat)) (m_qu) (m_fs) (m_cd) (m_un) (m_hb) (m_pf) (m_ef) ++ wMB cA m (m_be) (m_tr) (m_wy) ++ wMH cA m (grV m_be m_bu) (m_pr) else wMO cA m (((m_nc : Nat) : Int)) (((m_nr : Nat) : Int)) (m_ke) (m_so) (m_bu) (m_bc) (m_pu) (m_qu) (m_fs) (m_cd) (m_un) (m_hb) (m_pf) (m_ef) ++ wMB cA m (m_be) (m_tr) (m_wy) ++ wMH cA m (m_pl) (m_pr)) A) ([.ref (m 0)]).toArray s_ 0 0 A) (IM D s_ A) 6 0 0 (wMO cA m (((m_nc : Nat) : Int)) (((m_nr : Nat) : Int)) (m_ke) (m_so) (m_bu) (m_bc) (m_pu) (m_qu) (m_fs) (m_cd) (m_un) (m_hb) (m_pf) (m_ef) ++ wMB cA m (m_be) (m_tr) (m_wy) ++ wMH cA m (px) (m_pr)) ([(0, .ref (m 0)), (1, jv (((L : Nat) : Int))), (3, iv (((k : Nat) : Int)))]) [] 56 := by
            intro n; induction n with
            | zero => intro k px; intros; omega
            | succ n ih56 =>
              intro k px hk hpx hmu56
              refine g_iload_n F 2 rfl rfl dX7_take_56 ?_
              refine g_iconst F dX7_take_57 ?_
              refine g_icmp_ge F (tgt := 104) dX7_take_58 (by decide) ⟨by omega, by omega⟩ ⟨by decide, by decide⟩ (fun c_3 => ?_) (fun c_3 => ?_)
              · skip
                refine g_acongJ 4 (grV m_be m_bu) rfl (fun j hj => by rw [hpx]; exact mix_lt (by omega)) (wMO cA m (((m_nc : Nat) : Int)) (((m_nr : Nat) : Int)) (m_ke) (m_so) (m_bu) (m_bc) (m_pu) (m_qu) (m_fs) (m_cd) (m_un) (m_hb) (m_pf) (m_ef) ++ wMB cA m (m_be) (m_tr) (m_wy) ++ wMH cA m (grV m_be m_bu) (m_pr)) rfl ?_
                refine g_aload_n F 0 rfl rfl dX7_take_104 ?_
                refine g_lload_n F 1 rfl rfl dX7_take_105 ?_
                refine g_put F iX7 tyX7 tyX7_ok nmX7 0 rfl rfl 17 (by decide) (List.mem_of_getElem? (i := 6) rfl) rfl rfl rfl (Nat.le_of_ble_eq_true rfl) (wMO cA m (((m_nc : Nat) : Int)) (((m_nr : Nat) : Int)) (m_ke) (m_so) (m_bu) (m_bc) (((L : Nat) : Int)) (m_qu) (m_fs) (m_cd) (m_un) (m_hb) (m_pf) (m_ef) ++ wMB cA m (m_be) (m_tr) (m_wy) ++ wMH cA m (grV m_be m_bu) (m_pr)) rfl dX7_take_106 ?_
                refine g_lload_n F 1 rfl rfl dX7_take_109 ?_
                exact g_lret F rfl (by decide) (by decide) ⟨congrArg (fun z => some (jv z)) (show (((L : Nat) : Int) : Int) = if m_ke = 0 then Int.tdiv m_bu (gbZ m_be m_bu 5 : Nat) else -2000000002 by rw [if_pos (by omega), hu]; exact lc_end hup hLe), (by rw [if_pos (by omega), lc_end hup hLe, ← hu])⟩ dX7_take_110
              · skip
                refine g_aload_n F 0 rfl rfl dX7_take_61 ?_
                refine g_get F hV iX7 0 rfl rfl 16 (by decide) (List.mem_of_getElem? (i := 5) rfl) rfl dX7_take_62 ?_
                refine g_iload_n F 2 rfl rfl dX7_take_65 ?_
                refine g_aload_n F 0 rfl rfl dX7_take_66 ?_
                refine g_get F hV iX7 0 rfl rfl 13 (by decide) (List.mem_of_getElem? (i := 3) rfl) rfl dX7_take_67 ?_
                refine g_iload_n F 2 rfl rfl dX7_take_70 ?_
                have r_4 := hbe (k)
                refine g_lald F hV 1 rfl (k) (by omega) (by omega) (by decide) dX7_take_71 ?_
                refine g_aload_n F 0 rfl rfl dX7_take_72 ?_
                refine g_get F hV iX7 0 rfl rfl 14 (by decide) (List.mem_of_getElem? (i := 4) rfl) rfl dX7_take_73 ?_
                refine g_iconst F dX7_take_76 ?_
                refine g_callRS F hV (As := [jv (m_be k), jv (m_bu), iv (0)]) (rest := [iv (((k : Nat) : Int)), .ref (m 23)]) (kX7_part l D cA (m_be k) m_bu 0 (by omega) (by omega) (by omega)) (va_cwS 3 F.2.2.2.2.1 gX7_take_X7_part rfl rfl rfl (by decide +kernel) ⟨Nat.le_of_ble_eq_true rfl, Nat.le_of_ble_eq_true rfl⟩) [] rfl rfl rfl (Nat.le_of_ble_eq_true rfl) ⟨Nat.le_of_ble_eq_true rfl, Nat.le_of_ble_eq_true rfl⟩ dX7_take_77 (fun v hv => ?_)
                subst hv
                refine g_eq (st' := [jv (lowZ (m_be k) m_bu 0), iv (((k : Nat) : Int)), .ref (m 23)]) rfl rfl rfl ?_
                refine g_lload_n F 1 rfl rfl dX7_take_80 ?_
                refine g_aload_n F 0 rfl rfl dX7_take_81 ?_
                refine g_get F hV iX7 0 rfl rfl 13 (by decide) (List.mem_of_getElem? (i := 3) rfl) rfl dX7_take_82 ?_
                refine g_iload_n F 2 rfl rfl dX7_take_85 ?_
                have r_5 := hbe (k)
                refine g_lald F hV 1 rfl (k) (by omega) (by omega) (by decide) dX7_take_86 ?_
                refine g_aload_n F 0 rfl rfl dX7_take_87 ?_
                refine g_get F hV iX7 0 rfl rfl 14 (by decide) (List.mem_of_getElem? (i := 4) rfl) rfl dX7_take_88 ?_
                refine g_iconst F dX7_take_91 ?_
                refine g_callRS F hV (As := [jv (m_be k), jv (m_bu), iv (1)]) (rest := [jv (((L : Nat) : Int)), jv (lowZ (m_be k) m_bu 0), iv (((k : Nat) : Int)), .ref (m 23)]) (kX7_part l D cA (m_be k) m_bu 1 (by omega) (by omega) (by omega)) (va_cwS 3 F.2.2.2.2.1 gX7_take_X7_part rfl rfl rfl (by decide +kernel) ⟨Nat.le_of_ble_eq_true rfl, Nat.le_of_ble_eq_true rfl⟩) [] rfl rfl rfl (Nat.le_of_ble_eq_true rfl) ⟨Nat.le_of_ble_eq_true rfl, Nat.le_of_ble_eq_true rfl⟩ dX7_take_92 (fun v hv => ?_)
                subst hv
                refine g_eq (st' := [jv (lowZ (m_be k) m_bu 1), jv (((L : Nat) : Int)), jv (lowZ (m_be k) m_bu 0), iv (((k : Nat) : Int)), .ref (m 23)]) rfl rfl rfl ?_
                obtain ⟨dm, hdm⟩ : ∃ y : Int, y = lowZ (m_be k) m_bu 1 := ⟨_, rfl⟩
                rw [← hdm]
                have hd2e : dm = ((dnN (m_be k) u : Nat) : Int) := by rw [hdm, hu]; exact low_1 hup
                have hd2p := Nat.pos_of_dvd_of_pos (dn_dvd (v := m_be k) (u := u)) hup
                have hd2l := Nat.le_of_dvd hup (dn_dvd (v := m_be k) (u := u))
                refine g_ldiv F ⟨by omega, by omega⟩ ⟨by omega, by omega⟩ (by omega) (tdiv_64 ⟨by omega, by omega⟩ (by omega) (by omega)) dX7_take_95 ?_
                refine g_lmul F dX7_take_96 ?_
                refine g_last F 4 rfl (k) (by omega) (by omega) (by decide) (wMO cA m (((m_nc : Nat) : Int)) (((m_nr : Nat) : Int)) (m_ke) (m_so) (m_bu) (m_bc) (m_pu) (m_qu) (m_fs) (m_cd) (m_un) (m_hb) (m_pf) (m_ef) ++ wMB cA m (m_be) (m_tr) (m_wy) ++ wMH cA m (va_up px k ((lowZ (m_be k) m_bu 0) * (Int.tdiv (((L : Nat) : Int)) dm))) (m_pr)) rfl dX7_take_97 ?_
                refine g_iinc F 2 rfl ([(3, iv ((((k : Nat) : Int)) + 1)), (0, .ref (m 0)), (1, jv (((L : Nat) : Int)))]) rfl (by decide) dX7_take_98 ?_
                refine g_goto F (tgt := 56) dX7_take_101 (by decide) ?_
                refine g_lsub ([(0, .ref (m 0)), (1, jv (((L : Nat) : Int))), (3, iv ((((k : Nat) : Int)) + 1))]) [1, 2, 0] rfl ?_
                exact ih56 (k + 1) (va_up px k ((lowZ (m_be k) m_bu 0) * (Int.tdiv (((L : Nat) : Int)) dm))) (by omega) (by rw [hpx]; exact mix_up (by rw [hd2e, hu]; unfold grV; rw [← pl_eq hup hLe (show k < 5 by omega)])) (by omega)
          refine g_lsub ([(0, .ref (m 0)), (1, jv (((L : Nat) : Int))), (3, iv (0))]) [1, 2, 0] rfl ?_
          exact lp56 (_ + 1) 0 m_pl (by omega) (mix_0 _ _).symm (Nat.lt_succ_self _)
        · skip
          refine g_aload_n F 0 rfl rfl dX7_take_20 ?_
          refine g_get F hV iX7 0 rfl rfl 13 (by decide) (List.mem_of_getElem? (i := 3) rfl) rfl dX7_take_21 ?_
          refine g_iload_n F 2 rfl rfl dX7_take_24 ?_
          have r_6 := hbe (c)
          refine g_lald F hV 1 rfl (c) (by omega) (by omega) (by decide) dX7_take_25 ?_
          refine g_aload_n F 0 rfl rfl dX7_take_26 ?_
          refine g_get F hV iX7 0 rfl rfl 14 (by decide) (List.mem_of_getElem? (i := 4) rfl) rfl dX7_take_27 ?_
          refine g_iconst F dX7_take_30 ?_
          refine g_callRS F hV (As := [jv (m_be c), jv (m_bu), iv (1)]) (rest := []) (kX7_part l D cA (m_be c) m_bu 1 (by omega) (by omega) (by omega)) (va_cwS 3 F.2.2.2.2.1 gX7_take_X7_part rfl rfl rfl (by decide +kernel) ⟨Nat.le_of_ble_eq_true rfl, Nat.le_of_ble_eq_true rfl⟩) [] rfl rfl rfl (Nat.le_of_ble_eq_true rfl) ⟨Nat.le_of_ble_eq_true rfl, Nat.le_of_ble_eq_true rfl⟩ dX7_take_31 (fun v hv => ?_)
          subst hv
          refine g_eq (st' := [jv (lowZ (m_be c) m_bu 1)]) rfl rfl rfl ?_
          obtain ⟨dn, hdn⟩ : ∃ y : Int, y = lowZ (m_be c) m_bu 1 := ⟨_, rfl⟩
          rw [← hdn]
          have hdn9 : dn = ((dnN (m_be c) u : Nat) : Int) := by rw [hdn, hu]; exact low_1 hup
          have hdle := Nat.le_of_dvd hup (dn_dvd (v := m_be c) (u := u))
          have hdp := Nat.pos_of_dvd_of_pos (dn_dvd (v := m_be c) (u := u)) hup
          have hgp := gcd_pos_of (L : Int) (show dn ≠ 0 by omega)
          have hgl := gcd_le_of (L : Int) (show 0 < dn by omega)
          refine g_lstore F ([(4, jv (dn)), (0, .ref (m 0)), (1, jv (((L : Nat) : Int))), (3, iv (((c : Nat) : Int)))]) rfl (by decide) dX7_take_34 ?_
          refine g_lload_n F 2 rfl rfl dX7_take_36 ?_
          refine g_lload_n F 2 rfl rfl dX7_take_37 ?_
          refine g_lload F 0 rfl dX7_take_38 ?_
          refine g_callRS F hV (As := [jv (((L : Nat) : Int)), jv (dn)]) (rest := [jv (((L : Nat) : Int))]) (kX7_common l D cA (((L : Nat) : Int)) dn (by omega) (by omega)) (va_cwS 2 F.2.2.2.2.1 gX7_take_X7_common rfl rfl rfl (by decide +kernel) ⟨Nat.le_of_ble_eq_true rfl, Nat.le_of_ble_eq_true rfl⟩) [] rfl rfl rfl (Nat.le_of_ble_eq_true rfl) ⟨Nat.le_of_ble_eq_true rfl, Nat.le_of_ble_eq_true rfl⟩ dX7_take_40 (fun v hv => ?_)
          subst hv
          refine g_eq (st' := [jv (((Int.gcd (((L : Nat) : Int)) dn : Nat) : Int)), jv (((L : Nat) : Int))]) rfl rfl rfl ?_
          refine g_ldiv F ⟨by omega, by omega⟩ ⟨by omega, by omega⟩ (by omega) (tdiv_64 ⟨by omega, by omega⟩ (by omega) (by omega)) dX7_take_43 ?_
          refine g_lload F 0 rfl dX7_take_44 ?_
          refine g_lmul F dX7_take_46 ?_
          refine g_eq (st' := [jv (((Nat.lcm L (dnN (m_be c) u) : Nat) : Int))]) rfl rfl (congrArg (fun zz => [jv zz]) (show ((Int.tdiv (((L : Nat) : Int)) (((Int.gcd (((L : Nat) : Int)) dn : Nat) : Int))) * dn : Int) = ((Nat.lcm L (dnN (m_be c) u) : Nat) : Int) from (by rw [hdn9]; exact lc_step))) ?_
          refine g_lstore_n F ([(1, jv (((Nat.lcm L (dnN (m_be c) u) : Nat) : Int))), (4, jv (dn)), (0, .ref (m 0)), (3, iv (((c : Nat) : Int)))]) rfl rfl (by decide) dX7_take_47 ?_
          refine g_iinc F 3 rfl ([(3, iv ((((c : Nat) : Int)) + 1)), (1, jv (((Nat.lcm L (dnN (m_be c) u) : Nat) : Int))), (4, jv (dn)), (0, .ref (m 0))]) rfl (by decide) dX7_take_48 ?_
          refine g_goto F (tgt := 15) dX7_take_51 (by decide) ?_
          refine g_lsub ([(0, .ref (m 0)), (1, jv (((Nat.lcm L (dnN (m_be c) u) : Nat) : Int))), (3, iv ((((c : Nat) : Int)) + 1))]) [3, 1, 0] rfl ?_
          exact ih15 (c + 1) (Nat.lcm L (dnN (m_be c) u)) (by omega) (by rw [hL]; rfl) (by omega)
    refine g_lsub ([(0, .ref (m 0)), (1, jv (1)), (3, iv (0))]) [2, 1, 0] rfl ?_
    exact lp15 (_ + 1) 0 1 (by omega) (rfl) (Nat.lt_succ_self _)
  · skip
    refine g_ldc2 F (-2000000002) (by decide) (List.mem_of_getElem? (i := 2) rfl) dX7_take_7 ?_
    exact g_lret F rfl (by decide) (by decide) ⟨congrArg (fun z => some (jv z)) (show (-2000000002 : Int) = if m_ke = 0 then Int.tdiv m_bu (gbZ m_be m_bu 5 : Nat) else -2000000002 by rw [if_neg (by omega)]), (by rw [if_neg (by omega)])⟩ dX7_take_10
