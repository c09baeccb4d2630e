-- ===== all assignments, one after the other =====
def bfr (nc : Nat) (kd g f : Nat → Int) : Prop := ∃ c, c < nc ∧ 1 ≤ kd c ∧ g c < f c ∧ ∀ c', c < c' → c' < nc → 1 ≤ kd c' → g c' = f c'
def eqW (nc : Nat) (kd g f : Nat → Int) : Prop := ∀ c, c < nc → 1 ≤ kd c → g c = f c
theorem top_or {nc : Nat} {kd g f : Nat → Int} : ∀ m, m ≤ nc → (∀ c, c < m → 1 ≤ kd c → g c ≤ f c) → (∀ c, m ≤ c → c < nc → 1 ≤ kd c → g c = f c) → eqW nc kd g f ∨ bfr nc kd g f
  | 0, _, _, h2 => Or.inl (fun c hc hk => h2 c (by omega) hc hk)
  | m + 1, hm, h1, h2 => by
    by_cases e : 1 ≤ kd m ∧ g m < f m
    · exact Or.inr ⟨m, by omega, e.1, e.2, fun c' q1 q2 q3 => h2 c' (by omega) q2 q3⟩
    · refine top_or m (by omega) (fun c hc => h1 c (by omega)) (fun c q1 q2 q3 => ?_)
      rcases (show m + 1 ≤ c ∨ c = m by omega) with z | z
      · exact h2 c z q2 q3
      · subst z
        have := h1 c (by omega) q3
        have : ¬ g c < f c := fun w => e ⟨q3, w⟩
        omega
def rkF (kd lo f : Nat → Int) : Nat → Nat
  | 0 => 0
  | n + 1 => rkF kd lo f n + (if 1 ≤ kd n then (f n - lo n).toNat * 10 ^ n else 0)
theorem rk_lt {kd lo hi f : Nat → Int} : ∀ n, (∀ c, c < n → 1 ≤ kd c → lo c ≤ f c ∧ f c ≤ hi c ∧ hi c - lo c ≤ 9) → rkF kd lo f n < 10 ^ n
  | 0, _ => by show (0 : Nat) < 1; decide
  | n + 1, h => by
    have ih := rk_lt n (fun c hc => h c (by omega))
    show rkF kd lo f n + (if 1 ≤ kd n then (f n - lo n).toNat * 10 ^ n else 0) < 10 ^ (n + 1)
    rw [Nat.pow_succ]
    split
    · rename_i hk
      have h1 := h n (by omega) hk
      have h2 : (f n - lo n).toNat * 10 ^ n ≤ 9 * 10 ^ n := Nat.mul_le_mul_right _ (by omega)
      omega
    · omega
theorem rk_low {kd lo f : Nat → Int} : ∀ n, (∀ c, c < n → 1 ≤ kd c → f c = lo c) → rkF kd lo f n = 0
  | 0, _ => rfl
  | n + 1, h => by
    show rkF kd lo f n + (if 1 ≤ kd n then (f n - lo n).toNat * 10 ^ n else 0) = 0
    rw [rk_low n (fun c hc => h c (by omega))]
    split
    · rename_i hk
      rw [h n (by omega) hk, show (lo n - lo n).toNat = 0 by omega]; simp
    · rfl
theorem rk_same {kd lo f g : Nat → Int} : ∀ {n m : Nat}, n ≤ m → rkF kd lo f n < rkF kd lo g n → (∀ c, n ≤ c → c < m → 1 ≤ kd c → f c = g c) → rkF kd lo f m < rkF kd lo g m := by
  intro n m hnm h1 h2
  induction m with
  | zero => rw [show n = 0 by omega] at h1; exact h1
  | succ m ih =>
    rcases (show n = m + 1 ∨ n ≤ m by omega) with e | e
    · rw [← e]; exact h1
    · have := ih e (fun c a b => h2 c a (by omega))
      show rkF kd lo f m + (if 1 ≤ kd m then (f m - lo m).toNat * 10 ^ m else 0) < rkF kd lo g m + (if 1 ≤ kd m then (g m - lo m).toNat * 10 ^ m else 0)
      by_cases hk : 1 ≤ kd m
      · rw [if_pos hk, if_pos hk, h2 m e (by omega) hk]; omega
      · rw [if_neg hk, if_neg hk]; omega
/-- the assignment behind f: c the first that can grow -/
theorem nw_step {nc c : Nat} {kd pa lo hi f f' : Nat → Int} (hP : colsOk nc kd pa lo hi) (ha : asgP nc kd lo hi f) (hc : c < nc) (hk : 1 ≤ kd c) (hM : ∀ q, q < c → 1 ≤ kd q → f q = hi q) (h1 : f c + 1 ≤ hi c) (hlow : ∀ q, q < c → 1 ≤ kd q → f' q = lo q) (hat : f' c = f c + 1) (hup : ∀ q, c < q → q < nc → 1 ≤ kd q → f' q = f q) :
    asgP nc kd lo hi f' ∧ rkF kd lo f nc < rkF kd lo f' nc ∧ ∀ g, asgP nc kd lo hi g → bfr nc kd g f' → eqW nc kd g f ∨ bfr nc kd g f := by
  refine ⟨fun q hq hkq => ?_, ?_, fun g hg hb => ?_⟩
  · have hq' := ha q hq hkq
    rcases Nat.lt_trichotomy q c with z | z | z
    · rw [hlow q z hkq]; omega
    · subst z; rw [hat]; omega
    · rw [hup q z hq hkq]; exact hq'
  · refine rk_same (n := c + 1) (by omega) ?_ (fun q q1 q2 q3 => (hup q (by omega) q2 q3).symm)
    show rkF kd lo f c + (if 1 ≤ kd c then (f c - lo c).toNat * 10 ^ c else 0) < rkF kd lo f' c + (if 1 ≤ kd c then (f' c - lo c).toNat * 10 ^ c else 0)
    rw [if_pos hk, if_pos hk, rk_low c (fun q hq hkq => hlow q hq hkq), hat]
    have h2 := rk_lt (kd := kd) (lo := lo) (hi := hi) (f := f) c (fun q hq hkq => by
      have a1 := ha q (by omega) hkq
      have a2 := (hP.2.2.2.2.1 q (by omega) hkq).2
      omega)
    have h3 := (ha c hc hk).1
    rw [show (f c + 1 - lo c).toNat = (f c - lo c).toNat + 1 by omega, Nat.add_mul]
    omega
  · obtain ⟨d, d1, d2, d3, d4⟩ := hb
    rcases Nat.lt_trichotomy d c with z | z | z
    · rw [hlow d z d2] at d3
      have := (hg d d1 d2).1
      omega
    · subst z
      rw [hat] at d3
      refine top_or (d + 1) (by omega) (fun q hq hkq => ?_) (fun q q1 q2 q3 => by rw [d4 q (by omega) q2 q3, hup q (by omega) q2 q3])
      rcases (show q < d ∨ q = d by omega) with w | w
      · rw [hM q w hkq]; exact (hg q (by omega) hkq).2
      · subst w; omega
    · exact Or.inr ⟨d, d1, d2, by rw [← hup d z d1 d2]; exact d3, fun q q1 q2 q3 => by rw [d4 q q1 q2 q3, hup q (by omega) q2 q3]⟩
theorem nw_last {nc : Nat} {kd lo hi f : Nat → Int} (hM : ∀ q, q < nc → 1 ≤ kd q → f q = hi q) : ∀ g, asgP nc kd lo hi g → eqW nc kd g f ∨ bfr nc kd g f :=
  fun g hg => top_or nc (Nat.le_refl _) (fun q hq hk => by rw [hM q hq hk]; exact (hg q hq hk).2) (fun q q1 q2 => by omega)
set_option maxHeartbeats 4000000 in
set_option maxRecDepth 100000 in
theorem kX7_nextWhole (l : Launch) (D : va_G) (cA : Nat → ClassId) (m : Nat → Nat) (m_nc : Nat) (m_nr : Nat) (m_ke : Int) (m_so : Int) (m_bu : Int) (m_bc : Int) (m_pu : Int) (m_qu : Int) (m_fs : Int) (m_cd : Int) (m_un : Int) (m_hb : Int) (m_pf : Int) (m_ef : Int) (m_kd : Nat → Int) (m_lo : Nat → Int) (m_hi : Nat → Int) (m_co : Nat → Int) (m_pa : Nat → Int) (m_rk : Nat → Int) (m_nu : Nat → Int) (m_ct : Nat → Int) (m_sa : Nat → Int) (m_fx : Nat → Int) (m_fv : Nat → Int) (m_sn : Nat → Int) (hP : colsOk m_nc m_kd m_pa m_lo m_hi) (ha : asgP m_nc m_kd m_lo m_hi m_fv) (hfb : ∀ c, c < m_nc → -20 ≤ m_fv c ∧ m_fv c ≤ 20) : CT l yX7_nextWhole wsX7_nextWhole ({ frames := 0, cells := 0, slots := 0, locals := 0 }) D cA [.ref (m 0)] (wMO cA m (((m_nc : Nat) : Int)) (((m_nr : Nat) : Int)) (m_ke) (m_so) (m_bu) (m_bc) (m_pu) (m_qu) (m_fs) (m_cd) (m_un) (m_hb) (m_pf) (m_ef) ++ wMP cA m (m_kd) (m_lo) (m_hi) (m_co) (m_pa) (m_rk) (m_nu) (m_ct) (m_sa) ++ wMX cA m (m_fx) (m_fv) (m_sn)) (fun ov ow => ∃ (r : Bool) (fv : Nat → Int), ((∀ q, q < m_nc → -20 ≤ fv q ∧ fv q ≤ 20) ∧ ((r = true ∧ asgP m_nc m_kd m_lo m_hi fv ∧ rkF m_kd m_lo m_fv m_nc < rkF m_kd m_lo fv m_nc ∧ (∀ g, asgP m_nc m_kd m_lo m_hi g → bfr m_nc m_kd g fv → eqW m_nc m_kd g m_fv ∨ bfr m_nc m_kd g m_fv)) ∨ (r = false ∧ (∀ g, asgP m_nc m_kd m_lo m_hi g →  eqW m_nc m_kd g m_fv ∨ bfr m_nc m_kd g m_fv)))) ∧ ov = some (iv (if r = true then 1 else 0)) ∧ ow = wMO cA m (((m_nc : Nat) : Int)) (((m_nr : Nat) : Int)) (m_ke) (m_so) (m_bu) (m_bc) (m_pu) (m_qu) (m_fs) (m_cd) (m_un) (m_hb) (m_pf) (m_ef) ++ wMP cA m (m_kd) (m_lo) (m_hi) (m_co) (m_pa) (m_rk) (m_nu) (m_ct) (m_sa) ++ wMX cA m (m_fx) (fv) (m_sn)) 0 0 := by
  refine CT.mk (cc := cX7_nextWhole) (maxL := 2) (ret := (some .boolean)) (by decide +kernel) rfl (Nat.le_of_ble_eq_true rfl) ?_
  intro p_ e_ s_ m_ b_ me_ c_ A F hnm hA
  have hV := @IM_P D s_ A
  have iX7 : ∀ w ∈ u_ws RX7 TX7 38, w ∈ wsX7_nextWhole := by decide +kernel
  have qnc := hP.1
  have qkd := hP.2.1
  have hlo := hP.2.2.1
  have hhi := hP.2.2.2.1
  refine g_lsub ([(0, .ref (m 0))]) [0] rfl ?_
  refine g_iconst F dX7_nextWhole_0 ?_
  refine g_istore_n F ([(1, iv (0)), (0, .ref (m 0))]) rfl rfl (by decide) dX7_nextWhole_1 ?_
  have lp2 : ∀ (n : Nat) (c : Nat) (va : Nat → Int) (hc : c ≤ m_nc) (hI : ∀ q, q < m_nc → 1 ≤ m_kd q → va q = if q < c then m_lo q else m_fv q) (hM : ∀ q, q < c → 1 ≤ m_kd q → m_fv q = m_hi q) (hB : ∀ q, q < m_nc → -20 ≤ va q ∧ va q ≤ 20), m_nc - c < n → GW p_ l e_ (headSpec wsX7_nextWhole ({ frames := 0, cells := 0, slots := 0, locals := 0 })).room s_ m_ ([.ref (m 0)]).toArray b_ me_ c_ (MQ b_ (Qm D (fun ov ow => ∃ (r : Bool) (fv : Nat → Int), ((∀ q, q < m_nc → -20 ≤ fv q ∧ fv q ≤ 20) ∧ ((r = true ∧ asgP m_nc m_kd m_lo m_hi fv ∧ rkF m_kd m_lo m_fv m_nc < rkF m_kd m_lo fv m_nc ∧ (∀ g, asgP m_nc m_kd m_lo m_hi g → bfr m_nc m_kd g fv → eqW m_nc m_kd g m_fv ∨ bfr m_nc m_kd g m_fv)) ∨ (r = false ∧ (∀ g, asgP m_nc m_kd m_lo m_hi g →  eqW m_nc m_kd g m_fv ∨ bfr m_nc m_kd g m_fv)))) ∧ ov = some (iv (if r = true then 1 else 0)) ∧ ow = wMO cA m (((m_nc : Nat) : Int)) (((m_nr : Nat) : Int)) (m_ke) (m_so) (m_bu) (m_bc) (m_pu) (m_qu) (m_fs) (m_cd) (m_un) (m_hb) (m_pf) (m_ef) ++ wMP cA m (m_kd) (m_lo) (m_hi) (m_co) (m_pa) (m_rk) (m_nu) (m_ct) (m_sa) ++ wMX cA m (m_fx) (fv) (m_sn)) A) ([.ref (m 0)]).toArray s_ 0 0 A) (IM D s_ A) 2 0 0 (wMO cA m (((m_nc : Nat) : Int)) (((m_nr : Nat) : Int)) (m_ke) (m_so) (m_bu) (m_bc) (m_pu) (m_qu) (m_fs) (m_cd) (m_un) (m_hb) (m_pf) (m_ef) ++ wMP cA m (m_kd) (m_lo) (m_hi) (m_co) (m_pa) (m_rk) (m_nu) (m_ct) (m_sa) ++ wMX cA m (m_fx) (va) (m_sn)) ([(0, .ref (m 0)), (1, iv (((c : Nat) : Int)))]) [] 2 := by
    intro n; induction n with
    | zero => intro c va; intros; omega
    | succ n ih2 =>
      intro c va hc hI hM hB hmu2
      refine g_iload_n F 1 rfl rfl dX7_nextWhole_2 ?_
      refine g_aload_n F 0 rfl rfl dX7_nextWhole_3 ?_
      refine g_get F hV iX7 0 rfl rfl 0 (by decide) (List.mem_of_getElem? (i := 1) rfl) rfl dX7_nextWhole_4 ?_
      refine g_icmp_ge F (tgt := 67) dX7_nextWhole_7 (by decide) ⟨by omega, by omega⟩ ⟨by omega, by omega⟩ (fun c_1 => ?_) (fun c_1 => ?_)
      · skip
        refine g_iconst F dX7_nextWhole_67 ?_
        exact g_zret F rfl (nar_01 (Or.inl rfl)) (by decide) (by decide) ⟨false, va, ⟨hB, Or.inr ⟨rfl, nw_last (fun q hq hk => hM q (by omega) hk)⟩⟩, congrArg (fun z => some (iv z)) (show (0 : Int) = if false = true then 1 else 0 by rfl), rfl⟩ dX7_nextWhole_68
      · skip
        refine g_aload_n F 0 rfl rfl dX7_nextWhole_10 ?_
        refine g_get F hV iX7 0 rfl rfl 1 (by decide) (List.mem_of_getElem? (i := 2) rfl) rfl dX7_nextWhole_11 ?_
        refine g_iload_n F 1 rfl rfl dX7_nextWhole_14 ?_
        have r_2 := qkd (c)
        refine g_iald F hV 1 rfl (c) (by omega) (by omega) (by decide) dX7_nextWhole_15 ?_
        refine g_if_le F (tgt := 61) dX7_nextWhole_16 (by decide) ⟨by omega, by omega⟩ (fun c_3 => ?_) (fun c_3 => ?_)
        · skip
          refine g_iinc F 1 rfl ([(1, iv ((((c : Nat) : Int)) + 1)), (0, .ref (m 0))]) rfl (by decide) dX7_nextWhole_61 ?_
          refine g_goto F (tgt := 2) dX7_nextWhole_64 (by decide) ?_
          refine g_lsub ([(0, .ref (m 0)), (1, iv ((((c : Nat) : Int)) + 1))]) [1, 0] rfl ?_
          exact ih2 (c + 1) va (by omega) (fun q hq hk => by rw [hI q hq hk]; have e : q ≠ c := (by intro z; subst z; omega); by_cases w : q < c; (rw [if_pos w, if_pos (by omega)]); (rw [if_neg w, if_neg (by omega)])) (fun q hq hk => hM q (by rcases (show q < c ∨ q = c by omega) with z | z; exact z; (exfalso; subst z; omega)) hk) (hB) (by omega)
        · skip
          have hvc : va c = m_fv c := by rw [hI c (by omega) (by omega), if_neg (Nat.lt_irrefl c)]
          have hvb := hB c (by omega)
          have hh9 := (hP.2.2.2.2.1 c (by omega) (by omega)).1
          have hh8 : ¬ m_hi c = -2000000005 := hh9
          refine g_aload_n F 0 rfl rfl dX7_nextWhole_19 ?_
          refine g_get F hV iX7 0 rfl rfl 31 (by decide) (List.mem_of_getElem? (i := 3) rfl) rfl dX7_nextWhole_20 ?_
          refine g_iload_n F 1 rfl rfl dX7_nextWhole_23 ?_
          refine g_dup2 F rfl rfl dX7_nextWhole_24 ?_
          refine g_lald F hV 11 rfl (c) (by omega) (by omega) (by decide) dX7_nextWhole_25 ?_
          refine g_lconst F (z := 1) dX7_nextWhole_26 (by decide) ?_
          refine g_ladd F dX7_nextWhole_27 ?_
          refine g_last F 11 rfl (c) (by omega) (by omega) (by decide) (wMO cA m (((m_nc : Nat) : Int)) (((m_nr : Nat) : Int)) (m_ke) (m_so) (m_bu) (m_bc) (m_pu) (m_qu) (m_fs) (m_cd) (m_un) (m_hb) (m_pf) (m_ef) ++ wMP cA m (m_kd) (m_lo) (m_hi) (m_co) (m_pa) (m_rk) (m_nu) (m_ct) (m_sa) ++ wMX cA m (m_fx) (va_up va c ((va c) + 1)) (m_sn)) rfl dX7_nextWhole_28 ?_
          refine g_aload_n F 0 rfl rfl dX7_nextWhole_29 ?_
          refine g_get F hV iX7 0 rfl rfl 31 (by decide) (List.mem_of_getElem? (i := 3) rfl) rfl dX7_nextWhole_30 ?_
          refine g_iload_n F 1 rfl rfl dX7_nextWhole_33 ?_
          refine g_lald F hV 11 rfl (c) (by omega) (by omega) (by decide) dX7_nextWhole_34 ?_
          have e9 : (va_up va c (va c + 1)) c = va c + 1 := up_same
          refine g_aload_n F 0 rfl rfl dX7_nextWhole_35 ?_
          refine g_get F hV iX7 0 rfl rfl 3 (by decide) (List.mem_of_getElem? (i := 4) rfl) rfl dX7_nextWhole_36 ?_
          refine g_iload_n F 1 rfl rfl dX7_nextWhole_39 ?_
          have r_4 := hhi (c)
          refine g_iald F hV 3 rfl (c) (by omega) (by omega) (by decide) dX7_nextWhole_40 ?_
          refine g_i2l F ⟨by omega, by omega⟩ dX7_nextWhole_41 ?_
          refine g_lcmp_gt F (tgt := 48) dX7_nextWhole_42 dX7_nextWhole_43 (by decide) (show I64 _ from by rw [e9]; exact ⟨by omega, by omega⟩) ⟨by omega, by omega⟩ (fun c_5 => ?_) (fun c_5 => ?_)
          · skip
            refine g_aload_n F 0 rfl rfl dX7_nextWhole_48 ?_
            refine g_get F hV iX7 0 rfl rfl 31 (by decide) (List.mem_of_getElem? (i := 3) rfl) rfl dX7_nextWhole_49 ?_
            refine g_iload_n F 1 rfl rfl dX7_nextWhole_52 ?_
            refine g_aload_n F 0 rfl rfl dX7_nextWhole_53 ?_
            refine g_get F hV iX7 0 rfl rfl 2 (by decide) (List.mem_of_getElem? (i := 5) rfl) rfl dX7_nextWhole_54 ?_
            refine g_iload_n F 1 rfl rfl dX7_nextWhole_57 ?_
            have r_6 := hlo (c)
            refine g_iald F hV 2 rfl (c) (by omega) (by omega) (by decide) dX7_nextWhole_58 ?_
            refine g_i2l F ⟨by omega, by omega⟩ dX7_nextWhole_59 ?_
            refine g_last F 11 rfl (c) (by omega) (by omega) (by decide) (wMO cA m (((m_nc : Nat) : Int)) (((m_nr : Nat) : Int)) (m_ke) (m_so) (m_bu) (m_bc) (m_pu) (m_qu) (m_fs) (m_cd) (m_un) (m_hb) (m_pf) (m_ef) ++ wMP cA m (m_kd) (m_lo) (m_hi) (m_co) (m_pa) (m_rk) (m_nu) (m_ct) (m_sa) ++ wMX cA m (m_fx) (va_up (va_up va c ((va c) + 1)) c (m_lo c)) (m_sn)) rfl dX7_nextWhole_60 ?_
            refine g_iinc F 1 rfl ([(1, iv ((((c : Nat) : Int)) + 1)), (0, .ref (m 0))]) rfl (by decide) dX7_nextWhole_61 ?_
            refine g_goto F (tgt := 2) dX7_nextWhole_64 (by decide) ?_
            refine g_lsub ([(0, .ref (m 0)), (1, iv ((((c : Nat) : Int)) + 1))]) [1, 0] rfl ?_
            exact ih2 (c + 1) (va_up (va_up va c ((va c) + 1)) c (m_lo c)) (by omega) (fun q hq hk => by by_cases e : q = c; (subst e; rw [up_same, if_pos (by omega)]); (rw [up_ne e, up_ne e, hI q hq hk]; by_cases w : q < c; (rw [if_pos w, if_pos (by omega)]); (rw [if_neg w, if_neg (by omega)]))) (fun q hq hk => by rcases (show q < c ∨ q = c by omega) with z | z; exact hM q z hk; (subst z; have := (ha q (by omega) hk).2; omega)) (fun q hq => by by_cases e : q = c; (subst e; rw [up_same]; have := hlo q; omega); (rw [up_ne e, up_ne e]; exact hB q hq)) (by omega)
          · skip
            refine g_iconst F dX7_nextWhole_46 ?_
            exact g_zret F rfl (nar_01 (Or.inr rfl)) (by decide) (by decide) ⟨true, (va_up va c ((va c) + 1)), ⟨fun q hq => by by_cases e : q = c; (subst e; rw [up_same]; omega); (rw [up_ne e]; exact hB q hq), Or.inl ⟨rfl, nw_step hP ha (by omega) (by omega) hM (by omega) (fun q hq hk => by rw [up_ne (by omega), hI q (by omega) hk, if_pos hq]) (by rw [up_same, hvc]) (fun q q1 q2 q3 => by rw [up_ne (by omega), hI q q2 q3, if_neg (by omega)])⟩⟩, congrArg (fun z => some (iv z)) (show (1 : Int) = if true = true then 1 else 0 by rfl), rfl⟩ dX7_nextWhole_47
  refine g_lsub ([(0, .ref (m 0)), (1, iv (0))]) [1, 0] rfl ?_
  exact lp2 (_ + 1) 0 m_fv (by omega) (fun q _ _ => by rw [if_neg (Nat.not_lt_zero q)]) (fun q hq => absurd hq (Nat.not_lt_zero q)) (hfb) (Nat.lt_succ_self _)
