def btI (b : Nat) : Nat → Int := fun c => if b.testBit c = true then 0 else 1
abbrev negG (co fr : Nat → Int) (n : Nat) : (Nat → Int) → Prop := fun q => sumZ (fun j => co (frN fr j) * q j) n < 0
theorem neg_cong {co fr : Nat → Int} {n : Nat} : ∀ q q', (∀ j, j < n → q j = q' j) → negG co fr n q → negG co fr n q' := by
  intro q q' h hq
  show sumZ _ n < 0
  rw [← sm_cong (n := n) (f := fun j => co (frN fr j) * q j) (fun j hj => by rw [h j hj])]
  exact hq
theorem fxs_0 {nc : Nat} {fx : Nat → Bool} {sa : Nat → Int} {r : Nat} : fxS nc fx (fun _ => 0) sa r = 0 := sm_z (fun c _ => by split <;> simp)
abbrev wlP (nc nr n K b : Nat) (rk ct sa fr cs cn ck : Nat → Int) : Prop := layP nc (nr + 1) n K (bzF (btI b)) (fun _ => 0) (fun _ => 0) (fun _ => NONEz) (rkW rk nr) (nuW nr) (saW sa nr) (whW (fun r => ct r = 1) nr) fr cs cn ck
abbrev wyQ (nc nr n K b : Nat) (rk sa fr : Nat → Int) (rd : Nat → Prop) (jd : Nat) (cs cn ck : Nat → Int) : Prop := cdQ nc n K (bzF (btI b)) (frN fr) (fun _ => 0) (fun _ => 0) (fun _ => NONEz) (rkW rk nr) (nuW nr) (saW sa nr) rd jd cs cn ck
theorem wq_one {nc nr n b : Nat} (hn : n ≤ 5) {rk sa fr cs cn ck : Nat → Int} : wyQ nc nr n (0 + 1) b rk sa fr (fun q => q = nr) 0 (rowZ (rowZ cs (0 * 5) (fun _ => 0) 5) (0 * 5) (fun _ => 1) n) (va_up cn 0 1) (va_up ck 0 2) := by
  refine cdQ_row (r := nr) (rd := fun _ => False) (cdQ_0 (cs := cs) (cn := cn) (ck := ck) (fun _ z => z)) (ag_row hn hn) ?_ (fun q => ⟨fun z => Or.inr z, fun z => by rcases z with z | z; exact absurd z id; exact z⟩)
  refine ⟨?_, ?_, fun j hj => ?_⟩
  · rw [up_same]; unfold rkW; rw [if_pos rfl]
  · rw [up_same, fxs_0]; unfold nuW; rw [if_pos rfl]; rfl
  · rw [row_in (by omega) (by omega)]; unfold saW; rw [if_pos (by omega)]
theorem wq_row {nc nr n K b r : Nat} (hn : n ≤ 5) (hnc : nc ≤ 5) {rk ct sa fr cs cn ck : Nat → Int} (hr : r < nr) (hc : ct r = 1) (hfj : ∀ j, j < n → 0 ≤ fr j ∧ fr j < (nc : Int)) (h : wyQ nc nr n K b rk sa fr (fun q => q = nr ∨ (q < r ∧ ct q = 1)) 0 cs cn ck) : wyQ nc nr n (K + 1) b rk sa fr (fun q => q = nr ∨ (q < r + 1 ∧ ct q = 1)) 0 (rowZ (rowZ cs (K * 5) (fun _ => 0) 5) (K * 5) (fun j => sa (r * 5 + frN fr j)) n) (va_up cn K 0) (va_up ck K (rk r)) := by
  refine cdQ_row (r := r) h (ag_row hn hn) ?_ (fun q => ⟨fun z => ?_, fun z => ?_⟩)
  · refine ⟨?_, ?_, fun j hj => ?_⟩
    · rw [up_same]; unfold rkW; rw [if_neg (by omega)]
    · rw [up_same, fxs_0]; unfold nuW; rw [if_neg (by omega)]; rfl
    · rw [row_in (by omega) (by omega), show K * 5 + j - K * 5 = j by omega]
      unfold saW
      have := hfj j hj
      rw [if_neg (show ¬ nr * 5 ≤ r * 5 + frN fr j by show ¬ nr * 5 ≤ r * 5 + (fr j).toNat; omega)]
  · rcases z with z | z
    · exact Or.inl (Or.inl z)
    · rcases (show q < r ∨ q = r by omega) with y | y
      · exact Or.inl (Or.inr ⟨y, z.2⟩)
      · exact Or.inr y
  · rcases z with (z | z) | z
    · exact Or.inl z
    · exact Or.inr ⟨by omega, z.2⟩
    · subst z; exact Or.inr ⟨by omega, hc⟩
theorem wq_end {nc nr n K b : Nat} {rk ct sa fr cs cn ck : Nat → Int} (h : wyQ nc nr n K b rk sa fr (fun q => q = nr ∨ (q < nr ∧ ct q = 1)) n cs cn ck) : cdI nc (nr + 1) n K (bzF (btI b)) (frN fr) (fun _ => 0) (fun _ => 0) (fun _ => NONEz) (rkW rk nr) (nuW nr) (saW sa nr) (whW (fun r => ct r = 1) nr) cs cn ck := by
  refine cdQ_end (cdQ_rd (fun r => ?_) h)
  constructor
  · rintro ⟨a, b | b⟩
    · exact Or.inl b
    · rcases (show r = nr ∨ r < nr by omega) with y | y
      · exact Or.inl y
      · exact Or.inr ⟨y, b⟩
  · rintro (a | ⟨a, b⟩)
    · exact ⟨by omega, Or.inl a⟩
    · exact ⟨by omega, Or.inr b⟩
theorem ones_sm {n K : Nat} (hn : n ≤ 5) {cs f : Nat → Int} (hf : ∀ j, (f j).natAbs ≤ 9) : ∀ j, j < n → (rowZ (rowZ cs (K * 5) (fun _ => 0) 5) (K * 5) f n (K * 5 + j)).natAbs ≤ 9 := by
  intro j hj
  rw [row_in (by omega) (by omega)]
  exact hf _
set_option maxHeartbeats 4000000 in
set_option maxRecDepth 100000 in
theorem kX7_isWay (l : Launch) (D : va_G) (cA : Nat → ClassId) (m : Nat → Nat) (m_nc : Nat) (m_nr : Nat) (m_ke : Int) (m_so : Int) (m_bu : Int) (m_bc : Int) (m_pu : Int) (m_qu : Int) (m_fs : Int) (m_cd : Int) (m_un : Int) (m_hb : Int) (m_pf : Int) (m_ef : Int) (m_kd : Nat → Int) (m_lo : Nat → Int) (m_hi : Nat → Int) (m_co : Nat → Int) (m_pa : Nat → Int) (m_rk : Nat → Int) (m_nu : Nat → Int) (m_ct : Nat → Int) (m_sa : Nat → Int) (m_fr : Nat → Int) (m_cs : Nat → Int) (m_cn : Nat → Int) (m_ck : Nat → Int) (m_ch : Nat → Int) (m_tb : Nat → Int) (m_cr : Nat → Int) (b : Nat) (qnc : m_nc ≤ 5) (qnr : m_nr ≤ 7) (hb : b < 32) (hsa : ∀ j, -9 ≤ m_sa j ∧ m_sa j ≤ 9) (hrk : ∀ j, 0 ≤ m_rk j ∧ m_rk j ≤ 2) (qct : ∀ j, 0 ≤ m_ct j ∧ m_ct j ≤ 1) (hco : ∀ j, -9 ≤ m_co j ∧ m_co j ≤ 9) : CT l yX7_isWay wsX7_isWay ({ frames := 2, cells := 0, slots := 0, locals := 58 }) D cA [.ref (m 0), iv (((b : Nat) : Int))] (wMO cA m (((m_nc : Nat) : Int)) (((m_nr : Nat) : Int)) (m_ke) (m_so) (m_bu) (m_bc) (m_pu) (m_qu) (m_fs) (m_cd) (m_un) (m_hb) (m_pf) (m_ef) ++ wMP cA m (m_kd) (m_lo) (m_hi) (m_co) (m_pa) (m_rk) (m_nu) (m_ct) (m_sa) ++ wME cA m (m_fr) (m_cs) (m_cn) (m_ck) (m_ch) (m_tb) (m_cr)) (fun ov ow => ∃ (so : Int) (fr : Nat → Int) (fs : Nat) (cs : Nat → Int) (cn : Nat → Int) (ck : Nat → Int) (cd : Nat) (ch : Nat → Int) (tb : Nat → Int) (cr : Nat → Int) (un : Int), ((so = 0 ∨ so = 1) ∧ wlP m_nc m_nr fs cd b m_rk m_ct m_sa fr cs cn ck ∧ (so = 1 → hasC fs cd cs cn ck (negG m_co fr fs)) ∧ (so = 0 → ∀ t, chV fs cd t → novC fs cd cs cn ck (negG m_co fr fs) t)) ∧ ov = some (iv (so)) ∧ ow = wMO cA m (((m_nc : Nat) : Int)) (((m_nr : Nat) : Int)) (m_ke) (m_so) (m_bu) (m_bc) (m_pu) (m_qu) (((fs : Nat) : Int)) (((cd : Nat) : Int)) (un) (m_hb) (m_pf) (m_ef) ++ wMP cA m (m_kd) (m_lo) (m_hi) (m_co) (m_pa) (m_rk) (m_nu) (m_ct) (m_sa) ++ wME cA m (fr) (cs) (cn) (ck) (ch) (tb) (cr)) 0 0 := by
  refine CT.mk (cc := cX7_isWay) (maxL := 8) (ret := (some .boolean)) (by decide +kernel) rfl (Nat.le_of_ble_eq_true rfl) ?_
  intro p_ e_ s_ m_ b_ me_ c_ A F hnm hA
  have hV := @IM_P D s_ A
  have iX7 : ∀ w ∈ u_ws RX7 TX7 38, w ∈ wsX7_isWay := by decide +kernel
  refine g_lsub ([(0, .ref (m 0)), (1, iv (((b : Nat) : Int)))]) [0, 1] rfl ?_
  refine g_aload_n F 0 rfl rfl dX7_isWay_0 ?_
  refine g_iconst F dX7_isWay_1 ?_
  refine g_put F iX7 tyX7 tyX7_ok nmX7 0 rfl rfl 21 (by decide) (List.mem_of_getElem? (i := 1) rfl) rfl rfl rfl (Nat.le_of_ble_eq_true rfl) (wMO cA m (((m_nc : Nat) : Int)) (((m_nr : Nat) : Int)) (m_ke) (m_so) (m_bu) (m_bc) (m_pu) (m_qu) (0) (m_cd) (m_un) (m_hb) (m_pf) (m_ef) ++ wMP cA m (m_kd) (m_lo) (m_hi) (m_co) (m_pa) (m_rk) (m_nu) (m_ct) (m_sa) ++ wME cA m (m_fr) (m_cs) (m_cn) (m_ck) (m_ch) (m_tb) (m_cr)) rfl dX7_isWay_2 ?_
  refine g_iconst F dX7_isWay_5 ?_
  refine g_istore_n F ([(2, iv (0)), (0, .ref (m 0)), (1, iv (((b : Nat) : Int)))]) rfl rfl (by decide) dX7_isWay_6 ?_
  have lp7 : ∀ (n : Nat) (c : Nat) (k : Nat) (fa : Nat → Int) (hc : c ≤ m_nc) (hk : k = cntZ (unf (bzF (btI b))) c) (hF : ∀ q, q < c → bzF (btI b) q = false → fa (cntZ (unf (bzF (btI b))) q) = (q : Int)), m_nc - c < n → GW p_ l e_ (headSpec wsX7_isWay ({ frames := 2, cells := 0, slots := 0, locals := 58 })).room s_ m_ ([.ref (m 0), iv (((b : Nat) : Int))]).toArray b_ me_ c_ (MQ b_ (Qm D (fun ov ow => ∃ (so : Int) (fr : Nat → Int) (fs : Nat) (cs : Nat → Int) (cn : Nat → Int) (ck : Nat → Int) (cd : Nat) (ch : Nat → Int) (tb : Nat → Int) (cr : Nat → Int) (un : Int), ((so = 0 ∨ so = 1) ∧ wlP m_nc m_nr fs cd b m_rk m_ct m_sa fr cs cn ck ∧ (so = 1 → hasC fs cd cs cn ck (negG m_co fr fs)) ∧ (so = 0 → ∀ t, chV fs cd t → novC fs cd cs cn ck (negG m_co fr fs) t)) ∧ ov = some (iv (so)) ∧ ow = wMO cA m (((m_nc : Nat) : Int)) (((m_nr : Nat) : Int)) (m_ke) (m_so) (m_bu) (m_bc) (m_pu) (m_qu) (((fs : Nat) : Int)) (((cd : Nat) : Int)) (un) (m_hb) (m_pf) (m_ef) ++ wMP cA m (m_kd) (m_lo) (m_hi) (m_co) (m_pa) (m_rk) (m_nu) (m_ct) (m_sa) ++ wME cA m (fr) (cs) (cn) (ck) (ch) (tb) (cr)) A) ([.ref (m 0), iv (((b : Nat) : Int))]).toArray s_ 0 0 A) (IM D s_ A) 8 0 0 (wMO cA m (((m_nc : Nat) : Int)) (((m_nr : Nat) : Int)) (m_ke) (m_so) (m_bu) (m_bc) (m_pu) (m_qu) (((k : Nat) : Int)) (m_cd) (m_un) (m_hb) (m_pf) (m_ef) ++ wMP cA m (m_kd) (m_lo) (m_hi) (m_co) (m_pa) (m_rk) (m_nu) (m_ct) (m_sa) ++ wME cA m (fa) (m_cs) (m_cn) (m_ck) (m_ch) (m_tb) (m_cr)) ([(0, .ref (m 0)), (1, iv (((b : Nat) : Int))), (2, iv (((c : Nat) : Int)))]) [] 7 := by
    intro n; induction n with
    | zero => intro c k fa; intros; omega
    | succ n ih7 =>
      intro c k fa hc hk hF hmu7
      have hkc := cntZ_le (unf (bzF (btI b))) c
      refine g_iload_n F 2 rfl rfl dX7_isWay_7 ?_
      refine g_aload_n F 0 rfl rfl dX7_isWay_8 ?_
      refine g_get F hV iX7 0 rfl rfl 0 (by decide) (List.mem_of_getElem? (i := 2) rfl) rfl dX7_isWay_9 ?_
      refine g_icmp_ge F (tgt := 50) dX7_isWay_12 (by decide) ⟨by omega, by omega⟩ ⟨by omega, by omega⟩ (fun c_1 => ?_) (fun c_1 => ?_)
      · skip
        have hg := gf_end (fx := btI b) (fa := fa) (k := k) (nc := m_nc) (by rw [hk, show c = m_nc by omega]) (fun q hq => hF q (by omega))
        obtain ⟨fs1, hfs1⟩ : ∃ z : Nat, z = k := ⟨k, rfl⟩
        subst hfs1
        obtain ⟨fr1, hfr1⟩ : ∃ z : Nat → Int, z = fa := ⟨fa, rfl⟩
        subst hfr1
        have hn5 : fs1 ≤ 5 := by omega
        refine g_aload_n F 0 rfl rfl dX7_isWay_50 ?_
        refine g_iconst F dX7_isWay_51 ?_
        refine g_eq (st' := [iv (((0 : Nat) : Int)), .ref (m 0)]) rfl rfl (congrArg (fun zz => [iv zz, .ref (m 0)]) (show (0 : Int) = ((0 : Nat) : Int) from rfl)) ?_
        refine g_put F iX7 tyX7 tyX7_ok nmX7 0 rfl rfl 22 (by decide) (List.mem_of_getElem? (i := 4) rfl) rfl rfl rfl (Nat.le_of_ble_eq_true rfl) (wMO cA m (((m_nc : Nat) : Int)) (((m_nr : Nat) : Int)) (m_ke) (m_so) (m_bu) (m_bc) (m_pu) (m_qu) (((fs1 : Nat) : Int)) (((0 : Nat) : Int)) (m_un) (m_hb) (m_pf) (m_ef) ++ wMP cA m (m_kd) (m_lo) (m_hi) (m_co) (m_pa) (m_rk) (m_nu) (m_ct) (m_sa) ++ wME cA m (fr1) (m_cs) (m_cn) (m_ck) (m_ch) (m_tb) (m_cr)) rfl dX7_isWay_52 ?_
        refine g_aload_n F 0 rfl rfl dX7_isWay_55 ?_
        refine g_iconst F dX7_isWay_56 ?_
        refine g_lconst F (z := 1) dX7_isWay_57 (by decide) ?_
        refine g_callV F (As := [iv (2), jv (1)]) (rest := []) (wr := wMP cA m (m_kd) (m_lo) (m_hi) (m_co) (m_pa) (m_rk) (m_nu) (m_ct) (m_sa)) (kX7_condition l D cA m m_nc m_nr m_ke m_so m_bu m_bc m_pu m_qu (((fs1 : Nat) : Int)) 0 m_un m_hb m_pf m_ef fr1 m_cs m_cn m_ck m_ch m_tb m_cr 2 1 (by omega)) (cwV 2 F.2.2.2.2.1 gX7_isWay_X7_condition rfl rfl rfl (by decide +kernel) ⟨Nat.le_of_ble_eq_true rfl, Nat.le_of_ble_eq_true rfl⟩) rfl rfl (q0 := 0) rfl [0, 10, 11, 12, 13, 14, 15, 16] [1, 2, 3, 4, 5, 6, 7, 8, 9] rfl rfl (by decide) (by decide) (by decide) rfl rfl (Nat.le_of_ble_eq_true rfl) ⟨Nat.le_of_ble_eq_true rfl, Nat.le_of_ble_eq_true rfl⟩ hA dX7_isWay_58 (fun v w hv => ?_)
        obtain ⟨hv, hw⟩ := hv
        subst hv
        subst hw
        refine g_wsub (wMO cA m (((m_nc : Nat) : Int)) (((m_nr : Nat) : Int)) (m_ke) (m_so) (m_bu) (m_bc) (m_pu) (m_qu) (((fs1 : Nat) : Int)) (((0 + 1 : Nat) : Int)) (m_un) (m_hb) (m_pf) (m_ef) ++ wMP cA m (m_kd) (m_lo) (m_hi) (m_co) (m_pa) (m_rk) (m_nu) (m_ct) (m_sa) ++ wME cA m (fr1) (rowZ m_cs (0 * 5) (fun _ => 0) 5) (va_up m_cn 0 1) (va_up m_ck 0 2) (m_ch) (m_tb) (m_cr)) [9, 0, 1, 2, 3, 4, 5, 6, 7, 8, 10, 11, 12, 13, 14, 15, 16] (by decide) rfl ?_
        refine g_eq (st' := [iv (((0 : Nat) : Int))]) rfl rfl rfl ?_
        refine g_istore_n F ([(2, iv (((0 : Nat) : Int))), (0, .ref (m 0)), (1, iv (((b : Nat) : Int)))]) rfl rfl (by decide) dX7_isWay_61 ?_
        refine g_iconst F dX7_isWay_62 ?_
        refine g_istore_n F ([(3, iv (0)), (2, iv (((0 : Nat) : Int))), (0, .ref (m 0)), (1, iv (((b : Nat) : Int)))]) rfl rfl (by decide) dX7_isWay_63 ?_
        have lp64 : ∀ (n : Nat) (j : Nat) (cz : Nat → Int) (hj : j ≤ fs1) (hcz : cz = rowZ (rowZ m_cs (0 * 5) (fun _ => 0) 5) (0 * 5) (fun _ => 1) j), fs1 - j < n → GW p_ l e_ (headSpec wsX7_isWay ({ frames := 2, cells := 0, slots := 0, locals := 58 })).room s_ m_ ([.ref (m 0), iv (((b : Nat) : Int))]).toArray b_ me_ c_ (MQ b_ (Qm D (fun ov ow => ∃ (so : Int) (fr : Nat → Int) (fs : Nat) (cs : Nat → Int) (cn : Nat → Int) (ck : Nat → Int) (cd : Nat) (ch : Nat → Int) (tb : Nat → Int) (cr : Nat → Int) (un : Int), ((so = 0 ∨ so = 1) ∧ wlP m_nc m_nr fs cd b m_rk m_ct m_sa fr cs cn ck ∧ (so = 1 → hasC fs cd cs cn ck (negG m_co fr fs)) ∧ (so = 0 → ∀ t, chV fs cd t → novC fs cd cs cn ck (negG m_co fr fs) t)) ∧ ov = some (iv (so)) ∧ ow = wMO cA m (((m_nc : Nat) : Int)) (((m_nr : Nat) : Int)) (m_ke) (m_so) (m_bu) (m_bc) (m_pu) (m_qu) (((fs : Nat) : Int)) (((cd : Nat) : Int)) (un) (m_hb) (m_pf) (m_ef) ++ wMP cA m (m_kd) (m_lo) (m_hi) (m_co) (m_pa) (m_rk) (m_nu) (m_ct) (m_sa) ++ wME cA m (fr) (cs) (cn) (ck) (ch) (tb) (cr)) A) ([.ref (m 0), iv (((b : Nat) : Int))]).toArray s_ 0 0 A) (IM D s_ A) 8 0 0 (wMO cA m (((m_nc : Nat) : Int)) (((m_nr : Nat) : Int)) (m_ke) (m_so) (m_bu) (m_bc) (m_pu) (m_qu) (((fs1 : Nat) : Int)) (((0 + 1 : Nat) : Int)) (m_un) (m_hb) (m_pf) (m_ef) ++ wMP cA m (m_kd) (m_lo) (m_hi) (m_co) (m_pa) (m_rk) (m_nu) (m_ct) (m_sa) ++ wME cA m (fr1) (cz) (va_up m_cn 0 1) (va_up m_ck 0 2) (m_ch) (m_tb) (m_cr)) ([(0, .ref (m 0)), (1, iv (((b : Nat) : Int))), (2, iv (((0 : Nat) : Int))), (3, iv (((j : Nat) : Int)))]) [] 64 := by
          intro n; induction n with
          | zero => intro j cz; intros; omega
          | succ n ih64 =>
            intro j cz hj hcz hmu64
            refine g_iload_n F 3 rfl rfl dX7_isWay_64 ?_
            refine g_aload_n F 0 rfl rfl dX7_isWay_65 ?_
            refine g_get F hV iX7 0 rfl rfl 21 (by decide) (List.mem_of_getElem? (i := 1) rfl) rfl dX7_isWay_66 ?_
            refine g_icmp_ge F (tgt := 89) dX7_isWay_69 (by decide) ⟨by omega, by omega⟩ ⟨by omega, by omega⟩ (fun c_2 => ?_) (fun c_2 => ?_)
            · skip
              refine g_iconst F dX7_isWay_89 ?_
              refine g_istore_n F ([(3, iv (0)), (0, .ref (m 0)), (1, iv (((b : Nat) : Int))), (2, iv (((0 : Nat) : Int)))]) rfl rfl (by decide) dX7_isWay_90 ?_
              have lp91 : ∀ (n : Nat) (r : Nat) (K : Nat) (csx : Nat → Int) (cnx : Nat → Int) (ckx : Nat → Int) (hr : r ≤ m_nr) (hK : K ≤ r + 1) (hI : wyQ m_nc m_nr fs1 K b m_rk m_sa fr1 (fun q => q = m_nr ∨ (q < r ∧ m_ct q = 1)) 0 csx cnx ckx) (hS : smK fs1 K csx cnx ckx), m_nr - r < n → GW p_ l e_ (headSpec wsX7_isWay ({ frames := 2, cells := 0, slots := 0, locals := 58 })).room s_ m_ ([.ref (m 0), iv (((b : Nat) : Int))]).toArray b_ me_ c_ (MQ b_ (Qm D (fun ov ow => ∃ (so : Int) (fr : Nat → Int) (fs : Nat) (cs : Nat → Int) (cn : Nat → Int) (ck : Nat → Int) (cd : Nat) (ch : Nat → Int) (tb : Nat → Int) (cr : Nat → Int) (un : Int), ((so = 0 ∨ so = 1) ∧ wlP m_nc m_nr fs cd b m_rk m_ct m_sa fr cs cn ck ∧ (so = 1 → hasC fs cd cs cn ck (negG m_co fr fs)) ∧ (so = 0 → ∀ t, chV fs cd t → novC fs cd cs cn ck (negG m_co fr fs) t)) ∧ ov = some (iv (so)) ∧ ow = wMO cA m (((m_nc : Nat) : Int)) (((m_nr : Nat) : Int)) (m_ke) (m_so) (m_bu) (m_bc) (m_pu) (m_qu) (((fs : Nat) : Int)) (((cd : Nat) : Int)) (un) (m_hb) (m_pf) (m_ef) ++ wMP cA m (m_kd) (m_lo) (m_hi) (m_co) (m_pa) (m_rk) (m_nu) (m_ct) (m_sa) ++ wME cA m (fr) (cs) (cn) (ck) (ch) (tb) (cr)) A) ([.ref (m 0), iv (((b : Nat) : Int))]).toArray s_ 0 0 A) (IM D s_ A) 8 0 0 (wMO cA m (((m_nc : Nat) : Int)) (((m_nr : Nat) : Int)) (m_ke) (m_so) (m_bu) (m_bc) (m_pu) (m_qu) (((fs1 : Nat) : Int)) (((K : Nat) : Int)) (m_un) (m_hb) (m_pf) (m_ef) ++ wMP cA m (m_kd) (m_lo) (m_hi) (m_co) (m_pa) (m_rk) (m_nu) (m_ct) (m_sa) ++ wME cA m (fr1) (csx) (cnx) (ckx) (m_ch) (m_tb) (m_cr)) ([(0, .ref (m 0)), (1, iv (((b : Nat) : Int))), (2, iv (((0 : Nat) : Int))), (3, iv (((r : Nat) : Int)))]) [] 91 := by
                intro n; induction n with
                | zero => intro r K csx cnx ckx; intros; omega
                | succ n ih91 =>
                  intro r K csx cnx ckx hr hK hI hS hmu91
                  refine g_iload_n F 3 rfl rfl dX7_isWay_91 ?_
                  refine g_aload_n F 0 rfl rfl dX7_isWay_92 ?_
                  refine g_get F hV iX7 0 rfl rfl 6 (by decide) (List.mem_of_getElem? (i := 6) rfl) rfl dX7_isWay_93 ?_
                  refine g_icmp_ge F (tgt := 173) dX7_isWay_96 (by decide) ⟨by omega, by omega⟩ ⟨by omega, by omega⟩ (fun c_3 => ?_) (fun c_3 => ?_)
                  · skip
                    refine g_iconst F dX7_isWay_173 ?_
                    refine g_istore_n F ([(3, iv (0)), (0, .ref (m 0)), (1, iv (((b : Nat) : Int))), (2, iv (((0 : Nat) : Int)))]) rfl rfl (by decide) dX7_isWay_174 ?_
                    have lp175 : ∀ (n : Nat) (j : Nat) (K2 : Nat) (csy : Nat → Int) (cny : Nat → Int) (cky : Nat → Int) (hj : j ≤ fs1) (hK2 : K2 ≤ m_nr + 1 + j) (hI2 : wyQ m_nc m_nr fs1 K2 b m_rk m_sa fr1 (fun q => q = m_nr ∨ (q < m_nr ∧ m_ct q = 1)) j csy cny cky) (hS2 : smK fs1 K2 csy cny cky), fs1 - j < n → GW p_ l e_ (headSpec wsX7_isWay ({ frames := 2, cells := 0, slots := 0, locals := 58 })).room s_ m_ ([.ref (m 0), iv (((b : Nat) : Int))]).toArray b_ me_ c_ (MQ b_ (Qm D (fun ov ow => ∃ (so : Int) (fr : Nat → Int) (fs : Nat) (cs : Nat → Int) (cn : Nat → Int) (ck : Nat → Int) (cd : Nat) (ch : Nat → Int) (tb : Nat → Int) (cr : Nat → Int) (un : Int), ((so = 0 ∨ so = 1) ∧ wlP m_nc m_nr fs cd b m_rk m_ct m_sa fr cs cn ck ∧ (so = 1 → hasC fs cd cs cn ck (negG m_co fr fs)) ∧ (so = 0 → ∀ t, chV fs cd t → novC fs cd cs cn ck (negG m_co fr fs) t)) ∧ ov = some (iv (so)) ∧ ow = wMO cA m (((m_nc : Nat) : Int)) (((m_nr : Nat) : Int)) (m_ke) (m_so) (m_bu) (m_bc) (m_pu) (m_qu) (((fs : Nat) : Int)) (((cd : Nat) : Int)) (un) (m_hb) (m_pf) (m_ef) ++ wMP cA m (m_kd) (m_lo) (m_hi) (m_co) (m_pa) (m_rk) (m_nu) (m_ct) (m_sa) ++ wME cA m (fr) (cs) (cn) (ck) (ch) (tb) (cr)) A) ([.ref (m 0), iv (((b : Nat) : Int))]).toArray s_ 0 0 A) (IM D s_ A) 8 0 0 (wMO cA m (((m_nc : Nat) : Int)) (((m_nr : Nat) : Int)) (m_ke) (m_so) (m_bu) (m_bc) (m_pu) (m_qu) (((fs1 : Nat) : Int)) (((K2 : Nat) : Int)) (m_un) (m_hb) (m_pf) (m_ef) ++ wMP cA m (m_kd) (m_lo) (m_hi) (m_co) (m_pa) (m_rk) (m_nu) (m_ct) (m_sa) ++ wME cA m (fr1) (csy) (cny) (cky) (m_ch) (m_tb) (m_cr)) ([(0, .ref (m 0)), (1, iv (((b : Nat) : Int))), (2, iv (((0 : Nat) : Int))), (3, iv (((j : Nat) : Int)))]) [] 175 := by
                      intro n; induction n with
                      | zero => intro j K2 csy cny cky; intros; omega
                      | succ n ih175 =>
                        intro j K2 csy cny cky hj hK2 hI2 hS2 hmu175
                        refine g_iload_n F 3 rfl rfl dX7_isWay_175 ?_
                        refine g_aload_n F 0 rfl rfl dX7_isWay_176 ?_
                        refine g_get F hV iX7 0 rfl rfl 21 (by decide) (List.mem_of_getElem? (i := 1) rfl) rfl dX7_isWay_177 ?_
                        refine g_icmp_ge F (tgt := 205) dX7_isWay_180 (by decide) ⟨by omega, by omega⟩ ⟨by omega, by omega⟩ (fun c_4 => ?_) (fun c_4 => ?_)
                        · skip
                          obtain ⟨cd1, hcd1⟩ : ∃ z : Nat, z = K2 := ⟨K2, rfl⟩
                          subst hcd1
                          obtain ⟨cs1, hcs1⟩ : ∃ z : Nat → Int, z = csy := ⟨csy, rfl⟩
                          subst hcs1
                          obtain ⟨cn1, hcn1⟩ : ∃ z : Nat → Int, z = cny := ⟨cny, rfl⟩
                          subst hcn1
                          obtain ⟨ck1, hck1⟩ : ∃ z : Nat → Int, z = cky := ⟨cky, rfl⟩
                          subst hck1
                          have hsk := hS2
                          have hK20 : cd1 ≤ 20 := by omega
                          have hlay : wlP m_nc m_nr fs1 cd1 b m_rk m_ct m_sa fr1 cs1 cn1 ck1 := ⟨hg.1, hg.2, wq_end (by rw [show j = fs1 by omega] at hI2; exact hI2), hsk, hK20, hn5⟩
                          refine g_iconst F dX7_isWay_205 ?_
                          refine g_istore_n F ([(3, iv (0)), (0, .ref (m 0)), (1, iv (((b : Nat) : Int))), (2, iv (((0 : Nat) : Int)))]) rfl rfl (by decide) dX7_isWay_206 ?_
                          refine g_aload_n F 1 rfl rfl dX7_isWay_207 ?_
                          refine g_get F hV iX7 0 rfl rfl 21 (by decide) (List.mem_of_getElem? (i := 1) rfl) rfl dX7_isWay_208 ?_
                          refine g_if_le F (tgt := 225) dX7_isWay_211 (by decide) ⟨by omega, by omega⟩ (fun c_5 => ?_) (fun c_5 => ?_)
                          · skip
                            refine g_iconst F dX7_isWay_225 ?_
                            refine g_eq (st' := [iv (if false = true then 1 else 0)]) rfl rfl (congrArg (fun zz => [iv zz]) (show (0 : Int) = if false = true then 1 else 0 from rfl)) ?_
                            refine g_istore F ([(4, iv (if false = true then 1 else 0)), (3, iv (0)), (0, .ref (m 0)), (1, iv (((b : Nat) : Int))), (2, iv (((0 : Nat) : Int)))]) rfl (by decide) dX7_isWay_226 ?_
                            have lp228 : ∀ (n : Nat) (so : Int) (mo : Bool) (chx : Nat → Int) (tbx : Nat → Int) (crx : Nat → Int) (unx : Int) (hso : so = 0 ∨ so = 1) (hs1 : so = 1 → hasC fs1 cd1 cs1 cn1 ck1 (negG m_co fr1 fs1)) (hmt : mo = true → chV fs1 cd1 chx ∧ (so = 0 → ∀ t, chV fs1 cd1 t → ltC fs1 t chx → novC fs1 cd1 cs1 cn1 ck1 (negG m_co fr1 fs1) t)) (hmf : so = 0 → mo = false → ∀ t, chV fs1 cd1 t → novC fs1 cd1 cs1 cn1 ck1 (negG m_co fr1 fs1) t), (if mo = true then muC fs1 chx + 1 else 0) < n → GW p_ l e_ (headSpec wsX7_isWay ({ frames := 2, cells := 0, slots := 0, locals := 58 })).room s_ m_ ([.ref (m 0), iv (((b : Nat) : Int))]).toArray b_ me_ c_ (MQ b_ (Qm D (fun ov ow => ∃ (so : Int) (fr : Nat → Int) (fs : Nat) (cs : Nat → Int) (cn : Nat → Int) (ck : Nat → Int) (cd : Nat) (ch : Nat → Int) (tb : Nat → Int) (cr : Nat → Int) (un : Int), ((so = 0 ∨ so = 1) ∧ wlP m_nc m_nr fs cd b m_rk m_ct m_sa fr cs cn ck ∧ (so = 1 → hasC fs cd cs cn ck (negG m_co fr fs)) ∧ (so = 0 → ∀ t, chV fs cd t → novC fs cd cs cn ck (negG m_co fr fs) t)) ∧ ov = some (iv (so)) ∧ ow = wMO cA m (((m_nc : Nat) : Int)) (((m_nr : Nat) : Int)) (m_ke) (m_so) (m_bu) (m_bc) (m_pu) (m_qu) (((fs : Nat) : Int)) (((cd : Nat) : Int)) (un) (m_hb) (m_pf) (m_ef) ++ wMP cA m (m_kd) (m_lo) (m_hi) (m_co) (m_pa) (m_rk) (m_nu) (m_ct) (m_sa) ++ wME cA m (fr) (cs) (cn) (ck) (ch) (tb) (cr)) A) ([.ref (m 0), iv (((b : Nat) : Int))]).toArray s_ 0 0 A) (IM D s_ A) 8 0 0 (wMO cA m (((m_nc : Nat) : Int)) (((m_nr : Nat) : Int)) (m_ke) (m_so) (m_bu) (m_bc) (m_pu) (m_qu) (((fs1 : Nat) : Int)) (((cd1 : Nat) : Int)) (unx) (m_hb) (m_pf) (m_ef) ++ wMP cA m (m_kd) (m_lo) (m_hi) (m_co) (m_pa) (m_rk) (m_nu) (m_ct) (m_sa) ++ wME cA m (fr1) (cs1) (cn1) (ck1) (chx) (tbx) (crx)) ([(0, .ref (m 0)), (1, iv (((b : Nat) : Int))), (2, iv (((0 : Nat) : Int))), (3, iv (so)), (4, iv (if mo = true then 1 else 0))]) [] 228 := by
                              intro n; induction n with
                              | zero => intro so mo chx tbx crx unx; intros; omega
                              | succ n ih228 =>
                                intro so mo chx tbx crx unx hso hs1 hmt hmf hmu228
                                refine g_iload F 4 rfl dX7_isWay_228 ?_
                                refine g_ifb_eq F (tgt := 320) dX7_isWay_230 (by decide) (fun c_6 => ?_) (fun c_6 => ?_)
                                · skip
                                  refine g_iload_n F 3 rfl rfl dX7_isWay_320 ?_
                                  exact g_zret F rfl (nar_01 (by omega)) (by decide) (by decide) ⟨so, fr1, fs1, cs1, cn1, ck1, cd1, chx, tbx, crx, unx, ⟨hso, hlay, hs1, fun z => by first | exact hmf z (Bool.eq_false_iff.mpr (by assumption)) | (exfalso; omega)⟩, congrArg (fun z => some (iv z)) (show (so : Int) = so by rfl), rfl⟩ dX7_isWay_321
                                · skip
                                  have hmo : mo = true := by assumption
                                  obtain ⟨hchx, hlt⟩ := hmt hmo
                                  refine g_iload_n F 3 rfl rfl dX7_isWay_233 ?_
                                  refine g_if_ne F (tgt := 320) dX7_isWay_234 (by decide) ⟨by omega, by omega⟩ (fun c_7 => ?_) (fun c_7 => ?_)
                                  · skip
                                    refine g_iload_n F 3 rfl rfl dX7_isWay_320 ?_
                                    exact g_zret F rfl (nar_01 (by omega)) (by decide) (by decide) ⟨so, fr1, fs1, cs1, cn1, ck1, cd1, chx, tbx, crx, unx, ⟨hso, hlay, hs1, fun z => by first | exact hmf z (Bool.eq_false_iff.mpr (by assumption)) | (exfalso; omega)⟩, congrArg (fun z => some (iv z)) (show (so : Int) = so by rfl), rfl⟩ dX7_isWay_321
                                  · skip
                                    refine g_aload_n F 0 rfl rfl dX7_isWay_237 ?_
                                    refine g_callV F (As := []) (rest := []) (wr := wMP cA m (m_kd) (m_lo) (m_hi) (m_co) (m_pa) (m_rk) (m_nu) (m_ct) (m_sa)) (kX7_meets l D cA m m_nc m_nr m_ke m_so m_bu m_bc m_pu m_qu fs1 cd1 unx m_hb m_pf m_ef fr1 cs1 cn1 ck1 chx tbx crx (hn5) (hK20) (hchx) (hsk.1)) (cwV 0 F.2.2.2.2.1 gX7_isWay_X7_meets rfl rfl rfl (by decide +kernel) ⟨Nat.le_of_ble_eq_true rfl, Nat.le_of_ble_eq_true rfl⟩) rfl rfl (q0 := 0) rfl [0, 10, 11, 12, 13, 14, 15, 16] [1, 2, 3, 4, 5, 6, 7, 8, 9] rfl rfl (by decide) (by decide) (by decide) rfl rfl (Nat.le_of_ble_eq_true rfl) ⟨Nat.le_of_ble_eq_true rfl, Nat.le_of_ble_eq_true rfl⟩ hA dX7_isWay_238 (fun v w hv => ?_)
                                    obtain ⟨r20, tb20, cr20, un20, hmeets20, hv, hw⟩ := hv
                                    subst hv
                                    subst hw
                                    refine g_wsub (wMO cA m (((m_nc : Nat) : Int)) (((m_nr : Nat) : Int)) (m_ke) (m_so) (m_bu) (m_bc) (m_pu) (m_qu) (((fs1 : Nat) : Int)) (((cd1 : Nat) : Int)) (un20) (m_hb) (m_pf) (m_ef) ++ wMP cA m (m_kd) (m_lo) (m_hi) (m_co) (m_pa) (m_rk) (m_nu) (m_ct) (m_sa) ++ wME cA m (fr1) (cs1) (cn1) (ck1) (chx) (tb20) (cr20)) [9, 0, 1, 2, 3, 4, 5, 6, 7, 8, 10, 11, 12, 13, 14, 15, 16] (by decide) rfl ?_
                                    refine g_eq (st' := [iv (if r20 = true then 1 else 0)]) rfl rfl rfl ?_
                                    refine g_ifb_eq F (tgt := 311) dX7_isWay_241 (by decide) (fun c_8 => ?_) (fun c_8 => ?_)
                                    · skip
                                      have hs2 := hs1
                                      have hv2 : so = 0 → ∀ t, chV fs1 cd1 t → (eqC fs1 t chx ∨ ltC fs1 t chx) → novC fs1 cd1 cs1 cn1 ck1 (negG m_co fr1 fs1) t := fun w0 t ht hh => by rcases hh with y | y; exact nov_none (by rcases hmeets20 with z | z; exact absurd z.1 c_8; exact z.2) y; exact hlt w0 t ht y
                                      refine g_aload_n F 0 rfl rfl dX7_isWay_311 ?_
                                      refine g_callV F (As := []) (rest := []) (wr := wMP cA m (m_kd) (m_lo) (m_hi) (m_co) (m_pa) (m_rk) (m_nu) (m_ct) (m_sa)) (kX7_another l D cA m m_nc m_nr m_ke m_so m_bu m_bc m_pu m_qu fs1 cd1 un20 m_hb m_pf m_ef fr1 cs1 cn1 ck1 chx tb20 cr20 (hn5) (hK20) (hchx)) (cwV 0 F.2.2.2.2.1 gX7_isWay_X7_another rfl rfl rfl (by decide +kernel) ⟨Nat.le_of_ble_eq_true rfl, Nat.le_of_ble_eq_true rfl⟩) rfl rfl (q0 := 0) rfl [0, 10, 11, 12, 13, 14, 15, 16] [1, 2, 3, 4, 5, 6, 7, 8, 9] rfl rfl (by decide) (by decide) (by decide) rfl rfl (Nat.le_of_ble_eq_true rfl) ⟨Nat.le_of_ble_eq_true rfl, Nat.le_of_ble_eq_true rfl⟩ hA dX7_isWay_312 (fun v w hv => ?_)
                                      obtain ⟨r44, ch44, hano44, hv, hw⟩ := hv
                                      subst hv
                                      subst hw
                                      refine g_wsub (wMO cA m (((m_nc : Nat) : Int)) (((m_nr : Nat) : Int)) (m_ke) (m_so) (m_bu) (m_bc) (m_pu) (m_qu) (((fs1 : Nat) : Int)) (((cd1 : Nat) : Int)) (un20) (m_hb) (m_pf) (m_ef) ++ wMP cA m (m_kd) (m_lo) (m_hi) (m_co) (m_pa) (m_rk) (m_nu) (m_ct) (m_sa) ++ wME cA m (fr1) (cs1) (cn1) (ck1) (ch44) (tb20) (cr20)) [9, 0, 1, 2, 3, 4, 5, 6, 7, 8, 10, 11, 12, 13, 14, 15, 16] (by decide) rfl ?_
                                      refine g_eq (st' := [iv (if r44 = true then 1 else 0)]) rfl rfl rfl ?_
                                      have hnx := an_next hn5 hK20 hchx hano44
                                      refine g_istore F ([(4, iv (if r44 = true then 1 else 0)), (0, .ref (m 0)), (1, iv (((b : Nat) : Int))), (2, iv (((0 : Nat) : Int))), (3, iv (so))]) rfl (by decide) dX7_isWay_315 ?_
                                      refine g_goto F (tgt := 228) dX7_isWay_317 (by decide) ?_
                                      refine g_lsub ([(0, .ref (m 0)), (1, iv (((b : Nat) : Int))), (2, iv (((0 : Nat) : Int))), (3, iv (so)), (4, iv (if r44 = true then 1 else 0))]) [1, 2, 3, 4, 0] rfl ?_
                                      exact ih228 so r44 ch44 tb20 cr20 un20 (by omega) (hs2) (fun z => ⟨(hnx.1 z).1, fun y t ht hl => hv2 y t ht ((hnx.1 z).2 t ht hl)⟩) (fun y z t ht => hv2 y t ht (hnx.2.1 z t ht)) (by rw [if_pos hmo] at hmu228; omega)
                                    · skip
                                      obtain ⟨q0, hq1, hq2⟩ : ∃ q, crnO fs1 cs1 cn1 chx = some (q, un20) ∧ ∀ j, j < fs1 → cr20 j = q j := by rcases hmeets20 with z | z; exact z.2; exact absurd (c_8.symm.trans z.1) (by decide)
                                      have hq3 := crn_bnd2 hn5 hsk.1 hchx hq1
                                      refine g_aload_n F 0 rfl rfl dX7_isWay_244 ?_
                                      refine g_callV F (As := []) (rest := []) (wr := wMP cA m (m_kd) (m_lo) (m_hi) (m_co) (m_pa) (m_rk) (m_nu) (m_ct) (m_sa)) (kX7_keepsAll l D cA m m_nc m_nr m_ke m_so m_bu m_bc m_pu m_qu fs1 cd1 un20 m_hb m_pf m_ef fr1 cs1 cn1 ck1 chx tb20 cr20 (hn5) (hK20) (hsk.1) (hsk.2) (fun j hj => by rw [hq2 j hj]; exact Nat.le_trans (hq3.2.2 j hj) (by decide)) (⟨hq3.1, hq3.2.1⟩)) (cwV 0 F.2.2.2.2.1 gX7_isWay_X7_keepsAll rfl rfl rfl (by decide +kernel) ⟨Nat.le_of_ble_eq_true rfl, Nat.le_of_ble_eq_true rfl⟩) rfl rfl (q0 := 0) rfl [0, 10, 11, 12, 13, 14, 15, 16] [1, 2, 3, 4, 5, 6, 7, 8, 9] rfl rfl (by decide) (by decide) (by decide) rfl rfl (Nat.le_of_ble_eq_true rfl) ⟨Nat.le_of_ble_eq_true rfl, Nat.le_of_ble_eq_true rfl⟩ hA dX7_isWay_245 (fun v w hv => ?_)
                                      obtain ⟨r27, hkeeps27, hv, hw⟩ := hv
                                      subst hv
                                      subst hw
                                      refine g_wsub (wMO cA m (((m_nc : Nat) : Int)) (((m_nr : Nat) : Int)) (m_ke) (m_so) (m_bu) (m_bc) (m_pu) (m_qu) (((fs1 : Nat) : Int)) (((cd1 : Nat) : Int)) (un20) (m_hb) (m_pf) (m_ef) ++ wMP cA m (m_kd) (m_lo) (m_hi) (m_co) (m_pa) (m_rk) (m_nu) (m_ct) (m_sa) ++ wME cA m (fr1) (cs1) (cn1) (ck1) (chx) (tb20) (cr20)) [9, 0, 1, 2, 3, 4, 5, 6, 7, 8, 10, 11, 12, 13, 14, 15, 16] (by decide) rfl ?_
                                      refine g_eq (st' := [iv (if r27 = true then 1 else 0)]) rfl rfl rfl ?_
                                      refine g_ifb_eq F (tgt := 311) dX7_isWay_248 (by decide) (fun c_9 => ?_) (fun c_9 => ?_)
                                      · skip
                                        have hs2 := hs1
                                        have hv2 : so = 0 → ∀ t, chV fs1 cd1 t → (eqC fs1 t chx ∨ ltC fs1 t chx) → novC fs1 cd1 cs1 cn1 ck1 (negG m_co fr1 fs1) t := fun w0 t ht hh => by rcases hh with y | y; exact nov_not neg_cong hq1 hq2 (fun z => c_9 (hkeeps27.mpr z.1)) y; exact hlt w0 t ht y
                                        refine g_aload_n F 0 rfl rfl dX7_isWay_311 ?_
                                        refine g_callV F (As := []) (rest := []) (wr := wMP cA m (m_kd) (m_lo) (m_hi) (m_co) (m_pa) (m_rk) (m_nu) (m_ct) (m_sa)) (kX7_another l D cA m m_nc m_nr m_ke m_so m_bu m_bc m_pu m_qu fs1 cd1 un20 m_hb m_pf m_ef fr1 cs1 cn1 ck1 chx tb20 cr20 (hn5) (hK20) (hchx)) (cwV 0 F.2.2.2.2.1 gX7_isWay_X7_another rfl rfl rfl (by decide +kernel) ⟨Nat.le_of_ble_eq_true rfl, Nat.le_of_ble_eq_true rfl⟩) rfl rfl (q0 := 0) rfl [0, 10, 11, 12, 13, 14, 15, 16] [1, 2, 3, 4, 5, 6, 7, 8, 9] rfl rfl (by decide) (by decide) (by decide) rfl rfl (Nat.le_of_ble_eq_true rfl) ⟨Nat.le_of_ble_eq_true rfl, Nat.le_of_ble_eq_true rfl⟩ hA dX7_isWay_312 (fun v w hv => ?_)
                                        obtain ⟨r44, ch44, hano44, hv, hw⟩ := hv
                                        subst hv
                                        subst hw
                                        refine g_wsub (wMO cA m (((m_nc : Nat) : Int)) (((m_nr : Nat) : Int)) (m_ke) (m_so) (m_bu) (m_bc) (m_pu) (m_qu) (((fs1 : Nat) : Int)) (((cd1 : Nat) : Int)) (un20) (m_hb) (m_pf) (m_ef) ++ wMP cA m (m_kd) (m_lo) (m_hi) (m_co) (m_pa) (m_rk) (m_nu) (m_ct) (m_sa) ++ wME cA m (fr1) (cs1) (cn1) (ck1) (ch44) (tb20) (cr20)) [9, 0, 1, 2, 3, 4, 5, 6, 7, 8, 10, 11, 12, 13, 14, 15, 16] (by decide) rfl ?_
                                        refine g_eq (st' := [iv (if r44 = true then 1 else 0)]) rfl rfl rfl ?_
                                        have hnx := an_next hn5 hK20 hchx hano44
                                        refine g_istore F ([(4, iv (if r44 = true then 1 else 0)), (0, .ref (m 0)), (1, iv (((b : Nat) : Int))), (2, iv (((0 : Nat) : Int))), (3, iv (so))]) rfl (by decide) dX7_isWay_315 ?_
                                        refine g_goto F (tgt := 228) dX7_isWay_317 (by decide) ?_
                                        refine g_lsub ([(0, .ref (m 0)), (1, iv (((b : Nat) : Int))), (2, iv (((0 : Nat) : Int))), (3, iv (so)), (4, iv (if r44 = true then 1 else 0))]) [1, 2, 3, 4, 0] rfl ?_
                                        exact ih228 so r44 ch44 tb20 cr20 un20 (by omega) (hs2) (fun z => ⟨(hnx.1 z).1, fun y t ht hl => hv2 y t ht ((hnx.1 z).2 t ht hl)⟩) (fun y z t ht => hv2 y t ht (hnx.2.1 z t ht)) (by rw [if_pos hmo] at hmu228; omega)
                                      · skip
                                        have hpl := hkeeps27.mp (by assumption)
                                        refine g_lconst F (z := 0) dX7_isWay_251 (by decide) ?_
                                        refine g_lstore F ([(5, jv (0)), (0, .ref (m 0)), (1, iv (((b : Nat) : Int))), (2, iv (((0 : Nat) : Int))), (3, iv (so)), (4, iv (if mo = true then 1 else 0))]) rfl (by decide) dX7_isWay_252 ?_
                                        refine g_iconst F dX7_isWay_254 ?_
                                        refine g_istore F ([(7, iv (0)), (5, jv (0)), (0, .ref (m 0)), (1, iv (((b : Nat) : Int))), (2, iv (((0 : Nat) : Int))), (3, iv (so)), (4, iv (if mo = true then 1 else 0))]) rfl (by decide) dX7_isWay_255 ?_
                                        have lp257 : ∀ (n : Nat) (j : Nat) (x : Int) (hj : j ≤ fs1) (hx : x = sumZ (fun j => m_co (frN fr1 j) * cr20 j) j), fs1 - j < n → GW p_ l e_ (headSpec wsX7_isWay ({ frames := 2, cells := 0, slots := 0, locals := 58 })).room s_ m_ ([.ref (m 0), iv (((b : Nat) : Int))]).toArray b_ me_ c_ (MQ b_ (Qm D (fun ov ow => ∃ (so : Int) (fr : Nat → Int) (fs : Nat) (cs : Nat → Int) (cn : Nat → Int) (ck : Nat → Int) (cd : Nat) (ch : Nat → Int) (tb : Nat → Int) (cr : Nat → Int) (un : Int), ((so = 0 ∨ so = 1) ∧ wlP m_nc m_nr fs cd b m_rk m_ct m_sa fr cs cn ck ∧ (so = 1 → hasC fs cd cs cn ck (negG m_co fr fs)) ∧ (so = 0 → ∀ t, chV fs cd t → novC fs cd cs cn ck (negG m_co fr fs) t)) ∧ ov = some (iv (so)) ∧ ow = wMO cA m (((m_nc : Nat) : Int)) (((m_nr : Nat) : Int)) (m_ke) (m_so) (m_bu) (m_bc) (m_pu) (m_qu) (((fs : Nat) : Int)) (((cd : Nat) : Int)) (un) (m_hb) (m_pf) (m_ef) ++ wMP cA m (m_kd) (m_lo) (m_hi) (m_co) (m_pa) (m_rk) (m_nu) (m_ct) (m_sa) ++ wME cA m (fr) (cs) (cn) (ck) (ch) (tb) (cr)) A) ([.ref (m 0), iv (((b : Nat) : Int))]).toArray s_ 0 0 A) (IM D s_ A) 8 0 0 (wMO cA m (((m_nc : Nat) : Int)) (((m_nr : Nat) : Int)) (m_ke) (m_so) (m_bu) (m_bc) (m_pu) (m_qu) (((fs1 : Nat) : Int)) (((cd1 : Nat) : Int)) (un20) (m_hb) (m_pf) (m_ef) ++ wMP cA m (m_kd) (m_lo) (m_hi) (m_co) (m_pa) (m_rk) (m_nu) (m_ct) (m_sa) ++ wME cA m (fr1) (cs1) (cn1) (ck1) (chx) (tb20) (cr20)) ([(0, .ref (m 0)), (1, iv (((b : Nat) : Int))), (2, iv (((0 : Nat) : Int))), (3, iv (so)), (4, iv (if mo = true then 1 else 0)), (5, jv (x)), (7, iv (((j : Nat) : Int)))]) [] 257 := by
                                          intro n; induction n with
                                          | zero => intro j x; intros; omega
                                          | succ n ih257 =>
                                            intro j x hj hx hmu257
                                            refine g_iload F 6 rfl dX7_isWay_257 ?_
                                            refine g_aload_n F 0 rfl rfl dX7_isWay_259 ?_
                                            refine g_get F hV iX7 0 rfl rfl 21 (by decide) (List.mem_of_getElem? (i := 1) rfl) rfl dX7_isWay_260 ?_
                                            refine g_icmp_ge F (tgt := 298) dX7_isWay_263 (by decide) ⟨by omega, by omega⟩ ⟨by omega, by omega⟩ (fun c_10 => ?_) (fun c_10 => ?_)
                                            · skip
                                              have hxe : x = sumZ (fun j => m_co (frN fr1 j) * cr20 j) fs1 := by rw [hx, show j = fs1 by omega]
                                              have hxb : x.natAbs ≤ fs1 * (9 * 1574640000) := by rw [hxe]; exact sum_lt fs1 (fun j hj => mul_nat (by have := hco (frN fr1 j); omega) (by rw [hq2 j hj]; exact hq3.2.2 j hj))
                                              have hx5 : fs1 * (9 * 1574640000) ≤ 5 * (9 * 1574640000) := Nat.mul_le_mul_right _ hn5
                                              refine g_lload F 5 rfl dX7_isWay_298 ?_
                                              refine g_lconst F (z := 0) dX7_isWay_300 (by decide) ?_
                                              refine g_lcmp_ge F (tgt := 309) dX7_isWay_301 dX7_isWay_302 (by decide) ⟨by omega, by omega⟩ ⟨by decide, by decide⟩ (fun c_11 => ?_) (fun c_11 => ?_)
                                              · skip
                                                have hs2 : (0 : Int) = 1 → hasC fs1 cd1 cs1 cn1 ck1 (negG m_co fr1 fs1) := fun z => absurd z (by decide)
                                                have hv2 : (0 : Int) = 0 → ∀ t, chV fs1 cd1 t → (eqC fs1 t chx ∨ ltC fs1 t chx) → novC fs1 cd1 cs1 cn1 ck1 (negG m_co fr1 fs1) t := fun _ t ht hh => by rcases hh with y | y; exact nov_not neg_cong hq1 hq2 (fun z => absurd (show sumZ _ fs1 < 0 from z.2) (by rw [← hxe]; omega)) y; exact hlt (by omega) t ht y
                                                refine g_iconst F dX7_isWay_309 ?_
                                                refine g_istore_n F ([(3, iv (0)), (0, .ref (m 0)), (1, iv (((b : Nat) : Int))), (2, iv (((0 : Nat) : Int))), (4, iv (if mo = true then 1 else 0)), (5, jv (x)), (7, iv (((j : Nat) : Int)))]) rfl rfl (by decide) dX7_isWay_310 ?_
                                                refine g_aload_n F 1 rfl rfl dX7_isWay_311 ?_
                                                refine g_callV F (As := []) (rest := []) (wr := wMP cA m (m_kd) (m_lo) (m_hi) (m_co) (m_pa) (m_rk) (m_nu) (m_ct) (m_sa)) (kX7_another l D cA m m_nc m_nr m_ke m_so m_bu m_bc m_pu m_qu fs1 cd1 un20 m_hb m_pf m_ef fr1 cs1 cn1 ck1 chx tb20 cr20 (hn5) (hK20) (hchx)) (cwV 0 F.2.2.2.2.1 gX7_isWay_X7_another rfl rfl rfl (by decide +kernel) ⟨Nat.le_of_ble_eq_true rfl, Nat.le_of_ble_eq_true rfl⟩) rfl rfl (q0 := 0) rfl [0, 10, 11, 12, 13, 14, 15, 16] [1, 2, 3, 4, 5, 6, 7, 8, 9] rfl rfl (by decide) (by decide) (by decide) rfl rfl (Nat.le_of_ble_eq_true rfl) ⟨Nat.le_of_ble_eq_true rfl, Nat.le_of_ble_eq_true rfl⟩ hA dX7_isWay_312 (fun v w hv => ?_)
                                                obtain ⟨r44, ch44, hano44, hv, hw⟩ := hv
                                                subst hv
                                                subst hw
                                                refine g_wsub (wMO cA m (((m_nc : Nat) : Int)) (((m_nr : Nat) : Int)) (m_ke) (m_so) (m_bu) (m_bc) (m_pu) (m_qu) (((fs1 : Nat) : Int)) (((cd1 : Nat) : Int)) (un20) (m_hb) (m_pf) (m_ef) ++ wMP cA m (m_kd) (m_lo) (m_hi) (m_co) (m_pa) (m_rk) (m_nu) (m_ct) (m_sa) ++ wME cA m (fr1) (cs1) (cn1) (ck1) (ch44) (tb20) (cr20)) [9, 0, 1, 2, 3, 4, 5, 6, 7, 8, 10, 11, 12, 13, 14, 15, 16] (by decide) rfl ?_
                                                refine g_eq (st' := [iv (if r44 = true then 1 else 0)]) rfl rfl rfl ?_
                                                have hnx := an_next hn5 hK20 hchx hano44
                                                refine g_istore F ([(4, iv (if r44 = true then 1 else 0)), (3, iv (0)), (0, .ref (m 0)), (1, iv (((b : Nat) : Int))), (2, iv (((0 : Nat) : Int))), (5, jv (x)), (7, iv (((j : Nat) : Int)))]) rfl (by decide) dX7_isWay_315 ?_
                                                refine g_goto F (tgt := 228) dX7_isWay_317 (by decide) ?_
                                                refine g_lsub ([(0, .ref (m 0)), (1, iv (((b : Nat) : Int))), (2, iv (((0 : Nat) : Int))), (3, iv (0)), (4, iv (if r44 = true then 1 else 0))]) [2, 3, 4, 1, 0] rfl ?_
                                                exact ih228 0 r44 ch44 tb20 cr20 un20 (by omega) (hs2) (fun z => ⟨(hnx.1 z).1, fun y t ht hl => hv2 y t ht ((hnx.1 z).2 t ht hl)⟩) (fun y z t ht => hv2 y t ht (hnx.2.1 z t ht)) (by rw [if_pos hmo] at hmu228; omega)
                                              · skip
                                                have hs2 : (1 : Int) = 1 → hasC fs1 cd1 cs1 cn1 ck1 (negG m_co fr1 fs1) := fun _ => has_one neg_cong hchx hq3.1 hq1 hq2 hpl (show sumZ _ fs1 < 0 from by rw [← hxe]; omega)
                                                have hv2 : (1 : Int) = 0 → ∀ t, chV fs1 cd1 t → (eqC fs1 t chx ∨ ltC fs1 t chx) → novC fs1 cd1 cs1 cn1 ck1 (negG m_co fr1 fs1) t := fun z => absurd z (by decide)
                                                refine g_iconst F dX7_isWay_305 ?_
                                                refine g_goto F (tgt := 310) dX7_isWay_306 (by decide) ?_
                                                refine g_istore_n F ([(3, iv (1)), (0, .ref (m 0)), (1, iv (((b : Nat) : Int))), (2, iv (((0 : Nat) : Int))), (4, iv (if mo = true then 1 else 0)), (5, jv (x)), (7, iv (((j : Nat) : Int)))]) rfl rfl (by decide) dX7_isWay_310 ?_
                                                refine g_aload_n F 1 rfl rfl dX7_isWay_311 ?_
                                                refine g_callV F (As := []) (rest := []) (wr := wMP cA m (m_kd) (m_lo) (m_hi) (m_co) (m_pa) (m_rk) (m_nu) (m_ct) (m_sa)) (kX7_another l D cA m m_nc m_nr m_ke m_so m_bu m_bc m_pu m_qu fs1 cd1 un20 m_hb m_pf m_ef fr1 cs1 cn1 ck1 chx tb20 cr20 (hn5) (hK20) (hchx)) (cwV 0 F.2.2.2.2.1 gX7_isWay_X7_another rfl rfl rfl (by decide +kernel) ⟨Nat.le_of_ble_eq_true rfl, Nat.le_of_ble_eq_true rfl⟩) rfl rfl (q0 := 0) rfl [0, 10, 11, 12, 13, 14, 15, 16] [1, 2, 3, 4, 5, 6, 7, 8, 9] rfl rfl (by decide) (by decide) (by decide) rfl rfl (Nat.le_of_ble_eq_true rfl) ⟨Nat.le_of_ble_eq_true rfl, Nat.le_of_ble_eq_true rfl⟩ hA dX7_isWay_312 (fun v w hv => ?_)
                                                obtain ⟨r44, ch44, hano44, hv, hw⟩ := hv
                                                subst hv
                                                subst hw
                                                refine g_wsub (wMO cA m (((m_nc : Nat) : Int)) (((m_nr : Nat) : Int)) (m_ke) (m_so) (m_bu) (m_bc) (m_pu) (m_qu) (((fs1 : Nat) : Int)) (((cd1 : Nat) : Int)) (un20) (m_hb) (m_pf) (m_ef) ++ wMP cA m (m_kd) (m_lo) (m_hi) (m_co) (m_pa) (m_rk) (m_nu) (m_ct) (m_sa) ++ wME cA m (fr1) (cs1) (cn1) (ck1) (ch44) (tb20) (cr20)) [9, 0, 1, 2, 3, 4, 5, 6, 7, 8, 10, 11, 12, 13, 14, 15, 16] (by decide) rfl ?_
                                                refine g_eq (st' := [iv (if r44 = true then 1 else 0)]) rfl rfl rfl ?_
                                                have hnx := an_next hn5 hK20 hchx hano44
                                                refine g_istore F ([(4, iv (if r44 = true then 1 else 0)), (3, iv (1)), (0, .ref (m 0)), (1, iv (((b : Nat) : Int))), (2, iv (((0 : Nat) : Int))), (5, jv (x)), (7, iv (((j : Nat) : Int)))]) rfl (by decide) dX7_isWay_315 ?_
                                                refine g_goto F (tgt := 228) dX7_isWay_317 (by decide) ?_
                                                refine g_lsub ([(0, .ref (m 0)), (1, iv (((b : Nat) : Int))), (2, iv (((0 : Nat) : Int))), (3, iv (1)), (4, iv (if r44 = true then 1 else 0))]) [2, 3, 4, 1, 0] rfl ?_
                                                exact ih228 1 r44 ch44 tb20 cr20 un20 (by omega) (hs2) (fun z => ⟨(hnx.1 z).1, fun y t ht hl => hv2 y t ht ((hnx.1 z).2 t ht hl)⟩) (fun y z t ht => hv2 y t ht (hnx.2.1 z t ht)) (by rw [if_pos hmo] at hmu228; omega)
                                            · skip
                                              have hf9 := hg.2 j (by omega)
                                              refine g_lload F 5 rfl dX7_isWay_266 ?_
                                              refine g_aload_n F 0 rfl rfl dX7_isWay_268 ?_
                                              refine g_get F hV iX7 0 rfl rfl 4 (by decide) (List.mem_of_getElem? (i := 10) rfl) rfl dX7_isWay_269 ?_
                                              refine g_aload_n F 0 rfl rfl dX7_isWay_272 ?_
                                              refine g_get F hV iX7 0 rfl rfl 20 (by decide) (List.mem_of_getElem? (i := 3) rfl) rfl dX7_isWay_273 ?_
                                              refine g_iload F 6 rfl dX7_isWay_276 ?_
                                              refine g_iald F hV 10 rfl (j) (by omega) (by omega) (by decide) dX7_isWay_278 ?_
                                              have r_12 := hco ((fr1 j).toNat)
                                              refine g_iald F hV 4 rfl ((fr1 j).toNat) (by omega) (by omega) (by decide) dX7_isWay_279 ?_
                                              refine g_i2l F ⟨by omega, by omega⟩ dX7_isWay_280 ?_
                                              refine g_aload_n F 0 rfl rfl dX7_isWay_281 ?_
                                              refine g_get F hV iX7 0 rfl rfl 28 (by decide) (List.mem_of_getElem? (i := 11) rfl) rfl dX7_isWay_282 ?_
                                              refine g_iload F 6 rfl dX7_isWay_285 ?_
                                              refine g_lald F hV 16 rfl (j) (by omega) (by omega) (by decide) dX7_isWay_287 ?_
                                              refine g_lmul F dX7_isWay_288 ?_
                                              refine g_ladd F dX7_isWay_289 ?_
                                              refine g_lstore F ([(5, jv (x + ((m_co ((fr1 j).toNat)) * (cr20 j)))), (0, .ref (m 0)), (1, iv (((b : Nat) : Int))), (2, iv (((0 : Nat) : Int))), (3, iv (so)), (4, iv (if mo = true then 1 else 0)), (7, iv (((j : Nat) : Int)))]) rfl (by decide) dX7_isWay_290 ?_
                                              refine g_iinc F 6 rfl ([(7, iv ((((j : Nat) : Int)) + 1)), (5, jv (x + ((m_co ((fr1 j).toNat)) * (cr20 j)))), (0, .ref (m 0)), (1, iv (((b : Nat) : Int))), (2, iv (((0 : Nat) : Int))), (3, iv (so)), (4, iv (if mo = true then 1 else 0))]) rfl (by decide) dX7_isWay_292 ?_
                                              refine g_goto F (tgt := 257) dX7_isWay_295 (by decide) ?_
                                              refine g_lsub ([(0, .ref (m 0)), (1, iv (((b : Nat) : Int))), (2, iv (((0 : Nat) : Int))), (3, iv (so)), (4, iv (if mo = true then 1 else 0)), (5, jv (x + ((m_co ((fr1 j).toNat)) * (cr20 j)))), (7, iv ((((j : Nat) : Int)) + 1))]) [2, 3, 4, 5, 6, 1, 0] rfl ?_
                                              exact ih257 (j + 1) (x + ((m_co ((fr1 j).toNat)) * (cr20 j))) (by omega) (by rw [hx]; rfl) (by omega)
                                        refine g_lsub ([(0, .ref (m 0)), (1, iv (((b : Nat) : Int))), (2, iv (((0 : Nat) : Int))), (3, iv (so)), (4, iv (if mo = true then 1 else 0)), (5, jv (0)), (7, iv (0))]) [2, 3, 4, 5, 6, 1, 0] rfl ?_
                                        exact lp257 (_ + 1) 0 0 (by omega) (rfl) (Nat.lt_succ_self _)
                            refine g_lsub ([(0, .ref (m 0)), (1, iv (((b : Nat) : Int))), (2, iv (((0 : Nat) : Int))), (3, iv (0)), (4, iv (if false = true then 1 else 0))]) [2, 3, 4, 1, 0] rfl ?_
                            exact lp228 (_ + 1) 0 false m_ch m_tb m_cr m_un (Or.inl rfl) (fun z => absurd z (by decide)) (fun z => absurd z (by decide)) (fun _ _ t ht => by first | exact absurd (ch_size ht) (by assumption) | (intro q u _ _ hq; have e0 : fs1 = 0 := (by omega); rw [e0] at hq; exact absurd (show (0 : Int) < 0 from hq) (by decide))) (Nat.lt_succ_self _)
                          · skip
                            refine g_aload_n F 1 rfl rfl dX7_isWay_214 ?_
                            refine g_callV F (As := []) (rest := []) (wr := wMP cA m (m_kd) (m_lo) (m_hi) (m_co) (m_pa) (m_rk) (m_nu) (m_ct) (m_sa)) (kX7_first l D cA m m_nc m_nr m_ke m_so m_bu m_bc m_pu m_qu fs1 cd1 m_un m_hb m_pf m_ef fr1 cs1 cn1 ck1 m_ch m_tb m_cr (hn5) (hK20)) (cwV 0 F.2.2.2.2.1 gX7_isWay_X7_first rfl rfl rfl (by decide +kernel) ⟨Nat.le_of_ble_eq_true rfl, Nat.le_of_ble_eq_true rfl⟩) rfl rfl (q0 := 0) rfl [0, 10, 11, 12, 13, 14, 15, 16] [1, 2, 3, 4, 5, 6, 7, 8, 9] rfl rfl (by decide) (by decide) (by decide) rfl rfl (Nat.le_of_ble_eq_true rfl) ⟨Nat.le_of_ble_eq_true rfl, Nat.le_of_ble_eq_true rfl⟩ hA dX7_isWay_215 (fun v w hv => ?_)
                            obtain ⟨hv, hw⟩ := hv
                            subst hv
                            subst hw
                            refine g_wsub (wMO cA m (((m_nc : Nat) : Int)) (((m_nr : Nat) : Int)) (m_ke) (m_so) (m_bu) (m_bc) (m_pu) (m_qu) (((fs1 : Nat) : Int)) (((cd1 : Nat) : Int)) (m_un) (m_hb) (m_pf) (m_ef) ++ wMP cA m (m_kd) (m_lo) (m_hi) (m_co) (m_pa) (m_rk) (m_nu) (m_ct) (m_sa) ++ wME cA m (fr1) (cs1) (cn1) (ck1) (mixZ (fun q => (q : Int)) m_ch fs1) (m_tb) (m_cr)) [9, 0, 1, 2, 3, 4, 5, 6, 7, 8, 10, 11, 12, 13, 14, 15, 16] (by decide) rfl ?_
                            refine g_eq (st' := [iv (if fs1 ≤ cd1 then 1 else 0)]) rfl rfl rfl ?_
                            refine g_ifb_eq F (tgt := 225) dX7_isWay_218 (by decide) (fun c_13 => ?_) (fun c_13 => ?_)
                            · skip
                              refine g_iconst F dX7_isWay_225 ?_
                              refine g_eq (st' := [iv (if false = true then 1 else 0)]) rfl rfl (congrArg (fun zz => [iv zz]) (show (0 : Int) = if false = true then 1 else 0 from rfl)) ?_
                              refine g_istore F ([(4, iv (if false = true then 1 else 0)), (3, iv (0)), (0, .ref (m 0)), (1, iv (((b : Nat) : Int))), (2, iv (((0 : Nat) : Int)))]) rfl (by decide) dX7_isWay_226 ?_
                              have lp228 : ∀ (n : Nat) (so : Int) (mo : Bool) (chx : Nat → Int) (tbx : Nat → Int) (crx : Nat → Int) (unx : Int) (hso : so = 0 ∨ so = 1) (hs1 : so = 1 → hasC fs1 cd1 cs1 cn1 ck1 (negG m_co fr1 fs1)) (hmt : mo = true → chV fs1 cd1 chx ∧ (so = 0 → ∀ t, chV fs1 cd1 t → ltC fs1 t chx → novC fs1 cd1 cs1 cn1 ck1 (negG m_co fr1 fs1) t)) (hmf : so = 0 → mo = false → ∀ t, chV fs1 cd1 t → novC fs1 cd1 cs1 cn1 ck1 (negG m_co fr1 fs1) t), (if mo = true then muC fs1 chx + 1 else 0) < n → GW p_ l e_ (headSpec wsX7_isWay ({ frames := 2, cells := 0, slots := 0, locals := 58 })).room s_ m_ ([.ref (m 0), iv (((b : Nat) : Int))]).toArray b_ me_ c_ (MQ b_ (Qm D (fun ov ow => ∃ (so : Int) (fr : Nat → Int) (fs : Nat) (cs : Nat → Int) (cn : Nat → Int) (ck : Nat → Int) (cd : Nat) (ch : Nat → Int) (tb : Nat → Int) (cr : Nat → Int) (un : Int), ((so = 0 ∨ so = 1) ∧ wlP m_nc m_nr fs cd b m_rk m_ct m_sa fr cs cn ck ∧ (so = 1 → hasC fs cd cs cn ck (negG m_co fr fs)) ∧ (so = 0 → ∀ t, chV fs cd t → novC fs cd cs cn ck (negG m_co fr fs) t)) ∧ ov = some (iv (so)) ∧ ow = wMO cA m (((m_nc : Nat) : Int)) (((m_nr : Nat) : Int)) (m_ke) (m_so) (m_bu) (m_bc) (m_pu) (m_qu) (((fs : Nat) : Int)) (((cd : Nat) : Int)) (un) (m_hb) (m_pf) (m_ef) ++ wMP cA m (m_kd) (m_lo) (m_hi) (m_co) (m_pa) (m_rk) (m_nu) (m_ct) (m_sa) ++ wME cA m (fr) (cs) (cn) (ck) (ch) (tb) (cr)) A) ([.ref (m 0), iv (((b : Nat) : Int))]).toArray s_ 0 0 A) (IM D s_ A) 8 0 0 (wMO cA m (((m_nc : Nat) : Int)) (((m_nr : Nat) : Int)) (m_ke) (m_so) (m_bu) (m_bc) (m_pu) (m_qu) (((fs1 : Nat) : Int)) (((cd1 : Nat) : Int)) (unx) (m_hb) (m_pf) (m_ef) ++ wMP cA m (m_kd) (m_lo) (m_hi) (m_co) (m_pa) (m_rk) (m_nu) (m_ct) (m_sa) ++ wME cA m (fr1) (cs1) (cn1) (ck1) (chx) (tbx) (crx)) ([(0, .ref (m 0)), (1, iv (((b : Nat) : Int))), (2, iv (((0 : Nat) : Int))), (3, iv (so)), (4, iv (if mo = true then 1 else 0))]) [] 228 := by
                                intro n; induction n with
                                | zero => intro so mo chx tbx crx unx; intros; omega
                                | succ n ih228 =>
                                  intro so mo chx tbx crx unx hso hs1 hmt hmf hmu228
                                  refine g_iload F 4 rfl dX7_isWay_228 ?_
                                  refine g_ifb_eq F (tgt := 320) dX7_isWay_230 (by decide) (fun c_14 => ?_) (fun c_14 => ?_)
                                  · skip
                                    refine g_iload_n F 3 rfl rfl dX7_isWay_320 ?_
                                    exact g_zret F rfl (nar_01 (by omega)) (by decide) (by decide) ⟨so, fr1, fs1, cs1, cn1, ck1, cd1, chx, tbx, crx, unx, ⟨hso, hlay, hs1, fun z => by first | exact hmf z (Bool.eq_false_iff.mpr (by assumption)) | (exfalso; omega)⟩, congrArg (fun z => some (iv z)) (show (so : Int) = so by rfl), rfl⟩ dX7_isWay_321
                                  · skip
                                    have hmo : mo = true := by assumption
                                    obtain ⟨hchx, hlt⟩ := hmt hmo
                                    refine g_iload_n F 3 rfl rfl dX7_isWay_233 ?_
                                    refine g_if_ne F (tgt := 320) dX7_isWay_234 (by decide) ⟨by omega, by omega⟩ (fun c_15 => ?_) (fun c_15 => ?_)
                                    · skip
                                      refine g_iload_n F 3 rfl rfl dX7_isWay_320 ?_
                                      exact g_zret F rfl (nar_01 (by omega)) (by decide) (by decide) ⟨so, fr1, fs1, cs1, cn1, ck1, cd1, chx, tbx, crx, unx, ⟨hso, hlay, hs1, fun z => by first | exact hmf z (Bool.eq_false_iff.mpr (by assumption)) | (exfalso; omega)⟩, congrArg (fun z => some (iv z)) (show (so : Int) = so by rfl), rfl⟩ dX7_isWay_321
                                    · skip
                                      refine g_aload_n F 0 rfl rfl dX7_isWay_237 ?_
                                      refine g_callV F (As := []) (rest := []) (wr := wMP cA m (m_kd) (m_lo) (m_hi) (m_co) (m_pa) (m_rk) (m_nu) (m_ct) (m_sa)) (kX7_meets l D cA m m_nc m_nr m_ke m_so m_bu m_bc m_pu m_qu fs1 cd1 unx m_hb m_pf m_ef fr1 cs1 cn1 ck1 chx tbx crx (hn5) (hK20) (hchx) (hsk.1)) (cwV 0 F.2.2.2.2.1 gX7_isWay_X7_meets rfl rfl rfl (by decide +kernel) ⟨Nat.le_of_ble_eq_true rfl, Nat.le_of_ble_eq_true rfl⟩) rfl rfl (q0 := 0) rfl [0, 10, 11, 12, 13, 14, 15, 16] [1, 2, 3, 4, 5, 6, 7, 8, 9] rfl rfl (by decide) (by decide) (by decide) rfl rfl (Nat.le_of_ble_eq_true rfl) ⟨Nat.le_of_ble_eq_true rfl, Nat.le_of_ble_eq_true rfl⟩ hA dX7_isWay_238 (fun v w hv => ?_)
                                      obtain ⟨r20, tb20, cr20, un20, hmeets20, hv, hw⟩ := hv
                                      subst hv
                                      subst hw
                                      refine g_wsub (wMO cA m (((m_nc : Nat) : Int)) (((m_nr : Nat) : Int)) (m_ke) (m_so) (m_bu) (m_bc) (m_pu) (m_qu) (((fs1 : Nat) : Int)) (((cd1 : Nat) : Int)) (un20) (m_hb) (m_pf) (m_ef) ++ wMP cA m (m_kd) (m_lo) (m_hi) (m_co) (m_pa) (m_rk) (m_nu) (m_ct) (m_sa) ++ wME cA m (fr1) (cs1) (cn1) (ck1) (chx) (tb20) (cr20)) [9, 0, 1, 2, 3, 4, 5, 6, 7, 8, 10, 11, 12, 13, 14, 15, 16] (by decide) rfl ?_
                                      refine g_eq (st' := [iv (if r20 = true then 1 else 0)]) rfl rfl rfl ?_
                                      refine g_ifb_eq F (tgt := 311) dX7_isWay_241 (by decide) (fun c_16 => ?_) (fun c_16 => ?_)
                                      · skip
                                        have hs2 := hs1
                                        have hv2 : so = 0 → ∀ t, chV fs1 cd1 t → (eqC fs1 t chx ∨ ltC fs1 t chx) → novC fs1 cd1 cs1 cn1 ck1 (negG m_co fr1 fs1) t := fun w0 t ht hh => by rcases hh with y | y; exact nov_none (by rcases hmeets20 with z | z; exact absurd z.1 c_16; exact z.2) y; exact hlt w0 t ht y
                                        refine g_aload_n F 0 rfl rfl dX7_isWay_311 ?_
                                        refine g_callV F (As := []) (rest := []) (wr := wMP cA m (m_kd) (m_lo) (m_hi) (m_co) (m_pa) (m_rk) (m_nu) (m_ct) (m_sa)) (kX7_another l D cA m m_nc m_nr m_ke m_so m_bu m_bc m_pu m_qu fs1 cd1 un20 m_hb m_pf m_ef fr1 cs1 cn1 ck1 chx tb20 cr20 (hn5) (hK20) (hchx)) (cwV 0 F.2.2.2.2.1 gX7_isWay_X7_another rfl rfl rfl (by decide +kernel) ⟨Nat.le_of_ble_eq_true rfl, Nat.le_of_ble_eq_true rfl⟩) rfl rfl (q0 := 0) rfl [0, 10, 11, 12, 13, 14, 15, 16] [1, 2, 3, 4, 5, 6, 7, 8, 9] rfl rfl (by decide) (by decide) (by decide) rfl rfl (Nat.le_of_ble_eq_true rfl) ⟨Nat.le_of_ble_eq_true rfl, Nat.le_of_ble_eq_true rfl⟩ hA dX7_isWay_312 (fun v w hv => ?_)
                                        obtain ⟨r44, ch44, hano44, hv, hw⟩ := hv
                                        subst hv
                                        subst hw
                                        refine g_wsub (wMO cA m (((m_nc : Nat) : Int)) (((m_nr : Nat) : Int)) (m_ke) (m_so) (m_bu) (m_bc) (m_pu) (m_qu) (((fs1 : Nat) : Int)) (((cd1 : Nat) : Int)) (un20) (m_hb) (m_pf) (m_ef) ++ wMP cA m (m_kd) (m_lo) (m_hi) (m_co) (m_pa) (m_rk) (m_nu) (m_ct) (m_sa) ++ wME cA m (fr1) (cs1) (cn1) (ck1) (ch44) (tb20) (cr20)) [9, 0, 1, 2, 3, 4, 5, 6, 7, 8, 10, 11, 12, 13, 14, 15, 16] (by decide) rfl ?_
                                        refine g_eq (st' := [iv (if r44 = true then 1 else 0)]) rfl rfl rfl ?_
                                        have hnx := an_next hn5 hK20 hchx hano44
                                        refine g_istore F ([(4, iv (if r44 = true then 1 else 0)), (0, .ref (m 0)), (1, iv (((b : Nat) : Int))), (2, iv (((0 : Nat) : Int))), (3, iv (so))]) rfl (by decide) dX7_isWay_315 ?_
                                        refine g_goto F (tgt := 228) dX7_isWay_317 (by decide) ?_
                                        refine g_lsub ([(0, .ref (m 0)), (1, iv (((b : Nat) : Int))), (2, iv (((0 : Nat) : Int))), (3, iv (so)), (4, iv (if r44 = true then 1 else 0))]) [1, 2, 3, 4, 0] rfl ?_
                                        exact ih228 so r44 ch44 tb20 cr20 un20 (by omega) (hs2) (fun z => ⟨(hnx.1 z).1, fun y t ht hl => hv2 y t ht ((hnx.1 z).2 t ht hl)⟩) (fun y z t ht => hv2 y t ht (hnx.2.1 z t ht)) (by rw [if_pos hmo] at hmu228; omega)
                                      · skip
                                        obtain ⟨q0, hq1, hq2⟩ : ∃ q, crnO fs1 cs1 cn1 chx = some (q, un20) ∧ ∀ j, j < fs1 → cr20 j = q j := by rcases hmeets20 with z | z; exact z.2; exact absurd (c_16.symm.trans z.1) (by decide)
                                        have hq3 := crn_bnd2 hn5 hsk.1 hchx hq1
                                        refine g_aload_n F 0 rfl rfl dX7_isWay_244 ?_
                                        refine g_callV F (As := []) (rest := []) (wr := wMP cA m (m_kd) (m_lo) (m_hi) (m_co) (m_pa) (m_rk) (m_nu) (m_ct) (m_sa)) (kX7_keepsAll l D cA m m_nc m_nr m_ke m_so m_bu m_bc m_pu m_qu fs1 cd1 un20 m_hb m_pf m_ef fr1 cs1 cn1 ck1 chx tb20 cr20 (hn5) (hK20) (hsk.1) (hsk.2) (fun j hj => by rw [hq2 j hj]; exact Nat.le_trans (hq3.2.2 j hj) (by decide)) (⟨hq3.1, hq3.2.1⟩)) (cwV 0 F.2.2.2.2.1 gX7_isWay_X7_keepsAll rfl rfl rfl (by decide +kernel) ⟨Nat.le_of_ble_eq_true rfl, Nat.le_of_ble_eq_true rfl⟩) rfl rfl (q0 := 0) rfl [0, 10, 11, 12, 13, 14, 15, 16] [1, 2, 3, 4, 5, 6, 7, 8, 9] rfl rfl (by decide) (by decide) (by decide) rfl rfl (Nat.le_of_ble_eq_true rfl) ⟨Nat.le_of_ble_eq_true rfl, Nat.le_of_ble_eq_true rfl⟩ hA dX7_isWay_245 (fun v w hv => ?_)
                                        obtain ⟨r27, hkeeps27, hv, hw⟩ := hv
                                        subst hv
                                        subst hw
                                        refine g_wsub (wMO cA m (((m_nc : Nat) : Int)) (((m_nr : Nat) : Int)) (m_ke) (m_so) (m_bu) (m_bc) (m_pu) (m_qu) (((fs1 : Nat) : Int)) (((cd1 : Nat) : Int)) (un20) (m_hb) (m_pf) (m_ef) ++ wMP cA m (m_kd) (m_lo) (m_hi) (m_co) (m_pa) (m_rk) (m_nu) (m_ct) (m_sa) ++ wME cA m (fr1) (cs1) (cn1) (ck1) (chx) (tb20) (cr20)) [9, 0, 1, 2, 3, 4, 5, 6, 7, 8, 10, 11, 12, 13, 14, 15, 16] (by decide) rfl ?_
                                        refine g_eq (st' := [iv (if r27 = true then 1 else 0)]) rfl rfl rfl ?_
                                        refine g_ifb_eq F (tgt := 311) dX7_isWay_248 (by decide) (fun c_17 => ?_) (fun c_17 => ?_)
                                        · skip
                                          have hs2 := hs1
                                          have hv2 : so = 0 → ∀ t, chV fs1 cd1 t → (eqC fs1 t chx ∨ ltC fs1 t chx) → novC fs1 cd1 cs1 cn1 ck1 (negG m_co fr1 fs1) t := fun w0 t ht hh => by rcases hh with y | y; exact nov_not neg_cong hq1 hq2 (fun z => c_17 (hkeeps27.mpr z.1)) y; exact hlt w0 t ht y
                                          refine g_aload_n F 0 rfl rfl dX7_isWay_311 ?_
                                          refine g_callV F (As := []) (rest := []) (wr := wMP cA m (m_kd) (m_lo) (m_hi) (m_co) (m_pa) (m_rk) (m_nu) (m_ct) (m_sa)) (kX7_another l D cA m m_nc m_nr m_ke m_so m_bu m_bc m_pu m_qu fs1 cd1 un20 m_hb m_pf m_ef fr1 cs1 cn1 ck1 chx tb20 cr20 (hn5) (hK20) (hchx)) (cwV 0 F.2.2.2.2.1 gX7_isWay_X7_another rfl rfl rfl (by decide +kernel) ⟨Nat.le_of_ble_eq_true rfl, Nat.le_of_ble_eq_true rfl⟩) rfl rfl (q0 := 0) rfl [0, 10, 11, 12, 13, 14, 15, 16] [1, 2, 3, 4, 5, 6, 7, 8, 9] rfl rfl (by decide) (by decide) (by decide) rfl rfl (Nat.le_of_ble_eq_true rfl) ⟨Nat.le_of_ble_eq_true rfl, Nat.le_of_ble_eq_true rfl⟩ hA dX7_isWay_312 (fun v w hv => ?_)
                                          obtain ⟨r44, ch44, hano44, hv, hw⟩ := hv
                                          subst hv
                                          subst hw
                                          refine g_wsub (wMO cA m (((m_nc : Nat) : Int)) (((m_nr : Nat) : Int)) (m_ke) (m_so) (m_bu) (m_bc) (m_pu) (m_qu) (((fs1 : Nat) : Int)) (((cd1 : Nat) : Int)) (un20) (m_hb) (m_pf) (m_ef) ++ wMP cA m (m_kd) (m_lo) (m_hi) (m_co) (m_pa) (m_rk) (m_nu) (m_ct) (m_sa) ++ wME cA m (fr1) (cs1) (cn1) (ck1) (ch44) (tb20) (cr20)) [9, 0, 1, 2, 3, 4, 5, 6, 7, 8, 10, 11, 12, 13, 14, 15, 16] (by decide) rfl ?_
                                          refine g_eq (st' := [iv (if r44 = true then 1 else 0)]) rfl rfl rfl ?_
                                          have hnx := an_next hn5 hK20 hchx hano44
                                          refine g_istore F ([(4, iv (if r44 = true then 1 else 0)), (0, .ref (m 0)), (1, iv (((b : Nat) : Int))), (2, iv (((0 : Nat) : Int))), (3, iv (so))]) rfl (by decide) dX7_isWay_315 ?_
                                          refine g_goto F (tgt := 228) dX7_isWay_317 (by decide) ?_
                                          refine g_lsub ([(0, .ref (m 0)), (1, iv (((b : Nat) : Int))), (2, iv (((0 : Nat) : Int))), (3, iv (so)), (4, iv (if r44 = true then 1 else 0))]) [1, 2, 3, 4, 0] rfl ?_
                                          exact ih228 so r44 ch44 tb20 cr20 un20 (by omega) (hs2) (fun z => ⟨(hnx.1 z).1, fun y t ht hl => hv2 y t ht ((hnx.1 z).2 t ht hl)⟩) (fun y z t ht => hv2 y t ht (hnx.2.1 z t ht)) (by rw [if_pos hmo] at hmu228; omega)
                                        · skip
                                          have hpl := hkeeps27.mp (by assumption)
                                          refine g_lconst F (z := 0) dX7_isWay_251 (by decide) ?_
                                          refine g_lstore F ([(5, jv (0)), (0, .ref (m 0)), (1, iv (((b : Nat) : Int))), (2, iv (((0 : Nat) : Int))), (3, iv (so)), (4, iv (if mo = true then 1 else 0))]) rfl (by decide) dX7_isWay_252 ?_
                                          refine g_iconst F dX7_isWay_254 ?_
                                          refine g_istore F ([(7, iv (0)), (5, jv (0)), (0, .ref (m 0)), (1, iv (((b : Nat) : Int))), (2, iv (((0 : Nat) : Int))), (3, iv (so)), (4, iv (if mo = true then 1 else 0))]) rfl (by decide) dX7_isWay_255 ?_
                                          have lp257 : ∀ (n : Nat) (j : Nat) (x : Int) (hj : j ≤ fs1) (hx : x = sumZ (fun j => m_co (frN fr1 j) * cr20 j) j), fs1 - j < n → GW p_ l e_ (headSpec wsX7_isWay ({ frames := 2, cells := 0, slots := 0, locals := 58 })).room s_ m_ ([.ref (m 0), iv (((b : Nat) : Int))]).toArray b_ me_ c_ (MQ b_ (Qm D (fun ov ow => ∃ (so : Int) (fr : Nat → Int) (fs : Nat) (cs : Nat → Int) (cn : Nat → Int) (ck : Nat → Int) (cd : Nat) (ch : Nat → Int) (tb : Nat → Int) (cr : Nat → Int) (un : Int), ((so = 0 ∨ so = 1) ∧ wlP m_nc m_nr fs cd b m_rk m_ct m_sa fr cs cn ck ∧ (so = 1 → hasC fs cd cs cn ck (negG m_co fr fs)) ∧ (so = 0 → ∀ t, chV fs cd t → novC fs cd cs cn ck (negG m_co fr fs) t)) ∧ ov = some (iv (so)) ∧ ow = wMO cA m (((m_nc : Nat) : Int)) (((m_nr : Nat) : Int)) (m_ke) (m_so) (m_bu) (m_bc) (m_pu) (m_qu) (((fs : Nat) : Int)) (((cd : Nat) : Int)) (un) (m_hb) (m_pf) (m_ef) ++ wMP cA m (m_kd) (m_lo) (m_hi) (m_co) (m_pa) (m_rk) (m_nu) (m_ct) (m_sa) ++ wME cA m (fr) (cs) (cn) (ck) (ch) (tb) (cr)) A) ([.ref (m 0), iv (((b : Nat) : Int))]).toArray s_ 0 0 A) (IM D s_ A) 8 0 0 (wMO cA m (((m_nc : Nat) : Int)) (((m_nr : Nat) : Int)) (m_ke) (m_so) (m_bu) (m_bc) (m_pu) (m_qu) (((fs1 : Nat) : Int)) (((cd1 : Nat) : Int)) (un20) (m_hb) (m_pf) (m_ef) ++ wMP cA m (m_kd) (m_lo) (m_hi) (m_co) (m_pa) (m_rk) (m_nu) (m_ct) (m_sa) ++ wME cA m (fr1) (cs1) (cn1) (ck1) (chx) (tb20) (cr20)) ([(0, .ref (m 0)), (1, iv (((b : Nat) : Int))), (2, iv (((0 : Nat) : Int))), (3, iv (so)), (4, iv (if mo = true then 1 else 0)), (5, jv (x)), (7, iv (((j : Nat) : Int)))]) [] 257 := by
                                            intro n; induction n with
                                            | zero => intro j x; intros; omega
                                            | succ n ih257 =>
                                              intro j x hj hx hmu257
                                              refine g_iload F 6 rfl dX7_isWay_257 ?_
                                              refine g_aload_n F 0 rfl rfl dX7_isWay_259 ?_
                                              refine g_get F hV iX7 0 rfl rfl 21 (by decide) (List.mem_of_getElem? (i := 1) rfl) rfl dX7_isWay_260 ?_
                                              refine g_icmp_ge F (tgt := 298) dX7_isWay_263 (by decide) ⟨by omega, by omega⟩ ⟨by omega, by omega⟩ (fun c_18 => ?_) (fun c_18 => ?_)
                                              · skip
                                                have hxe : x = sumZ (fun j => m_co (frN fr1 j) * cr20 j) fs1 := by rw [hx, show j = fs1 by omega]
                                                have hxb : x.natAbs ≤ fs1 * (9 * 1574640000) := by rw [hxe]; exact sum_lt fs1 (fun j hj => mul_nat (by have := hco (frN fr1 j); omega) (by rw [hq2 j hj]; exact hq3.2.2 j hj))
                                                have hx5 : fs1 * (9 * 1574640000) ≤ 5 * (9 * 1574640000) := Nat.mul_le_mul_right _ hn5
                                                refine g_lload F 5 rfl dX7_isWay_298 ?_
                                                refine g_lconst F (z := 0) dX7_isWay_300 (by decide) ?_
                                                refine g_lcmp_ge F (tgt := 309) dX7_isWay_301 dX7_isWay_302 (by decide) ⟨by omega, by omega⟩ ⟨by decide, by decide⟩ (fun c_19 => ?_) (fun c_19 => ?_)
                                                · skip
                                                  have hs2 : (0 : Int) = 1 → hasC fs1 cd1 cs1 cn1 ck1 (negG m_co fr1 fs1) := fun z => absurd z (by decide)
                                                  have hv2 : (0 : Int) = 0 → ∀ t, chV fs1 cd1 t → (eqC fs1 t chx ∨ ltC fs1 t chx) → novC fs1 cd1 cs1 cn1 ck1 (negG m_co fr1 fs1) t := fun _ t ht hh => by rcases hh with y | y; exact nov_not neg_cong hq1 hq2 (fun z => absurd (show sumZ _ fs1 < 0 from z.2) (by rw [← hxe]; omega)) y; exact hlt (by omega) t ht y
                                                  refine g_iconst F dX7_isWay_309 ?_
                                                  refine g_istore_n F ([(3, iv (0)), (0, .ref (m 0)), (1, iv (((b : Nat) : Int))), (2, iv (((0 : Nat) : Int))), (4, iv (if mo = true then 1 else 0)), (5, jv (x)), (7, iv (((j : Nat) : Int)))]) rfl rfl (by decide) dX7_isWay_310 ?_
                                                  refine g_aload_n F 1 rfl rfl dX7_isWay_311 ?_
                                                  refine g_callV F (As := []) (rest := []) (wr := wMP cA m (m_kd) (m_lo) (m_hi) (m_co) (m_pa) (m_rk) (m_nu) (m_ct) (m_sa)) (kX7_another l D cA m m_nc m_nr m_ke m_so m_bu m_bc m_pu m_qu fs1 cd1 un20 m_hb m_pf m_ef fr1 cs1 cn1 ck1 chx tb20 cr20 (hn5) (hK20) (hchx)) (cwV 0 F.2.2.2.2.1 gX7_isWay_X7_another rfl rfl rfl (by decide +kernel) ⟨Nat.le_of_ble_eq_true rfl, Nat.le_of_ble_eq_true rfl⟩) rfl rfl (q0 := 0) rfl [0, 10, 11, 12, 13, 14, 15, 16] [1, 2, 3, 4, 5, 6, 7, 8, 9] rfl rfl (by decide) (by decide) (by decide) rfl rfl (Nat.le_of_ble_eq_true rfl) ⟨Nat.le_of_ble_eq_true rfl, Nat.le_of_ble_eq_true rfl⟩ hA dX7_isWay_312 (fun v w hv => ?_)
                                                  obtain ⟨r44, ch44, hano44, hv, hw⟩ := hv
                                                  subst hv
                                                  subst hw
                                                  refine g_wsub (wMO cA m (((m_nc : Nat) : Int)) (((m_nr : Nat) : Int)) (m_ke) (m_so) (m_bu) (m_bc) (m_pu) (m_qu) (((fs1 : Nat) : Int)) (((cd1 : Nat) : Int)) (un20) (m_hb) (m_pf) (m_ef) ++ wMP cA m (m_kd) (m_lo) (m_hi) (m_co) (m_pa) (m_rk) (m_nu) (m_ct) (m_sa) ++ wME cA m (fr1) (cs1) (cn1) (ck1) (ch44) (tb20) (cr20)) [9, 0, 1, 2, 3, 4, 5, 6, 7, 8, 10, 11, 12, 13, 14, 15, 16] (by decide) rfl ?_
                                                  refine g_eq (st' := [iv (if r44 = true then 1 else 0)]) rfl rfl rfl ?_
                                                  have hnx := an_next hn5 hK20 hchx hano44
                                                  refine g_istore F ([(4, iv (if r44 = true then 1 else 0)), (3, iv (0)), (0, .ref (m 0)), (1, iv (((b : Nat) : Int))), (2, iv (((0 : Nat) : Int))), (5, jv (x)), (7, iv (((j : Nat) : Int)))]) rfl (by decide) dX7_isWay_315 ?_
                                                  refine g_goto F (tgt := 228) dX7_isWay_317 (by decide) ?_
                                                  refine g_lsub ([(0, .ref (m 0)), (1, iv (((b : Nat) : Int))), (2, iv (((0 : Nat) : Int))), (3, iv (0)), (4, iv (if r44 = true then 1 else 0))]) [2, 3, 4, 1, 0] rfl ?_
                                                  exact ih228 0 r44 ch44 tb20 cr20 un20 (by omega) (hs2) (fun z => ⟨(hnx.1 z).1, fun y t ht hl => hv2 y t ht ((hnx.1 z).2 t ht hl)⟩) (fun y z t ht => hv2 y t ht (hnx.2.1 z t ht)) (by rw [if_pos hmo] at hmu228; omega)
                                                · skip
                                                  have hs2 : (1 : Int) = 1 → hasC fs1 cd1 cs1 cn1 ck1 (negG m_co fr1 fs1) := fun _ => has_one neg_cong hchx hq3.1 hq1 hq2 hpl (show sumZ _ fs1 < 0 from by rw [← hxe]; omega)
                                                  have hv2 : (1 : Int) = 0 → ∀ t, chV fs1 cd1 t → (eqC fs1 t chx ∨ ltC fs1 t chx) → novC fs1 cd1 cs1 cn1 ck1 (negG m_co fr1 fs1) t := fun z => absurd z (by decide)
                                                  refine g_iconst F dX7_isWay_305 ?_
                                                  refine g_goto F (tgt := 310) dX7_isWay_306 (by decide) ?_
                                                  refine g_istore_n F ([(3, iv (1)), (0, .ref (m 0)), (1, iv (((b : Nat) : Int))), (2, iv (((0 : Nat) : Int))), (4, iv (if mo = true then 1 else 0)), (5, jv (x)), (7, iv (((j : Nat) : Int)))]) rfl rfl (by decide) dX7_isWay_310 ?_
                                                  refine g_aload_n F 1 rfl rfl dX7_isWay_311 ?_
                                                  refine g_callV F (As := []) (rest := []) (wr := wMP cA m (m_kd) (m_lo) (m_hi) (m_co) (m_pa) (m_rk) (m_nu) (m_ct) (m_sa)) (kX7_another l D cA m m_nc m_nr m_ke m_so m_bu m_bc m_pu m_qu fs1 cd1 un20 m_hb m_pf m_ef fr1 cs1 cn1 ck1 chx tb20 cr20 (hn5) (hK20) (hchx)) (cwV 0 F.2.2.2.2.1 gX7_isWay_X7_another rfl rfl rfl (by decide +kernel) ⟨Nat.le_of_ble_eq_true rfl, Nat.le_of_ble_eq_true rfl⟩) rfl rfl (q0 := 0) rfl [0, 10, 11, 12, 13, 14, 15, 16] [1, 2, 3, 4, 5, 6, 7, 8, 9] rfl rfl (by decide) (by decide) (by decide) rfl rfl (Nat.le_of_ble_eq_true rfl) ⟨Nat.le_of_ble_eq_true rfl, Nat.le_of_ble_eq_true rfl⟩ hA dX7_isWay_312 (fun v w hv => ?_)
                                                  obtain ⟨r44, ch44, hano44, hv, hw⟩ := hv
                                                  subst hv
                                                  subst hw
                                                  refine g_wsub (wMO cA m (((m_nc : Nat) : Int)) (((m_nr : Nat) : Int)) (m_ke) (m_so) (m_bu) (m_bc) (m_pu) (m_qu) (((fs1 : Nat) : Int)) (((cd1 : Nat) : Int)) (un20) (m_hb) (m_pf) (m_ef) ++ wMP cA m (m_kd) (m_lo) (m_hi) (m_co) (m_pa) (m_rk) (m_nu) (m_ct) (m_sa) ++ wME cA m (fr1) (cs1) (cn1) (ck1) (ch44) (tb20) (cr20)) [9, 0, 1, 2, 3, 4, 5, 6, 7, 8, 10, 11, 12, 13, 14, 15, 16] (by decide) rfl ?_
                                                  refine g_eq (st' := [iv (if r44 = true then 1 else 0)]) rfl rfl rfl ?_
                                                  have hnx := an_next hn5 hK20 hchx hano44
                                                  refine g_istore F ([(4, iv (if r44 = true then 1 else 0)), (3, iv (1)), (0, .ref (m 0)), (1, iv (((b : Nat) : Int))), (2, iv (((0 : Nat) : Int))), (5, jv (x)), (7, iv (((j : Nat) : Int)))]) rfl (by decide) dX7_isWay_315 ?_
                                                  refine g_goto F (tgt := 228) dX7_isWay_317 (by decide) ?_
                                                  refine g_lsub ([(0, .ref (m 0)), (1, iv (((b : Nat) : Int))), (2, iv (((0 : Nat) : Int))), (3, iv (1)), (4, iv (if r44 = true then 1 else 0))]) [2, 3, 4, 1, 0] rfl ?_
                                                  exact ih228 1 r44 ch44 tb20 cr20 un20 (by omega) (hs2) (fun z => ⟨(hnx.1 z).1, fun y t ht hl => hv2 y t ht ((hnx.1 z).2 t ht hl)⟩) (fun y z t ht => hv2 y t ht (hnx.2.1 z t ht)) (by rw [if_pos hmo] at hmu228; omega)
                                              · skip
                                                have hf9 := hg.2 j (by omega)
                                                refine g_lload F 5 rfl dX7_isWay_266 ?_
                                                refine g_aload_n F 0 rfl rfl dX7_isWay_268 ?_
                                                refine g_get F hV iX7 0 rfl rfl 4 (by decide) (List.mem_of_getElem? (i := 10) rfl) rfl dX7_isWay_269 ?_
                                                refine g_aload_n F 0 rfl rfl dX7_isWay_272 ?_
                                                refine g_get F hV iX7 0 rfl rfl 20 (by decide) (List.mem_of_getElem? (i := 3) rfl) rfl dX7_isWay_273 ?_
                                                refine g_iload F 6 rfl dX7_isWay_276 ?_
                                                refine g_iald F hV 10 rfl (j) (by omega) (by omega) (by decide) dX7_isWay_278 ?_
                                                have r_20 := hco ((fr1 j).toNat)
                                                refine g_iald F hV 4 rfl ((fr1 j).toNat) (by omega) (by omega) (by decide) dX7_isWay_279 ?_
                                                refine g_i2l F ⟨by omega, by omega⟩ dX7_isWay_280 ?_
                                                refine g_aload_n F 0 rfl rfl dX7_isWay_281 ?_
                                                refine g_get F hV iX7 0 rfl rfl 28 (by decide) (List.mem_of_getElem? (i := 11) rfl) rfl dX7_isWay_282 ?_
                                                refine g_iload F 6 rfl dX7_isWay_285 ?_
                                                refine g_lald F hV 16 rfl (j) (by omega) (by omega) (by decide) dX7_isWay_287 ?_
                                                refine g_lmul F dX7_isWay_288 ?_
                                                refine g_ladd F dX7_isWay_289 ?_
                                                refine g_lstore F ([(5, jv (x + ((m_co ((fr1 j).toNat)) * (cr20 j)))), (0, .ref (m 0)), (1, iv (((b : Nat) : Int))), (2, iv (((0 : Nat) : Int))), (3, iv (so)), (4, iv (if mo = true then 1 else 0)), (7, iv (((j : Nat) : Int)))]) rfl (by decide) dX7_isWay_290 ?_
                                                refine g_iinc F 6 rfl ([(7, iv ((((j : Nat) : Int)) + 1)), (5, jv (x + ((m_co ((fr1 j).toNat)) * (cr20 j)))), (0, .ref (m 0)), (1, iv (((b : Nat) : Int))), (2, iv (((0 : Nat) : Int))), (3, iv (so)), (4, iv (if mo = true then 1 else 0))]) rfl (by decide) dX7_isWay_292 ?_
                                                refine g_goto F (tgt := 257) dX7_isWay_295 (by decide) ?_
                                                refine g_lsub ([(0, .ref (m 0)), (1, iv (((b : Nat) : Int))), (2, iv (((0 : Nat) : Int))), (3, iv (so)), (4, iv (if mo = true then 1 else 0)), (5, jv (x + ((m_co ((fr1 j).toNat)) * (cr20 j)))), (7, iv ((((j : Nat) : Int)) + 1))]) [2, 3, 4, 5, 6, 1, 0] rfl ?_
                                                exact ih257 (j + 1) (x + ((m_co ((fr1 j).toNat)) * (cr20 j))) (by omega) (by rw [hx]; rfl) (by omega)
                                          refine g_lsub ([(0, .ref (m 0)), (1, iv (((b : Nat) : Int))), (2, iv (((0 : Nat) : Int))), (3, iv (so)), (4, iv (if mo = true then 1 else 0)), (5, jv (0)), (7, iv (0))]) [2, 3, 4, 5, 6, 1, 0] rfl ?_
                                          exact lp257 (_ + 1) 0 0 (by omega) (rfl) (Nat.lt_succ_self _)
                              refine g_lsub ([(0, .ref (m 0)), (1, iv (((b : Nat) : Int))), (2, iv (((0 : Nat) : Int))), (3, iv (0)), (4, iv (if false = true then 1 else 0))]) [2, 3, 4, 1, 0] rfl ?_
                              exact lp228 (_ + 1) 0 false (mixZ (fun q => (q : Int)) m_ch fs1) m_tb m_cr m_un (Or.inl rfl) (fun z => absurd z (by decide)) (fun z => absurd z (by decide)) (fun _ _ t ht => by first | exact absurd (ch_size ht) (by assumption) | (intro q u _ _ hq; have e0 : fs1 = 0 := (by omega); rw [e0] at hq; exact absurd (show (0 : Int) < 0 from hq) (by decide))) (Nat.lt_succ_self _)
                            · skip
                              refine g_iconst F dX7_isWay_221 ?_
                              refine g_goto F (tgt := 226) dX7_isWay_222 (by decide) ?_
                              refine g_eq (st' := [iv (if true = true then 1 else 0)]) rfl rfl (congrArg (fun zz => [iv zz]) (show (1 : Int) = if true = true then 1 else 0 from rfl)) ?_
                              refine g_istore F ([(4, iv (if true = true then 1 else 0)), (3, iv (0)), (0, .ref (m 0)), (1, iv (((b : Nat) : Int))), (2, iv (((0 : Nat) : Int)))]) rfl (by decide) dX7_isWay_226 ?_
                              have lp228 : ∀ (n : Nat) (so : Int) (mo : Bool) (chx : Nat → Int) (tbx : Nat → Int) (crx : Nat → Int) (unx : Int) (hso : so = 0 ∨ so = 1) (hs1 : so = 1 → hasC fs1 cd1 cs1 cn1 ck1 (negG m_co fr1 fs1)) (hmt : mo = true → chV fs1 cd1 chx ∧ (so = 0 → ∀ t, chV fs1 cd1 t → ltC fs1 t chx → novC fs1 cd1 cs1 cn1 ck1 (negG m_co fr1 fs1) t)) (hmf : so = 0 → mo = false → ∀ t, chV fs1 cd1 t → novC fs1 cd1 cs1 cn1 ck1 (negG m_co fr1 fs1) t), (if mo = true then muC fs1 chx + 1 else 0) < n → GW p_ l e_ (headSpec wsX7_isWay ({ frames := 2, cells := 0, slots := 0, locals := 58 })).room s_ m_ ([.ref (m 0), iv (((b : Nat) : Int))]).toArray b_ me_ c_ (MQ b_ (Qm D (fun ov ow => ∃ (so : Int) (fr : Nat → Int) (fs : Nat) (cs : Nat → Int) (cn : Nat → Int) (ck : Nat → Int) (cd : Nat) (ch : Nat → Int) (tb : Nat → Int) (cr : Nat → Int) (un : Int), ((so = 0 ∨ so = 1) ∧ wlP m_nc m_nr fs cd b m_rk m_ct m_sa fr cs cn ck ∧ (so = 1 → hasC fs cd cs cn ck (negG m_co fr fs)) ∧ (so = 0 → ∀ t, chV fs cd t → novC fs cd cs cn ck (negG m_co fr fs) t)) ∧ ov = some (iv (so)) ∧ ow = wMO cA m (((m_nc : Nat) : Int)) (((m_nr : Nat) : Int)) (m_ke) (m_so) (m_bu) (m_bc) (m_pu) (m_qu) (((fs : Nat) : Int)) (((cd : Nat) : Int)) (un) (m_hb) (m_pf) (m_ef) ++ wMP cA m (m_kd) (m_lo) (m_hi) (m_co) (m_pa) (m_rk) (m_nu) (m_ct) (m_sa) ++ wME cA m (fr) (cs) (cn) (ck) (ch) (tb) (cr)) A) ([.ref (m 0), iv (((b : Nat) : Int))]).toArray s_ 0 0 A) (IM D s_ A) 8 0 0 (wMO cA m (((m_nc : Nat) : Int)) (((m_nr : Nat) : Int)) (m_ke) (m_so) (m_bu) (m_bc) (m_pu) (m_qu) (((fs1 : Nat) : Int)) (((cd1 : Nat) : Int)) (unx) (m_hb) (m_pf) (m_ef) ++ wMP cA m (m_kd) (m_lo) (m_hi) (m_co) (m_pa) (m_rk) (m_nu) (m_ct) (m_sa) ++ wME cA m (fr1) (cs1) (cn1) (ck1) (chx) (tbx) (crx)) ([(0, .ref (m 0)), (1, iv (((b : Nat) : Int))), (2, iv (((0 : Nat) : Int))), (3, iv (so)), (4, iv (if mo = true then 1 else 0))]) [] 228 := by
                                intro n; induction n with
                                | zero => intro so mo chx tbx crx unx; intros; omega
                                | succ n ih228 =>
                                  intro so mo chx tbx crx unx hso hs1 hmt hmf hmu228
                                  refine g_iload F 4 rfl dX7_isWay_228 ?_
                                  refine g_ifb_eq F (tgt := 320) dX7_isWay_230 (by decide) (fun c_21 => ?_) (fun c_21 => ?_)
                                  · skip
                                    refine g_iload_n F 3 rfl rfl dX7_isWay_320 ?_
                                    exact g_zret F rfl (nar_01 (by omega)) (by decide) (by decide) ⟨so, fr1, fs1, cs1, cn1, ck1, cd1, chx, tbx, crx, unx, ⟨hso, hlay, hs1, fun z => by first | exact hmf z (Bool.eq_false_iff.mpr (by assumption)) | (exfalso; omega)⟩, congrArg (fun z => some (iv z)) (show (so : Int) = so by rfl), rfl⟩ dX7_isWay_321
                                  · skip
                                    have hmo : mo = true := by assumption
                                    obtain ⟨hchx, hlt⟩ := hmt hmo
                                    refine g_iload_n F 3 rfl rfl dX7_isWay_233 ?_
                                    refine g_if_ne F (tgt := 320) dX7_isWay_234 (by decide) ⟨by omega, by omega⟩ (fun c_22 => ?_) (fun c_22 => ?_)
                                    · skip
                                      refine g_iload_n F 3 rfl rfl dX7_isWay_320 ?_
                                      exact g_zret F rfl (nar_01 (by omega)) (by decide) (by decide) ⟨so, fr1, fs1, cs1, cn1, ck1, cd1, chx, tbx, crx, unx, ⟨hso, hlay, hs1, fun z => by first | exact hmf z (Bool.eq_false_iff.mpr (by assumption)) | (exfalso; omega)⟩, congrArg (fun z => some (iv z)) (show (so : Int) = so by rfl), rfl⟩ dX7_isWay_321
                                    · skip
                                      refine g_aload_n F 0 rfl rfl dX7_isWay_237 ?_
                                      refine g_callV F (As := []) (rest := []) (wr := wMP cA m (m_kd) (m_lo) (m_hi) (m_co) (m_pa) (m_rk) (m_nu) (m_ct) (m_sa)) (kX7_meets l D cA m m_nc m_nr m_ke m_so m_bu m_bc m_pu m_qu fs1 cd1 unx m_hb m_pf m_ef fr1 cs1 cn1 ck1 chx tbx crx (hn5) (hK20) (hchx) (hsk.1)) (cwV 0 F.2.2.2.2.1 gX7_isWay_X7_meets rfl rfl rfl (by decide +kernel) ⟨Nat.le_of_ble_eq_true rfl, Nat.le_of_ble_eq_true rfl⟩) rfl rfl (q0 := 0) rfl [0, 10, 11, 12, 13, 14, 15, 16] [1, 2, 3, 4, 5, 6, 7, 8, 9] rfl rfl (by decide) (by decide) (by decide) rfl rfl (Nat.le_of_ble_eq_true rfl) ⟨Nat.le_of_ble_eq_true rfl, Nat.le_of_ble_eq_true rfl⟩ hA dX7_isWay_238 (fun v w hv => ?_)
                                      obtain ⟨r20, tb20, cr20, un20, hmeets20, hv, hw⟩ := hv
                                      subst hv
                                      subst hw
                                      refine g_wsub (wMO cA m (((m_nc : Nat) : Int)) (((m_nr : Nat) : Int)) (m_ke) (m_so) (m_bu) (m_bc) (m_pu) (m_qu) (((fs1 : Nat) : Int)) (((cd1 : Nat) : Int)) (un20) (m_hb) (m_pf) (m_ef) ++ wMP cA m (m_kd) (m_lo) (m_hi) (m_co) (m_pa) (m_rk) (m_nu) (m_ct) (m_sa) ++ wME cA m (fr1) (cs1) (cn1) (ck1) (chx) (tb20) (cr20)) [9, 0, 1, 2, 3, 4, 5, 6, 7, 8, 10, 11, 12, 13, 14, 15, 16] (by decide) rfl ?_
                                      refine g_eq (st' := [iv (if r20 = true then 1 else 0)]) rfl rfl rfl ?_
                                      refine g_ifb_eq F (tgt := 311) dX7_isWay_241 (by decide) (fun c_23 => ?_) (fun c_23 => ?_)
                                      · skip
                                        have hs2 := hs1
                                        have hv2 : so = 0 → ∀ t, chV fs1 cd1 t → (eqC fs1 t chx ∨ ltC fs1 t chx) → novC fs1 cd1 cs1 cn1 ck1 (negG m_co fr1 fs1) t := fun w0 t ht hh => by rcases hh with y | y; exact nov_none (by rcases hmeets20 with z | z; exact absurd z.1 c_23; exact z.2) y; exact hlt w0 t ht y
                                        refine g_aload_n F 0 rfl rfl dX7_isWay_311 ?_
                                        refine g_callV F (As := []) (rest := []) (wr := wMP cA m (m_kd) (m_lo) (m_hi) (m_co) (m_pa) (m_rk) (m_nu) (m_ct) (m_sa)) (kX7_another l D cA m m_nc m_nr m_ke m_so m_bu m_bc m_pu m_qu fs1 cd1 un20 m_hb m_pf m_ef fr1 cs1 cn1 ck1 chx tb20 cr20 (hn5) (hK20) (hchx)) (cwV 0 F.2.2.2.2.1 gX7_isWay_X7_another rfl rfl rfl (by decide +kernel) ⟨Nat.le_of_ble_eq_true rfl, Nat.le_of_ble_eq_true rfl⟩) rfl rfl (q0 := 0) rfl [0, 10, 11, 12, 13, 14, 15, 16] [1, 2, 3, 4, 5, 6, 7, 8, 9] rfl rfl (by decide) (by decide) (by decide) rfl rfl (Nat.le_of_ble_eq_true rfl) ⟨Nat.le_of_ble_eq_true rfl, Nat.le_of_ble_eq_true rfl⟩ hA dX7_isWay_312 (fun v w hv => ?_)
                                        obtain ⟨r44, ch44, hano44, hv, hw⟩ := hv
                                        subst hv
                                        subst hw
                                        refine g_wsub (wMO cA m (((m_nc : Nat) : Int)) (((m_nr : Nat) : Int)) (m_ke) (m_so) (m_bu) (m_bc) (m_pu) (m_qu) (((fs1 : Nat) : Int)) (((cd1 : Nat) : Int)) (un20) (m_hb) (m_pf) (m_ef) ++ wMP cA m (m_kd) (m_lo) (m_hi) (m_co) (m_pa) (m_rk) (m_nu) (m_ct) (m_sa) ++ wME cA m (fr1) (cs1) (cn1) (ck1) (ch44) (tb20) (cr20)) [9, 0, 1, 2, 3, 4, 5, 6, 7, 8, 10, 11, 12, 13, 14, 15, 16] (by decide) rfl ?_
                                        refine g_eq (st' := [iv (if r44 = true then 1 else 0)]) rfl rfl rfl ?_
                                        have hnx := an_next hn5 hK20 hchx hano44
                                        refine g_istore F ([(4, iv (if r44 = true then 1 else 0)), (0, .ref (m 0)), (1, iv (((b : Nat) : Int))), (2, iv (((0 : Nat) : Int))), (3, iv (so))]) rfl (by decide) dX7_isWay_315 ?_
                                        refine g_goto F (tgt := 228) dX7_isWay_317 (by decide) ?_
                                        refine g_lsub ([(0, .ref (m 0)), (1, iv (((b : Nat) : Int))), (2, iv (((0 : Nat) : Int))), (3, iv (so)), (4, iv (if r44 = true then 1 else 0))]) [1, 2, 3, 4, 0] rfl ?_
                                        exact ih228 so r44 ch44 tb20 cr20 un20 (by omega) (hs2) (fun z => ⟨(hnx.1 z).1, fun y t ht hl => hv2 y t ht ((hnx.1 z).2 t ht hl)⟩) (fun y z t ht => hv2 y t ht (hnx.2.1 z t ht)) (by rw [if_pos hmo] at hmu228; omega)
                                      · skip
                                        obtain ⟨q0, hq1, hq2⟩ : ∃ q, crnO fs1 cs1 cn1 chx = some (q, un20) ∧ ∀ j, j < fs1 → cr20 j = q j := by rcases hmeets20 with z | z; exact z.2; exact absurd (c_23.symm.trans z.1) (by decide)
                                        have hq3 := crn_bnd2 hn5 hsk.1 hchx hq1
                                        refine g_aload_n F 0 rfl rfl dX7_isWay_244 ?_
                                        refine g_callV F (As := []) (rest := []) (wr := wMP cA m (m_kd) (m_lo) (m_hi) (m_co) (m_pa) (m_rk) (m_nu) (m_ct) (m_sa)) (kX7_keepsAll l D cA m m_nc m_nr m_ke m_so m_bu m_bc m_pu m_qu fs1 cd1 un20 m_hb m_pf m_ef fr1 cs1 cn1 ck1 chx tb20 cr20 (hn5) (hK20) (hsk.1) (hsk.2) (fun j hj => by rw [hq2 j hj]; exact Nat.le_trans (hq3.2.2 j hj) (by decide)) (⟨hq3.1, hq3.2.1⟩)) (cwV 0 F.2.2.2.2.1 gX7_isWay_X7_keepsAll rfl rfl rfl (by decide +kernel) ⟨Nat.le_of_ble_eq_true rfl, Nat.le_of_ble_eq_true rfl⟩) rfl rfl (q0 := 0) rfl [0, 10, 11, 12, 13, 14, 15, 16] [1, 2, 3, 4, 5, 6, 7, 8, 9] rfl rfl (by decide) (by decide) (by decide) rfl rfl (Nat.le_of_ble_eq_true rfl) ⟨Nat.le_of_ble_eq_true rfl, Nat.le_of_ble_eq_true rfl⟩ hA dX7_isWay_245 (fun v w hv => ?_)
                                        obtain ⟨r27, hkeeps27, hv, hw⟩ := hv
                                        subst hv
                                        subst hw
                                        refine g_wsub (wMO cA m (((m_nc : Nat) : Int)) (((m_nr : Nat) : Int)) (m_ke) (m_so) (m_bu) (m_bc) (m_pu) (m_qu) (((fs1 : Nat) : Int)) (((cd1 : Nat) : Int)) (un20) (m_hb) (m_pf) (m_ef) ++ wMP cA m (m_kd) (m_lo) (m_hi) (m_co) (m_pa) (m_rk) (m_nu) (m_ct) (m_sa) ++ wME cA m (fr1) (cs1) (cn1) (ck1) (chx) (tb20) (cr20)) [9, 0, 1, 2, 3, 4, 5, 6, 7, 8, 10, 11, 12, 13, 14, 15, 16] (by decide) rfl ?_
                                        refine g_eq (st' := [iv (if r27 = true then 1 else 0)]) rfl rfl rfl ?_
                                        refine g_ifb_eq F (tgt := 311) dX7_isWay_248 (by decide) (fun c_24 => ?_) (fun c_24 => ?_)
                                        · skip
                                          have hs2 := hs1
                                          have hv2 : so = 0 → ∀ t, chV fs1 cd1 t → (eqC fs1 t chx ∨ ltC fs1 t chx) → novC fs1 cd1 cs1 cn1 ck1 (negG m_co fr1 fs1) t := fun w0 t ht hh => by rcases hh with y | y; exact nov_not neg_cong hq1 hq2 (fun z => c_24 (hkeeps27.mpr z.1)) y; exact hlt w0 t ht y
                                          refine g_aload_n F 0 rfl rfl dX7_isWay_311 ?_
                                          refine g_callV F (As := []) (rest := []) (wr := wMP cA m (m_kd) (m_lo) (m_hi) (m_co) (m_pa) (m_rk) (m_nu) (m_ct) (m_sa)) (kX7_another l D cA m m_nc m_nr m_ke m_so m_bu m_bc m_pu m_qu fs1 cd1 un20 m_hb m_pf m_ef fr1 cs1 cn1 ck1 chx tb20 cr20 (hn5) (hK20) (hchx)) (cwV 0 F.2.2.2.2.1 gX7_isWay_X7_another rfl rfl rfl (by decide +kernel) ⟨Nat.le_of_ble_eq_true rfl, Nat.le_of_ble_eq_true rfl⟩) rfl rfl (q0 := 0) rfl [0, 10, 11, 12, 13, 14, 15, 16] [1, 2, 3, 4, 5, 6, 7, 8, 9] rfl rfl (by decide) (by decide) (by decide) rfl rfl (Nat.le_of_ble_eq_true rfl) ⟨Nat.le_of_ble_eq_true rfl, Nat.le_of_ble_eq_true rfl⟩ hA dX7_isWay_312 (fun v w hv => ?_)
                                          obtain ⟨r44, ch44, hano44, hv, hw⟩ := hv
                                          subst hv
                                          subst hw
                                          refine g_wsub (wMO cA m (((m_nc : Nat) : Int)) (((m_nr : Nat) : Int)) (m_ke) (m_so) (m_bu) (m_bc) (m_pu) (m_qu) (((fs1 : Nat) : Int)) (((cd1 : Nat) : Int)) (un20) (m_hb) (m_pf) (m_ef) ++ wMP cA m (m_kd) (m_lo) (m_hi) (m_co) (m_pa) (m_rk) (m_nu) (m_ct) (m_sa) ++ wME cA m (fr1) (cs1) (cn1) (ck1) (ch44) (tb20) (cr20)) [9, 0, 1, 2, 3, 4, 5, 6, 7, 8, 10, 11, 12, 13, 14, 15, 16] (by decide) rfl ?_
                                          refine g_eq (st' := [iv (if r44 = true then 1 else 0)]) rfl rfl rfl ?_
                                          have hnx := an_next hn5 hK20 hchx hano44
                                          refine g_istore F ([(4, iv (if r44 = true then 1 else 0)), (0, .ref (m 0)), (1, iv (((b : Nat) : Int))), (2, iv (((0 : Nat) : Int))), (3, iv (so))]) rfl (by decide) dX7_isWay_315 ?_
                                          refine g_goto F (tgt := 228) dX7_isWay_317 (by decide) ?_
                                          refine g_lsub ([(0, .ref (m 0)), (1, iv (((b : Nat) : Int))), (2, iv (((0 : Nat) : Int))), (3, iv (so)), (4, iv (if r44 = true then 1 else 0))]) [1, 2, 3, 4, 0] rfl ?_
                                          exact ih228 so r44 ch44 tb20 cr20 un20 (by omega) (hs2) (fun z => ⟨(hnx.1 z).1, fun y t ht hl => hv2 y t ht ((hnx.1 z).2 t ht hl)⟩) (fun y z t ht => hv2 y t ht (hnx.2.1 z t ht)) (by rw [if_pos hmo] at hmu228; omega)
                                        · skip
                                          have hpl := hkeeps27.mp (by assumption)
                                          refine g_lconst F (z := 0) dX7_isWay_251 (by decide) ?_
                                          refine g_lstore F ([(5, jv (0)), (0, .ref (m 0)), (1, iv (((b : Nat) : Int))), (2, iv (((0 : Nat) : Int))), (3, iv (so)), (4, iv (if mo = true then 1 else 0))]) rfl (by decide) dX7_isWay_252 ?_
                                          refine g_iconst F dX7_isWay_254 ?_
                                          refine g_istore F ([(7, iv (0)), (5, jv (0)), (0, .ref (m 0)), (1, iv (((b : Nat) : Int))), (2, iv (((0 : Nat) : Int))), (3, iv (so)), (4, iv (if mo = true then 1 else 0))]) rfl (by decide) dX7_isWay_255 ?_
                                          have lp257 : ∀ (n : Nat) (j : Nat) (x : Int) (hj : j ≤ fs1) (hx : x = sumZ (fun j => m_co (frN fr1 j) * cr20 j) j), fs1 - j < n → GW p_ l e_ (headSpec wsX7_isWay ({ frames := 2, cells := 0, slots := 0, locals := 58 })).room s_ m_ ([.ref (m 0), iv (((b : Nat) : Int))]).toArray b_ me_ c_ (MQ b_ (Qm D (fun ov ow => ∃ (so : Int) (fr : Nat → Int) (fs : Nat) (cs : Nat → Int) (cn : Nat → Int) (ck : Nat → Int) (cd : Nat) (ch : Nat → Int) (tb : Nat → Int) (cr : Nat → Int) (un : Int), ((so = 0 ∨ so = 1) ∧ wlP m_nc m_nr fs cd b m_rk m_ct m_sa fr cs cn ck ∧ (so = 1 → hasC fs cd cs cn ck (negG m_co fr fs)) ∧ (so = 0 → ∀ t, chV fs cd t → novC fs cd cs cn ck (negG m_co fr fs) t)) ∧ ov = some (iv (so)) ∧ ow = wMO cA m (((m_nc : Nat) : Int)) (((m_nr : Nat) : Int)) (m_ke) (m_so) (m_bu) (m_bc) (m_pu) (m_qu) (((fs : Nat) : Int)) (((cd : Nat) : Int)) (un) (m_hb) (m_pf) (m_ef) ++ wMP cA m (m_kd) (m_lo) (m_hi) (m_co) (m_pa) (m_rk) (m_nu) (m_ct) (m_sa) ++ wME cA m (fr) (cs) (cn) (ck) (ch) (tb) (cr)) A) ([.ref (m 0), iv (((b : Nat) : Int))]).toArray s_ 0 0 A) (IM D s_ A) 8 0 0 (wMO cA m (((m_nc : Nat) : Int)) (((m_nr : Nat) : Int)) (m_ke) (m_so) (m_bu) (m_bc) (m_pu) (m_qu) (((fs1 : Nat) : Int)) (((cd1 : Nat) : Int)) (un20) (m_hb) (m_pf) (m_ef) ++ wMP cA m (m_kd) (m_lo) (m_hi) (m_co) (m_pa) (m_rk) (m_nu) (m_ct) (m_sa) ++ wME cA m (fr1) (cs1) (cn1) (ck1) (chx) (tb20) (cr20)) ([(0, .ref (m 0)), (1, iv (((b : Nat) : Int))), (2, iv (((0 : Nat) : Int))), (3, iv (so)), (4, iv (if mo = true then 1 else 0)), (5, jv (x)), (7, iv (((j : Nat) : Int)))]) [] 257 := by
                                            intro n; induction n with
                                            | zero => intro j x; intros; omega
                                            | succ n ih257 =>
                                              intro j x hj hx hmu257
                                              refine g_iload F 6 rfl dX7_isWay_257 ?_
                                              refine g_aload_n F 0 rfl rfl dX7_isWay_259 ?_
                                              refine g_get F hV iX7 0 rfl rfl 21 (by decide) (List.mem_of_getElem? (i := 1) rfl) rfl dX7_isWay_260 ?_
                                              refine g_icmp_ge F (tgt := 298) dX7_isWay_263 (by decide) ⟨by omega, by omega⟩ ⟨by omega, by omega⟩ (fun c_25 => ?_) (fun c_25 => ?_)
                                              · skip
                                                have hxe : x = sumZ (fun j => m_co (frN fr1 j) * cr20 j) fs1 := by rw [hx, show j = fs1 by omega]
                                                have hxb : x.natAbs ≤ fs1 * (9 * 1574640000) := by rw [hxe]; exact sum_lt fs1 (fun j hj => mul_nat (by have := hco (frN fr1 j); omega) (by rw [hq2 j hj]; exact hq3.2.2 j hj))
                                                have hx5 : fs1 * (9 * 1574640000) ≤ 5 * (9 * 1574640000) := Nat.mul_le_mul_right _ hn5
                                                refine g_lload F 5 rfl dX7_isWay_298 ?_
                                                refine g_lconst F (z := 0) dX7_isWay_300 (by decide) ?_
                                                refine g_lcmp_ge F (tgt := 309) dX7_isWay_301 dX7_isWay_302 (by decide) ⟨by omega, by omega⟩ ⟨by decide, by decide⟩ (fun c_26 => ?_) (fun c_26 => ?_)
                                                · skip
                                                  have hs2 : (0 : Int) = 1 → hasC fs1 cd1 cs1 cn1 ck1 (negG m_co fr1 fs1) := fun z => absurd z (by decide)
                                                  have hv2 : (0 : Int) = 0 → ∀ t, chV fs1 cd1 t → (eqC fs1 t chx ∨ ltC fs1 t chx) → novC fs1 cd1 cs1 cn1 ck1 (negG m_co fr1 fs1) t := fun _ t ht hh => by rcases hh with y | y; exact nov_not neg_cong hq1 hq2 (fun z => absurd (show sumZ _ fs1 < 0 from z.2) (by rw [← hxe]; omega)) y; exact hlt (by omega) t ht y
                                                  refine g_iconst F dX7_isWay_309 ?_
                                                  refine g_istore_n F ([(3, iv (0)), (0, .ref (m 0)), (1, iv (((b : Nat) : Int))), (2, iv (((0 : Nat) : Int))), (4, iv (if mo = true then 1 else 0)), (5, jv (x)), (7, iv (((j : Nat) : Int)))]) rfl rfl (by decide) dX7_isWay_310 ?_
                                                  refine g_aload_n F 1 rfl rfl dX7_isWay_311 ?_
                                                  refine g_callV F (As := []) (rest := []) (wr := wMP cA m (m_kd) (m_lo) (m_hi) (m_co) (m_pa) (m_rk) (m_nu) (m_ct) (m_sa)) (kX7_another l D cA m m_nc m_nr m_ke m_so m_bu m_bc m_pu m_qu fs1 cd1 un20 m_hb m_pf m_ef fr1 cs1 cn1 ck1 chx tb20 cr20 (hn5) (hK20) (hchx)) (cwV 0 F.2.2.2.2.1 gX7_isWay_X7_another rfl rfl rfl (by decide +kernel) ⟨Nat.le_of_ble_eq_true rfl, Nat.le_of_ble_eq_true rfl⟩) rfl rfl (q0 := 0) rfl [0, 10, 11, 12, 13, 14, 15, 16] [1, 2, 3, 4, 5, 6, 7, 8, 9] rfl rfl (by decide) (by decide) (by decide) rfl rfl (Nat.le_of_ble_eq_true rfl) ⟨Nat.le_of_ble_eq_true rfl, Nat.le_of_ble_eq_true rfl⟩ hA dX7_isWay_312 (fun v w hv => ?_)
                                                  obtain ⟨r44, ch44, hano44, hv, hw⟩ := hv
                                                  subst hv
                                                  subst hw
                                                  refine g_wsub (wMO cA m (((m_nc : Nat) : Int)) (((m_nr : Nat) : Int)) (m_ke) (m_so) (m_bu) (m_bc) (m_pu) (m_qu) (((fs1 : Nat) : Int)) (((cd1 : Nat) : Int)) (un20) (m_hb) (m_pf) (m_ef) ++ wMP cA m (m_kd) (m_lo) (m_hi) (m_co) (m_pa) (m_rk) (m_nu) (m_ct) (m_sa) ++ wME cA m (fr1) (cs1) (cn1) (ck1) (ch44) (tb20) (cr20)) [9, 0, 1, 2, 3, 4, 5, 6, 7, 8, 10, 11, 12, 13, 14, 15, 16] (by decide) rfl ?_
                                                  refine g_eq (st' := [iv (if r44 = true then 1 else 0)]) rfl rfl rfl ?_
                                                  have hnx := an_next hn5 hK20 hchx hano44
                                                  refine g_istore F ([(4, iv (if r44 = true then 1 else 0)), (3, iv (0)), (0, .ref (m 0)), (1, iv (((b : Nat) : Int))), (2, iv (((0 : Nat) : Int))), (5, jv (x)), (7, iv (((j : Nat) : Int)))]) rfl (by decide) dX7_isWay_315 ?_
                                                  refine g_goto F (tgt := 228) dX7_isWay_317 (by decide) ?_
                                                  refine g_lsub ([(0, .ref (m 0)), (1, iv (((b : Nat) : Int))), (2, iv (((0 : Nat) : Int))), (3, iv (0)), (4, iv (if r44 = true then 1 else 0))]) [2, 3, 4, 1, 0] rfl ?_
                                                  exact ih228 0 r44 ch44 tb20 cr20 un20 (by omega) (hs2) (fun z => ⟨(hnx.1 z).1, fun y t ht hl => hv2 y t ht ((hnx.1 z).2 t ht hl)⟩) (fun y z t ht => hv2 y t ht (hnx.2.1 z t ht)) (by rw [if_pos hmo] at hmu228; omega)
                                                · skip
                                                  have hs2 : (1 : Int) = 1 → hasC fs1 cd1 cs1 cn1 ck1 (negG m_co fr1 fs1) := fun _ => has_one neg_cong hchx hq3.1 hq1 hq2 hpl (show sumZ _ fs1 < 0 from by rw [← hxe]; omega)
                                                  have hv2 : (1 : Int) = 0 → ∀ t, chV fs1 cd1 t → (eqC fs1 t chx ∨ ltC fs1 t chx) → novC fs1 cd1 cs1 cn1 ck1 (negG m_co fr1 fs1) t := fun z => absurd z (by decide)
                                                  refine g_iconst F dX7_isWay_305 ?_
                                                  refine g_goto F (tgt := 310) dX7_isWay_306 (by decide) ?_
                                                  refine g_istore_n F ([(3, iv (1)), (0, .ref (m 0)), (1, iv (((b : Nat) : Int))), (2, iv (((0 : Nat) : Int))), (4, iv (if mo = true then 1 else 0)), (5, jv (x)), (7, iv (((j : Nat) : Int)))]) rfl rfl (by decide) dX7_isWay_310 ?_
                                                  refine g_aload_n F 1 rfl rfl dX7_isWay_311 ?_
                                                  refine g_callV F (As := []) (rest := []) (wr := wMP cA m (m_kd) (m_lo) (m_hi) (m_co) (m_pa) (m_rk) (m_nu) (m_ct) (m_sa)) (kX7_another l D cA m m_nc m_nr m_ke m_so m_bu m_bc m_pu m_qu fs1 cd1 un20 m_hb m_pf m_ef fr1 cs1 cn1 ck1 chx tb20 cr20 (hn5) (hK20) (hchx)) (cwV 0 F.2.2.2.2.1 gX7_isWay_X7_another rfl rfl rfl (by decide +kernel) ⟨Nat.le_of_ble_eq_true rfl, Nat.le_of_ble_eq_true rfl⟩) rfl rfl (q0 := 0) rfl [0, 10, 11, 12, 13, 14, 15, 16] [1, 2, 3, 4, 5, 6, 7, 8, 9] rfl rfl (by decide) (by decide) (by decide) rfl rfl (Nat.le_of_ble_eq_true rfl) ⟨Nat.le_of_ble_eq_true rfl, Nat.le_of_ble_eq_true rfl⟩ hA dX7_isWay_312 (fun v w hv => ?_)
                                                  obtain ⟨r44, ch44, hano44, hv, hw⟩ := hv
                                                  subst hv
                                                  subst hw
                                                  refine g_wsub (wMO cA m (((m_nc : Nat) : Int)) (((m_nr : Nat) : Int)) (m_ke) (m_so) (m_bu) (m_bc) (m_pu) (m_qu) (((fs1 : Nat) : Int)) (((cd1 : Nat) : Int)) (un20) (m_hb) (m_pf) (m_ef) ++ wMP cA m (m_kd) (m_lo) (m_hi) (m_co) (m_pa) (m_rk) (m_nu) (m_ct) (m_sa) ++ wME cA m (fr1) (cs1) (cn1) (ck1) (ch44) (tb20) (cr20)) [9, 0, 1, 2, 3, 4, 5, 6, 7, 8, 10, 11, 12, 13, 14, 15, 16] (by decide) rfl ?_
                                                  refine g_eq (st' := [iv (if r44 = true then 1 else 0)]) rfl rfl rfl ?_
                                                  have hnx := an_next hn5 hK20 hchx hano44
                                                  refine g_istore F ([(4, iv (if r44 = true then 1 else 0)), (3, iv (1)), (0, .ref (m 0)), (1, iv (((b : Nat) : Int))), (2, iv (((0 : Nat) : Int))), (5, jv (x)), (7, iv (((j : Nat) : Int)))]) rfl (by decide) dX7_isWay_315 ?_
                                                  refine g_goto F (tgt := 228) dX7_isWay_317 (by decide) ?_
                                                  refine g_lsub ([(0, .ref (m 0)), (1, iv (((b : Nat) : Int))), (2, iv (((0 : Nat) : Int))), (3, iv (1)), (4, iv (if r44 = true then 1 else 0))]) [2, 3, 4, 1, 0] rfl ?_
                                                  exact ih228 1 r44 ch44 tb20 cr20 un20 (by omega) (hs2) (fun z => ⟨(hnx.1 z).1, fun y t ht hl => hv2 y t ht ((hnx.1 z).2 t ht hl)⟩) (fun y z t ht => hv2 y t ht (hnx.2.1 z t ht)) (by rw [if_pos hmo] at hmu228; omega)
                                              · skip
                                                have hf9 := hg.2 j (by omega)
                                                refine g_lload F 5 rfl dX7_isWay_266 ?_
                                                refine g_aload_n F 0 rfl rfl dX7_isWay_268 ?_
                                                refine g_get F hV iX7 0 rfl rfl 4 (by decide) (List.mem_of_getElem? (i := 10) rfl) rfl dX7_isWay_269 ?_
                                                refine g_aload_n F 0 rfl rfl dX7_isWay_272 ?_
                                                refine g_get F hV iX7 0 rfl rfl 20 (by decide) (List.mem_of_getElem? (i := 3) rfl) rfl dX7_isWay_273 ?_
                                                refine g_iload F 6 rfl dX7_isWay_276 ?_
                                                refine g_iald F hV 10 rfl (j) (by omega) (by omega) (by decide) dX7_isWay_278 ?_
                                                have r_27 := hco ((fr1 j).toNat)
                                                refine g_iald F hV 4 rfl ((fr1 j).toNat) (by omega) (by omega) (by decide) dX7_isWay_279 ?_
                                                refine g_i2l F ⟨by omega, by omega⟩ dX7_isWay_280 ?_
                                                refine g_aload_n F 0 rfl rfl dX7_isWay_281 ?_
                                                refine g_get F hV iX7 0 rfl rfl 28 (by decide) (List.mem_of_getElem? (i := 11) rfl) rfl dX7_isWay_282 ?_
                                                refine g_iload F 6 rfl dX7_isWay_285 ?_
                                                refine g_lald F hV 16 rfl (j) (by omega) (by omega) (by decide) dX7_isWay_287 ?_
                                                refine g_lmul F dX7_isWay_288 ?_
                                                refine g_ladd F dX7_isWay_289 ?_
                                                refine g_lstore F ([(5, jv (x + ((m_co ((fr1 j).toNat)) * (cr20 j)))), (0, .ref (m 0)), (1, iv (((b : Nat) : Int))), (2, iv (((0 : Nat) : Int))), (3, iv (so)), (4, iv (if mo = true then 1 else 0)), (7, iv (((j : Nat) : Int)))]) rfl (by decide) dX7_isWay_290 ?_
                                                refine g_iinc F 6 rfl ([(7, iv ((((j : Nat) : Int)) + 1)), (5, jv (x + ((m_co ((fr1 j).toNat)) * (cr20 j)))), (0, .ref (m 0)), (1, iv (((b : Nat) : Int))), (2, iv (((0 : Nat) : Int))), (3, iv (so)), (4, iv (if mo = true then 1 else 0))]) rfl (by decide) dX7_isWay_292 ?_
                                                refine g_goto F (tgt := 257) dX7_isWay_295 (by decide) ?_
                                                refine g_lsub ([(0, .ref (m 0)), (1, iv (((b : Nat) : Int))), (2, iv (((0 : Nat) : Int))), (3, iv (so)), (4, iv (if mo = true then 1 else 0)), (5, jv (x + ((m_co ((fr1 j).toNat)) * (cr20 j)))), (7, iv ((((j : Nat) : Int)) + 1))]) [2, 3, 4, 5, 6, 1, 0] rfl ?_
                                                exact ih257 (j + 1) (x + ((m_co ((fr1 j).toNat)) * (cr20 j))) (by omega) (by rw [hx]; rfl) (by omega)
                                          refine g_lsub ([(0, .ref (m 0)), (1, iv (((b : Nat) : Int))), (2, iv (((0 : Nat) : Int))), (3, iv (so)), (4, iv (if mo = true then 1 else 0)), (5, jv (0)), (7, iv (0))]) [2, 3, 4, 5, 6, 1, 0] rfl ?_
                                          exact lp257 (_ + 1) 0 0 (by omega) (rfl) (Nat.lt_succ_self _)
                              refine g_lsub ([(0, .ref (m 0)), (1, iv (((b : Nat) : Int))), (2, iv (((0 : Nat) : Int))), (3, iv (0)), (4, iv (if true = true then 1 else 0))]) [2, 3, 4, 1, 0] rfl ?_
                              exact lp228 (_ + 1) 0 true (mixZ (fun q => (q : Int)) m_ch fs1) m_tb m_cr m_un (Or.inl rfl) (fun z => absurd z (by decide)) (fun z => ⟨(first_ok (by assumption)).1, fun _ t ht hl => absurd hl ((first_ok (by assumption)).2 t ht)⟩) (fun _ z => absurd z (by decide)) (Nat.lt_succ_self _)
                        · skip
                          refine g_aload_n F 0 rfl rfl dX7_isWay_183 ?_
                          refine g_get F hV iX7 0 rfl rfl 23 (by decide) (List.mem_of_getElem? (i := 5) rfl) rfl dX7_isWay_184 ?_
                          refine g_iconst F dX7_isWay_187 ?_
                          refine g_aload_n F 0 rfl rfl dX7_isWay_188 ?_
                          refine g_iconst F dX7_isWay_189 ?_
                          refine g_lconst F (z := 0) dX7_isWay_190 (by decide) ?_
                          refine g_callV F (As := [iv (1), jv (0)]) (rest := [iv (5), .ref (m 11)]) (wr := wMP cA m (m_kd) (m_lo) (m_hi) (m_co) (m_pa) (m_rk) (m_nu) (m_ct) (m_sa)) (kX7_condition l D cA m m_nc m_nr m_ke m_so m_bu m_bc m_pu m_qu (((fs1 : Nat) : Int)) K2 m_un m_hb m_pf m_ef fr1 csy cny cky m_ch m_tb m_cr 1 0 (by omega)) (cwV 2 F.2.2.2.2.1 gX7_isWay_X7_condition rfl rfl rfl (by decide +kernel) ⟨Nat.le_of_ble_eq_true rfl, Nat.le_of_ble_eq_true rfl⟩) rfl rfl (q0 := 0) rfl [0, 10, 11, 12, 13, 14, 15, 16] [1, 2, 3, 4, 5, 6, 7, 8, 9] rfl rfl (by decide) (by decide) (by decide) rfl rfl (Nat.le_of_ble_eq_true rfl) ⟨Nat.le_of_ble_eq_true rfl, Nat.le_of_ble_eq_true rfl⟩ hA dX7_isWay_191 (fun v w hv => ?_)
                          obtain ⟨hv, hw⟩ := hv
                          subst hv
                          subst hw
                          refine g_wsub (wMO cA m (((m_nc : Nat) : Int)) (((m_nr : Nat) : Int)) (m_ke) (m_so) (m_bu) (m_bc) (m_pu) (m_qu) (((fs1 : Nat) : Int)) (((K2 + 1 : Nat) : Int)) (m_un) (m_hb) (m_pf) (m_ef) ++ wMP cA m (m_kd) (m_lo) (m_hi) (m_co) (m_pa) (m_rk) (m_nu) (m_ct) (m_sa) ++ wME cA m (fr1) (rowZ csy (K2 * 5) (fun _ => 0) 5) (va_up cny K2 0) (va_up cky K2 1) (m_ch) (m_tb) (m_cr)) [9, 0, 1, 2, 3, 4, 5, 6, 7, 8, 10, 11, 12, 13, 14, 15, 16] (by decide) rfl ?_
                          refine g_eq (st' := [iv (((K2 : Nat) : Int)), iv (5), .ref (m 11)]) rfl rfl rfl ?_
                          refine g_imul F dX7_isWay_194 ?_
                          refine g_iload_n F 3 rfl rfl dX7_isWay_195 ?_
                          refine g_iadd F dX7_isWay_196 ?_
                          refine g_iconst F dX7_isWay_197 ?_
                          refine g_iast F 11 rfl (K2 * 5 + j) (by omega) (by omega) (by decide) (wMO cA m (((m_nc : Nat) : Int)) (((m_nr : Nat) : Int)) (m_ke) (m_so) (m_bu) (m_bc) (m_pu) (m_qu) (((fs1 : Nat) : Int)) (((K2 + 1 : Nat) : Int)) (m_un) (m_hb) (m_pf) (m_ef) ++ wMP cA m (m_kd) (m_lo) (m_hi) (m_co) (m_pa) (m_rk) (m_nu) (m_ct) (m_sa) ++ wME cA m (fr1) (va_up (rowZ csy (K2 * 5) (fun _ => 0) 5) (K2 * 5 + j) 1) (va_up cny K2 0) (va_up cky K2 1) (m_ch) (m_tb) (m_cr)) rfl dX7_isWay_198 ?_
                          refine g_iinc F 3 rfl ([(3, iv ((((j : Nat) : Int)) + 1)), (0, .ref (m 0)), (1, iv (((b : Nat) : Int))), (2, iv (((0 : Nat) : Int)))]) rfl (by decide) dX7_isWay_199 ?_
                          refine g_goto F (tgt := 175) dX7_isWay_202 (by decide) ?_
                          refine g_lsub ([(0, .ref (m 0)), (1, iv (((b : Nat) : Int))), (2, iv (((0 : Nat) : Int))), (3, iv ((((j : Nat) : Int)) + 1))]) [1, 2, 3, 0] rfl ?_
                          exact ih175 (j + 1) (K2 + 1) (va_up (rowZ csy (K2 * 5) (fun _ => 0) 5) (K2 * 5 + j) 1) (va_up cny K2 0) (va_up cky K2 1) (by omega) (by omega) (cdQ_bnd hI2 (ag_one hn5 (by omega)) (bd_new hn5 (by omega)) (Or.inl ⟨rfl, rfl⟩)) (smK_s hS2 (ag_one hn5 (by omega)) (one_sm hn5 (by omega)) (by rw [up_same]; decide) (by rw [up_same]; decide)) (by omega)
                    refine g_lsub ([(0, .ref (m 0)), (1, iv (((b : Nat) : Int))), (2, iv (((0 : Nat) : Int))), (3, iv (0))]) [1, 2, 3, 0] rfl ?_
                    exact lp175 (_ + 1) 0 K csx cnx ckx (by omega) (by omega) (by rw [show r = m_nr by omega] at hI; exact hI) (hS) (Nat.lt_succ_self _)
                  · skip
                    refine g_aload_n F 0 rfl rfl dX7_isWay_99 ?_
                    refine g_get F hV iX7 0 rfl rfl 9 (by decide) (List.mem_of_getElem? (i := 7) rfl) rfl dX7_isWay_100 ?_
                    refine g_iload_n F 3 rfl rfl dX7_isWay_103 ?_
                    have r_28 := qct (r)
                    refine g_zald F hV 8 rfl (r) (by omega) (by omega) (by decide) dX7_isWay_104 ?_
                    refine g_if_eq F (tgt := 167) dX7_isWay_105 (by decide) ⟨by omega, by omega⟩ (fun c_29 => ?_) (fun c_29 => ?_)
                    · skip
                      refine g_iinc F 3 rfl ([(3, iv ((((r : Nat) : Int)) + 1)), (0, .ref (m 0)), (1, iv (((b : Nat) : Int))), (2, iv (((0 : Nat) : Int)))]) rfl (by decide) dX7_isWay_167 ?_
                      refine g_goto F (tgt := 91) dX7_isWay_170 (by decide) ?_
                      refine g_lsub ([(0, .ref (m 0)), (1, iv (((b : Nat) : Int))), (2, iv (((0 : Nat) : Int))), (3, iv ((((r : Nat) : Int)) + 1))]) [1, 2, 3, 0] rfl ?_
                      exact ih91 (r + 1) K csx cnx ckx (by omega) (by omega) (cdQ_rd (fun q => ⟨fun z => by rcases z with z | z; exact Or.inl z; (rcases (show q < r ∨ q = r by omega) with y | y; exact Or.inr ⟨y, z.2⟩; (exfalso; rw [y] at z; omega)), fun z => by rcases z with z | z; exact Or.inl z; exact Or.inr ⟨by omega, z.2⟩⟩) hI) (hS) (by omega)
                    · skip
                      refine g_aload_n F 0 rfl rfl dX7_isWay_108 ?_
                      refine g_aload_n F 0 rfl rfl dX7_isWay_109 ?_
                      refine g_get F hV iX7 0 rfl rfl 7 (by decide) (List.mem_of_getElem? (i := 8) rfl) rfl dX7_isWay_110 ?_
                      refine g_iload_n F 3 rfl rfl dX7_isWay_113 ?_
                      have r_30 := hrk (r)
                      refine g_iald F hV 6 rfl (r) (by omega) (by omega) (by decide) dX7_isWay_114 ?_
                      refine g_lconst F (z := 0) dX7_isWay_115 (by decide) ?_
                      refine g_callV F (As := [iv (m_rk r), jv (0)]) (rest := []) (wr := wMP cA m (m_kd) (m_lo) (m_hi) (m_co) (m_pa) (m_rk) (m_nu) (m_ct) (m_sa)) (kX7_condition l D cA m m_nc m_nr m_ke m_so m_bu m_bc m_pu m_qu (((fs1 : Nat) : Int)) K m_un m_hb m_pf m_ef fr1 csx cnx ckx m_ch m_tb m_cr (m_rk r) 0 (by omega)) (cwV 2 F.2.2.2.2.1 gX7_isWay_X7_condition rfl rfl rfl (by decide +kernel) ⟨Nat.le_of_ble_eq_true rfl, Nat.le_of_ble_eq_true rfl⟩) rfl rfl (q0 := 0) rfl [0, 10, 11, 12, 13, 14, 15, 16] [1, 2, 3, 4, 5, 6, 7, 8, 9] rfl rfl (by decide) (by decide) (by decide) rfl rfl (Nat.le_of_ble_eq_true rfl) ⟨Nat.le_of_ble_eq_true rfl, Nat.le_of_ble_eq_true rfl⟩ hA dX7_isWay_116 (fun v w hv => ?_)
                      obtain ⟨hv, hw⟩ := hv
                      subst hv
                      subst hw
                      refine g_wsub (wMO cA m (((m_nc : Nat) : Int)) (((m_nr : Nat) : Int)) (m_ke) (m_so) (m_bu) (m_bc) (m_pu) (m_qu) (((fs1 : Nat) : Int)) (((K + 1 : Nat) : Int)) (m_un) (m_hb) (m_pf) (m_ef) ++ wMP cA m (m_kd) (m_lo) (m_hi) (m_co) (m_pa) (m_rk) (m_nu) (m_ct) (m_sa) ++ wME cA m (fr1) (rowZ csx (K * 5) (fun _ => 0) 5) (va_up cnx K 0) (va_up ckx K (m_rk r)) (m_ch) (m_tb) (m_cr)) [9, 0, 1, 2, 3, 4, 5, 6, 7, 8, 10, 11, 12, 13, 14, 15, 16] (by decide) rfl ?_
                      refine g_eq (st' := [iv (((K : Nat) : Int))]) rfl rfl rfl ?_
                      refine g_istore F ([(4, iv (((K : Nat) : Int))), (0, .ref (m 0)), (1, iv (((b : Nat) : Int))), (2, iv (((0 : Nat) : Int))), (3, iv (((r : Nat) : Int)))]) rfl (by decide) dX7_isWay_119 ?_
                      refine g_iconst F dX7_isWay_121 ?_
                      refine g_istore F ([(5, iv (0)), (4, iv (((K : Nat) : Int))), (0, .ref (m 0)), (1, iv (((b : Nat) : Int))), (2, iv (((0 : Nat) : Int))), (3, iv (((r : Nat) : Int)))]) rfl (by decide) dX7_isWay_122 ?_
                      have lp124 : ∀ (n : Nat) (j : Nat) (cz : Nat → Int) (hj : j ≤ fs1) (hcz : cz = rowZ (rowZ csx (K * 5) (fun _ => 0) 5) (K * 5) (fun j => m_sa (r * 5 + frN fr1 j)) j), fs1 - j < n → GW p_ l e_ (headSpec wsX7_isWay ({ frames := 2, cells := 0, slots := 0, locals := 58 })).room s_ m_ ([.ref (m 0), iv (((b : Nat) : Int))]).toArray b_ me_ c_ (MQ b_ (Qm D (fun ov ow => ∃ (so : Int) (fr : Nat → Int) (fs : Nat) (cs : Nat → Int) (cn : Nat → Int) (ck : Nat → Int) (cd : Nat) (ch : Nat → Int) (tb : Nat → Int) (cr : Nat → Int) (un : Int), ((so = 0 ∨ so = 1) ∧ wlP m_nc m_nr fs cd b m_rk m_ct m_sa fr cs cn ck ∧ (so = 1 → hasC fs cd cs cn ck (negG m_co fr fs)) ∧ (so = 0 → ∀ t, chV fs cd t → novC fs cd cs cn ck (negG m_co fr fs) t)) ∧ ov = some (iv (so)) ∧ ow = wMO cA m (((m_nc : Nat) : Int)) (((m_nr : Nat) : Int)) (m_ke) (m_so) (m_bu) (m_bc) (m_pu) (m_qu) (((fs : Nat) : Int)) (((cd : Nat) : Int)) (un) (m_hb) (m_pf) (m_ef) ++ wMP cA m (m_kd) (m_lo) (m_hi) (m_co) (m_pa) (m_rk) (m_nu) (m_ct) (m_sa) ++ wME cA m (fr) (cs) (cn) (ck) (ch) (tb) (cr)) A) ([.ref (m 0), iv (((b : Nat) : Int))]).toArray s_ 0 0 A) (IM D s_ A) 8 0 0 (wMO cA m (((m_nc : Nat) : Int)) (((m_nr : Nat) : Int)) (m_ke) (m_so) (m_bu) (m_bc) (m_pu) (m_qu) (((fs1 : Nat) : Int)) (((K + 1 : Nat) : Int)) (m_un) (m_hb) (m_pf) (m_ef) ++ wMP cA m (m_kd) (m_lo) (m_hi) (m_co) (m_pa) (m_rk) (m_nu) (m_ct) (m_sa) ++ wME cA m (fr1) (cz) (va_up cnx K 0) (va_up ckx K (m_rk r)) (m_ch) (m_tb) (m_cr)) ([(0, .ref (m 0)), (1, iv (((b : Nat) : Int))), (2, iv (((0 : Nat) : Int))), (3, iv (((r : Nat) : Int))), (4, iv (((K : Nat) : Int))), (5, iv (((j : Nat) : Int)))]) [] 124 := by
                        intro n; induction n with
                        | zero => intro j cz; intros; omega
                        | succ n ih124 =>
                          intro j cz hj hcz hmu124
                          refine g_iload F 5 rfl dX7_isWay_124 ?_
                          refine g_aload_n F 0 rfl rfl dX7_isWay_126 ?_
                          refine g_get F hV iX7 0 rfl rfl 21 (by decide) (List.mem_of_getElem? (i := 1) rfl) rfl dX7_isWay_127 ?_
                          refine g_icmp_ge F (tgt := 167) dX7_isWay_130 (by decide) ⟨by omega, by omega⟩ ⟨by omega, by omega⟩ (fun c_31 => ?_) (fun c_31 => ?_)
                          · skip
                            refine g_iinc F 3 rfl ([(3, iv ((((r : Nat) : Int)) + 1)), (0, .ref (m 0)), (1, iv (((b : Nat) : Int))), (2, iv (((0 : Nat) : Int))), (4, iv (((K : Nat) : Int))), (5, iv (((j : Nat) : Int)))]) rfl (by decide) dX7_isWay_167 ?_
                            refine g_goto F (tgt := 91) dX7_isWay_170 (by decide) ?_
                            refine g_lsub ([(0, .ref (m 0)), (1, iv (((b : Nat) : Int))), (2, iv (((0 : Nat) : Int))), (3, iv ((((r : Nat) : Int)) + 1))]) [1, 2, 3, 0] rfl ?_
                            exact ih91 (r + 1) (K + 1) cz (va_up cnx K 0) (va_up ckx K (m_rk r)) (by omega) (by omega) (by rw [hcz, show j = fs1 by omega]; exact wq_row hn5 qnc (by omega) (by omega) hg.2 hI) (by rw [hcz, show j = fs1 by omega]; exact smK_s hS (ag_row hn5 hn5) (ones_sm hn5 (fun q => by have := hsa (r * 5 + frN fr1 q); omega)) (by rw [up_same]; decide) (by rw [up_same]; exact hrk r)) (by omega)
                          · skip
                            have hf9 := hg.2 j (by omega)
                            refine g_aload_n F 0 rfl rfl dX7_isWay_133 ?_
                            refine g_get F hV iX7 0 rfl rfl 23 (by decide) (List.mem_of_getElem? (i := 5) rfl) rfl dX7_isWay_134 ?_
                            refine g_iconst F dX7_isWay_137 ?_
                            refine g_iload F 4 rfl dX7_isWay_138 ?_
                            refine g_imul F dX7_isWay_140 ?_
                            refine g_iload F 5 rfl dX7_isWay_141 ?_
                            refine g_iadd F dX7_isWay_143 ?_
                            refine g_aload_n F 0 rfl rfl dX7_isWay_144 ?_
                            refine g_get F hV iX7 0 rfl rfl 10 (by decide) (List.mem_of_getElem? (i := 9) rfl) rfl dX7_isWay_145 ?_
                            refine g_iconst F dX7_isWay_148 ?_
                            refine g_iload_n F 3 rfl rfl dX7_isWay_149 ?_
                            refine g_imul F dX7_isWay_150 ?_
                            refine g_aload_n F 0 rfl rfl dX7_isWay_151 ?_
                            refine g_get F hV iX7 0 rfl rfl 20 (by decide) (List.mem_of_getElem? (i := 3) rfl) rfl dX7_isWay_152 ?_
                            refine g_iload F 5 rfl dX7_isWay_155 ?_
                            refine g_iald F hV 10 rfl (j) (by omega) (by omega) (by decide) dX7_isWay_157 ?_
                            refine g_iadd F dX7_isWay_158 ?_
                            have r_32 := hsa (r * 5 + (fr1 j).toNat)
                            refine g_iald F hV 9 rfl (r * 5 + (fr1 j).toNat) (by omega) (by omega) (by decide) dX7_isWay_159 ?_
                            refine g_iast F 11 rfl (K * 5 + j) (by omega) (by omega) (by decide) (wMO cA m (((m_nc : Nat) : Int)) (((m_nr : Nat) : Int)) (m_ke) (m_so) (m_bu) (m_bc) (m_pu) (m_qu) (((fs1 : Nat) : Int)) (((K + 1 : Nat) : Int)) (m_un) (m_hb) (m_pf) (m_ef) ++ wMP cA m (m_kd) (m_lo) (m_hi) (m_co) (m_pa) (m_rk) (m_nu) (m_ct) (m_sa) ++ wME cA m (fr1) (va_up cz (K * 5 + j) (m_sa (r * 5 + (fr1 j).toNat))) (va_up cnx K 0) (va_up ckx K (m_rk r)) (m_ch) (m_tb) (m_cr)) rfl dX7_isWay_160 ?_
                            refine g_iinc F 5 rfl ([(5, iv ((((j : Nat) : Int)) + 1)), (0, .ref (m 0)), (1, iv (((b : Nat) : Int))), (2, iv (((0 : Nat) : Int))), (3, iv (((r : Nat) : Int))), (4, iv (((K : Nat) : Int)))]) rfl (by decide) dX7_isWay_161 ?_
                            refine g_goto F (tgt := 124) dX7_isWay_164 (by decide) ?_
                            refine g_lsub ([(0, .ref (m 0)), (1, iv (((b : Nat) : Int))), (2, iv (((0 : Nat) : Int))), (3, iv (((r : Nat) : Int))), (4, iv (((K : Nat) : Int))), (5, iv ((((j : Nat) : Int)) + 1))]) [1, 2, 3, 4, 5, 0] rfl ?_
                            exact ih124 (j + 1) (va_up cz (K * 5 + j) (m_sa (r * 5 + (fr1 j).toNat))) (by omega) (by rw [hcz]; exact row_up rfl) (by omega)
                      refine g_lsub ([(0, .ref (m 0)), (1, iv (((b : Nat) : Int))), (2, iv (((0 : Nat) : Int))), (3, iv (((r : Nat) : Int))), (4, iv (((K : Nat) : Int))), (5, iv (0))]) [2, 3, 4, 5, 1, 0] rfl ?_
                      exact lp124 (_ + 1) 0 (rowZ csx (K * 5) (fun _ => 0) 5) (by omega) (row_0 _ _ _).symm (Nat.lt_succ_self _)
              refine g_lsub ([(0, .ref (m 0)), (1, iv (((b : Nat) : Int))), (2, iv (((0 : Nat) : Int))), (3, iv (0))]) [1, 2, 3, 0] rfl ?_
              exact lp91 (_ + 1) 0 (0 + 1) cz (va_up m_cn 0 1) (va_up m_ck 0 2) (by omega) (by omega) (by rw [hcz, show j = fs1 by omega]; exact cdQ_rd (fun q => ⟨fun z => by rcases z with z | z; exact z; exact absurd z.1 (Nat.not_lt_zero q), fun z => Or.inl z⟩) (wq_one hn5)) (by rw [hcz, show j = fs1 by omega]; exact smK_s (K := 0) (cs := m_cs) (cn := m_cn) (ck := m_ck) smK_0 (ag_row hn5 hn5) (ones_sm hn5 (fun _ => by decide)) (by rw [up_same]; decide) (by rw [up_same]; decide)) (Nat.lt_succ_self _)
            · skip
              refine g_aload_n F 0 rfl rfl dX7_isWay_72 ?_
              refine g_get F hV iX7 0 rfl rfl 23 (by decide) (List.mem_of_getElem? (i := 5) rfl) rfl dX7_isWay_73 ?_
              refine g_iconst F dX7_isWay_76 ?_
              refine g_iload_n F 2 rfl rfl dX7_isWay_77 ?_
              refine g_imul F dX7_isWay_78 ?_
              refine g_iload_n F 3 rfl rfl dX7_isWay_79 ?_
              refine g_iadd F dX7_isWay_80 ?_
              refine g_iconst F dX7_isWay_81 ?_
              refine g_iast F 11 rfl (0 * 5 + j) (by omega) (by omega) (by decide) (wMO cA m (((m_nc : Nat) : Int)) (((m_nr : Nat) : Int)) (m_ke) (m_so) (m_bu) (m_bc) (m_pu) (m_qu) (((fs1 : Nat) : Int)) (((0 + 1 : Nat) : Int)) (m_un) (m_hb) (m_pf) (m_ef) ++ wMP cA m (m_kd) (m_lo) (m_hi) (m_co) (m_pa) (m_rk) (m_nu) (m_ct) (m_sa) ++ wME cA m (fr1) (va_up cz (0 * 5 + j) 1) (va_up m_cn 0 1) (va_up m_ck 0 2) (m_ch) (m_tb) (m_cr)) rfl dX7_isWay_82 ?_
              refine g_iinc F 3 rfl ([(3, iv ((((j : Nat) : Int)) + 1)), (0, .ref (m 0)), (1, iv (((b : Nat) : Int))), (2, iv (((0 : Nat) : Int)))]) rfl (by decide) dX7_isWay_83 ?_
              refine g_goto F (tgt := 64) dX7_isWay_86 (by decide) ?_
              refine g_lsub ([(0, .ref (m 0)), (1, iv (((b : Nat) : Int))), (2, iv (((0 : Nat) : Int))), (3, iv ((((j : Nat) : Int)) + 1))]) [1, 2, 3, 0] rfl ?_
              exact ih64 (j + 1) (va_up cz (0 * 5 + j) 1) (by omega) (by rw [hcz]; exact row_up rfl) (by omega)
        refine g_lsub ([(0, .ref (m 0)), (1, iv (((b : Nat) : Int))), (2, iv (((0 : Nat) : Int))), (3, iv (0))]) [2, 3, 1, 0] rfl ?_
        exact lp64 (_ + 1) 0 (rowZ m_cs (0 * 5) (fun _ => 0) 5) (by omega) (row_0 _ _ _).symm (Nat.lt_succ_self _)
      · skip
        refine g_iload_n F 1 rfl rfl dX7_isWay_15 ?_
        refine g_iload_n F 2 rfl rfl dX7_isWay_16 ?_
        refine g_ishr F (a := b) (b := c) rfl rfl (by omega) (by omega) dX7_isWay_17 ?_
        refine g_iconst F dX7_isWay_18 ?_
        refine g_iand F (a := (b >>> c)) (b := 1) rfl rfl dX7_isWay_19 ?_
        have hbr : (b >>> c) &&& 1 ≤ 1 := by rw [bit_and]; split <;> omega
        refine g_iconst F dX7_isWay_20 ?_
        refine g_icmp_ne F (tgt := 44) dX7_isWay_21 (by decide) ⟨by omega, by omega⟩ ⟨by decide, by decide⟩ (fun c_33 => ?_) (fun c_33 => ?_)
        · skip
          have hbit : ¬ b.testBit c = true := by intro z; rw [bit_and, if_pos z] at c_33; exact c_33 rfl
          refine g_iinc F 2 rfl ([(2, iv ((((c : Nat) : Int)) + 1)), (0, .ref (m 0)), (1, iv (((b : Nat) : Int)))]) rfl (by decide) dX7_isWay_44 ?_
          refine g_goto F (tgt := 7) dX7_isWay_47 (by decide) ?_
          refine g_lsub ([(0, .ref (m 0)), (1, iv (((b : Nat) : Int))), (2, iv ((((c : Nat) : Int)) + 1))]) [1, 2, 0] rfl ?_
          exact ih7 (c + 1) k fa (by omega) (gf_no (fx := btI b) (by unfold btI; rw [if_neg hbit]; decide) hk hF).1 (gf_no (fx := btI b) (by unfold btI; rw [if_neg hbit]; decide) hk hF).2 (by omega)
        · skip
          have hbit : b.testBit c = true := by rw [bit_and] at c_33; by_cases z : b.testBit c = true; exact z; (rw [if_neg z] at c_33; exact absurd c_33 (by decide))
          refine g_aload_n F 0 rfl rfl dX7_isWay_24 ?_
          refine g_get F hV iX7 0 rfl rfl 20 (by decide) (List.mem_of_getElem? (i := 3) rfl) rfl dX7_isWay_25 ?_
          refine g_aload_n F 0 rfl rfl dX7_isWay_28 ?_
          refine g_get F hV iX7 0 rfl rfl 21 (by decide) (List.mem_of_getElem? (i := 1) rfl) rfl dX7_isWay_29 ?_
          refine g_iload_n F 2 rfl rfl dX7_isWay_32 ?_
          refine g_iast F 10 rfl (k) (by omega) (by omega) (by decide) (wMO cA m (((m_nc : Nat) : Int)) (((m_nr : Nat) : Int)) (m_ke) (m_so) (m_bu) (m_bc) (m_pu) (m_qu) (((k : Nat) : Int)) (m_cd) (m_un) (m_hb) (m_pf) (m_ef) ++ wMP cA m (m_kd) (m_lo) (m_hi) (m_co) (m_pa) (m_rk) (m_nu) (m_ct) (m_sa) ++ wME cA m (va_up fa k (((c : Nat) : Int))) (m_cs) (m_cn) (m_ck) (m_ch) (m_tb) (m_cr)) rfl dX7_isWay_33 ?_
          refine g_aload_n F 0 rfl rfl dX7_isWay_34 ?_
          refine g_dup F rfl dX7_isWay_35 ?_
          refine g_get F hV iX7 0 rfl rfl 21 (by decide) (List.mem_of_getElem? (i := 1) rfl) rfl dX7_isWay_36 ?_
          refine g_iconst F dX7_isWay_39 ?_
          refine g_iadd F dX7_isWay_40 ?_
          refine g_put F iX7 tyX7 tyX7_ok nmX7 0 rfl rfl 21 (by decide) (List.mem_of_getElem? (i := 1) rfl) rfl rfl rfl (Nat.le_of_ble_eq_true rfl) (wMO cA m (((m_nc : Nat) : Int)) (((m_nr : Nat) : Int)) (m_ke) (m_so) (m_bu) (m_bc) (m_pu) (m_qu) ((((k : Nat) : Int)) + 1) (m_cd) (m_un) (m_hb) (m_pf) (m_ef) ++ wMP cA m (m_kd) (m_lo) (m_hi) (m_co) (m_pa) (m_rk) (m_nu) (m_ct) (m_sa) ++ wME cA m (va_up fa k (((c : Nat) : Int))) (m_cs) (m_cn) (m_ck) (m_ch) (m_tb) (m_cr)) rfl dX7_isWay_41 ?_
          refine g_iinc F 2 rfl ([(2, iv ((((c : Nat) : Int)) + 1)), (0, .ref (m 0)), (1, iv (((b : Nat) : Int)))]) rfl (by decide) dX7_isWay_44 ?_
          refine g_goto F (tgt := 7) dX7_isWay_47 (by decide) ?_
          refine g_lsub ([(0, .ref (m 0)), (1, iv (((b : Nat) : Int))), (2, iv ((((c : Nat) : Int)) + 1))]) [1, 2, 0] rfl ?_
          exact ih7 (c + 1) (k + 1) (va_up fa k (((c : Nat) : Int))) (by omega) (gf_yes (fx := btI b) (by unfold btI; rw [if_pos hbit]) hk hF).1 (gf_yes (fx := btI b) (by unfold btI; rw [if_pos hbit]) hk hF).2 (by omega)
  refine g_lsub ([(0, .ref (m 0)), (1, iv (((b : Nat) : Int))), (2, iv (0))]) [1, 2, 0] rfl ?_
  exact lp7 (_ + 1) 0 0 m_fr (by omega) (rfl) (fun q hq => absurd hq (Nat.not_lt_zero q)) (Nat.lt_succ_self _)
