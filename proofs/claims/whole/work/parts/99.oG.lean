def R_law : String := "BoundCourtLaw"
def lw_P (b : Addr) (xs : List Int32) (args : Array Value) (s : State) : Prop := args = #[.ref b] ∧ s.IntsAt b xs ∧ xs.length ≤ 2048 ∧ (Jvm.Cond.and given_1 narrow_1).before args s = true
def lw_Q (_ : Array Value) (s : State) (o : Outcome) (t : State) : Prop := o = .returned (some (.int 1)) ∧ Framed s o t [] 600000 7302250
def lw_Z (below : List Frame) (a : Array Value) (s : State) : State → Prop := fun t => ∃ o, t.status = .running ∧ Ended t below o ∧ lw_Q a s o t
/-- the law's own end, with 1 on the stack, nothing written that was there before, its room as the claim has it -/
theorem lw_ret {p : Program} {l : Launch} {e : Env} {s : State} {m : MethodId} {below : List Frame} {meth : Method} {c : Code} {b : Nat} (hx : p.tables.exec = Jvm.exec) (hb : c.code = code) (hr : meth.sig.returnType = ret) (hlocks : meth.locks = false) {pc : Nat} {H : Heap} {ls : Array Slot} (hdg : decode code pc = .ok (.ireturn, 1)) : W p l e room_1 s m #[Value.ref b] below meth c H [] 600000 7302250 (lw_Z below #[Value.ref b] s) (F0 m pc ls [.int 1]) := by
  intro T hT X
  obtain ⟨fs, hret, hrun, hended, hW, hframe⟩ := X.leave (v := some (.int 1)) (hlocks := hlocks) (fun h => by rw [hr] at h; cases h)
  have hmeth' : T.vm.method? m = some meth := X.method'
  refine ⟨T.setFrames fs, ?_, .returned (some (.int 1)), hrun, hended, rfl, ⟨_, rfl⟩, hW, hframe⟩
  jvm_step X.here [X.here.top, hx, hb, hdg, hmeth', hr, ret, narrow_b1]
  (try refine ⟨rfl, ?_⟩); (try refine ⟨rfl, ?_⟩)
  first | (intro acts; rw [hret _ acts rfl rfl rfl]) | rw [hret _ _ rfl rfl rfl]
  exact Steps.refl _
/-- what holds at the law's entry: the machine, the code, the tables' words (any of lw_tbl by 'hts w (by decide +kernel)'), the script of L ints xs at the cell b, what the Statement gives of the start (any of its parts by flat_of_before) -/
def lw_At (p : Program) (s : State) (m : MethodId) (meth : Method) (c : Code) (b L : Nat) (xs : Nat → Int32) : Prop :=
  p.tables.exec = Jvm.exec ∧ c.code = code ∧ meth.sig.returnType = ret ∧ c.maxLocals = 4 ∧ s.vm.findClass R_law = some m.cls ∧ (∀ w ∈ lw_tbl, w.before #[Value.ref b] s = true) ∧ va_X b L xs s s.heap ∧ b < s.heap.size ∧ meth.locks = false ∧ (Jvm.Cond.and given_1 narrow_1).before #[Value.ref b] s = true
theorem stale_z : staleT zT := ⟨fun _ _ _ => by show (-8000000 : Int) ≤ 0 ∧ (0 : Int) ≤ 8000000; decide, fun _ => by show (-100000000000 : Int) ≤ 0 ∧ (0 : Int) ≤ 100000000000; decide, fun _ => by show (0 : Int) ≤ 0 ∧ (0 : Int) ≤ 1; decide, fun _ => by show (0 : Int) ≤ 0 ∧ (0 : Int) ≤ 2; decide, fun _ => by show (-20 : Int) ≤ 0 ∧ (0 : Int) ≤ 20; decide⟩
set_option maxHeartbeats 4000000 in
set_option maxRecDepth 100000 in
theorem lw_loop {p : Program} {l : Launch} {e : Env} {s : State} {m : MethodId} {below : List Frame} {meth : Method} {c : Code} {Q : State → Prop} {D : va_G} {cA : Nat → ClassId} {A : Nat → Prop} {sb Ln : Nat} {xs : Nat → Int32} {x se pg bt qr tq hd md : Nat → Nat} (F : Fx p s m #[Value.ref sb] meth c cL_law 4 RL wsL_law ret D cA) (hA : ∀ q, s.heap.size ≤ q → A q) (hA2 : ∀ q, A q → s.heap.size ≤ q) (hX : va_X sb Ln xs s s.heap) (hbl : sb < s.heap.size) (hbA : ¬ A sb) (hL : Ln ≤ 2048) (hQ : Q = lw_Z below #[Value.ref sb] s) : ∀ (n i : Nat), i ≤ Ln → Ln < i + n → lwN p l e s m sb below meth c Q D cA A x se pg bt qr tq hd md i (400 + 91 * i) (4000 + 2028 * i) 18 := by
  intro n
  induction n with
  | zero => intro i h1 h2; omega
  | succ n ih =>
    intro i h1 h2 kd lo hi co pa rk nu ct sa nc nr so X k ad tbf ql qc n1 S pl pr pu qu ke bu bc fs cd un hb pf ef fr cs cn ck ch tb cr fx fv sn be tr wy hI
    refine g_iload_n F 3 rfl rfl dL_law_18 ?_
    refine g_aload_n F 0 rfl rfl dL_law_19 ?_
    refine g_slen F hX hbl hbA dL_law_20 ?_
    refine g_iconst F dL_law_21 ?_
    refine g_isub F dL_law_22 ?_
    refine g_icmp_gt F (tgt := 893) dL_law_23 (by decide) ⟨by omega, by omega⟩ ⟨by omega, by omega⟩ (fun c1 => ?_) (fun c1 => ?_)
    · refine g_iconst F dL_law_893 ?_
      subst hQ
      exact fun H locs ls hI2 hl => va_forget (fun q hq => hA2 _ (hI2.2.2.2.2 q hq)) (W.widen (k := 600000) (n := 7302250) (by omega) (by omega) (lw_ret F.1 F.2.1 F.2.2.2.2.2.2.1 F.2.2.2.2.2.2.2 dL_law_894))
    · have hnx : lwN p l e s m sb below meth c Q D cA A x se pg bt qr tq hd md i (400 + 91 * i + 364) (4000 + 2028 * i + 8112) 887 := by
        intro kd lo hi co pa rk nu ct sa nc nr so X k ad tbf ql qc n1 S pl pr pu qu ke bu bc fs cd un hb pf ef fr cs cn ck ch tb cr fx fv sn be tr wy hI
        refine g_iinc F 3 rfl ([(3, iv (((i : Nat) : Int) + 4)), (0, .ref sb), (1, .ref (x 0)), (2, .ref (md 0))]) rfl (by decide) dL_law_887 ?_
        refine g_goto F (tgt := 18) dL_law_890 (by decide) ?_
        refine g_lsub ([(0, .ref sb), (1, .ref (x 0)), (2, .ref (md 0)), (3, iv (((i : Nat) : Int) + 4))]) [1, 2, 3, 0] rfl ?_
        have h9 := ih (i + 4) (by omega) (by omega) kd lo hi co pa rk nu ct sa nc nr so X k ad tbf ql qc n1 S pl pr pu qu ke bu bc fs cd un hb pf ef fr cs cn ck ch tb cr fx fv sn be tr wy hI
        rw [show 400 + 91 * (i + 4) = 400 + 91 * i + 364 by omega, show 4000 + 2028 * (i + 4) = 4000 + 2028 * i + 8112 by omega] at h9
        exact h9
      have hkc : 400 + 91 * i + 364 ≤ 600000 ∧ 4000 + 2028 * i + 8112 ≤ 7302250 := by omega
      refine g_aload_n F 0 rfl rfl dL_law_26 ?_
      refine g_iload_n F 3 rfl rfl dL_law_27 ?_
      refine g_sld F hX hbl hbA i rfl (by omega) (by omega) dL_law_28 ?_
      refine g_bipush F dL_law_29 (by decide) ?_
      refine g_rand F dL_law_31 ?_
      obtain ⟨z, hzr, hze⟩ : ∃ z : Int, I32 z ∧ (Int32.ofInt ((xs i).toInt) &&& Int32.ofInt 31) = Int32.ofInt z := ⟨_, i32_rng _, (i32_of _).symm⟩
      rw [hze]
      rcases (show z = 0 ∨ z = 1 ∨ z = 2 ∨ z = 3 ∨ z = 4 ∨ z = 5 ∨ z = 6 ∨ z = 7 ∨ z = 8 ∨ z = 9 ∨ z = 10 ∨ z = 11 ∨ z = 12 ∨ z = 13 ∨ z = 14 ∨ z = 15 ∨ z = 16 ∨ z = 17 ∨ z = 18 ∨ z = 19 ∨ z = 20 ∨ z = 21 ∨ z = 22 ∨ z = 23 ∨ z = 24 ∨ (z < 0 ∨ 24 < z) by omega) with h9 | h9 | h9 | h9 | h9 | h9 | h9 | h9 | h9 | h9 | h9 | h9 | h9 | h9 | h9 | h9 | h9 | h9 | h9 | h9 | h9 | h9 | h9 | h9 | h9 | h9
      · refine g_tswIn F (tgt := 148) 0 dL_law_32 (by rw [h9]; rfl) rfl (by decide) hzr (by omega) ?_
        exact lc_column F hA hX hbl hbA hL i (by omega) _ _ hkc hnx kd lo hi co pa rk nu ct sa nc nr so X k ad tbf ql qc n1 S pl pr pu qu ke bu bc fs cd un hb pf ef fr cs cn ck ch tb cr fx fv sn be tr wy hI
      · refine g_tswIn F (tgt := 191) 1 dL_law_32 (by rw [h9]; rfl) rfl (by decide) hzr (by omega) ?_
        exact lc_bound F hA hX hbl hbA hL i (by omega) _ _ hkc hnx kd lo hi co pa rk nu ct sa nc nr so X k ad tbf ql qc n1 S pl pr pu qu ke bu bc fs cd un hb pf ef fr cs cn ck ch tb cr fx fv sn be tr wy hI
      · refine g_tswIn F (tgt := 234) 2 dL_law_32 (by rw [h9]; rfl) rfl (by decide) hzr (by omega) ?_
        exact lc_partner F hA hX hbl hbA hL i (by omega) _ _ hkc hnx kd lo hi co pa rk nu ct sa nc nr so X k ad tbf ql qc n1 S pl pr pu qu ke bu bc fs cd un hb pf ef fr cs cn ck ch tb cr fx fv sn be tr wy hI
      · refine g_tswIn F (tgt := 267) 3 dL_law_32 (by rw [h9]; rfl) rfl (by decide) hzr (by omega) ?_
        exact lc_cost F hA hX hbl hbA hL i (by omega) _ _ hkc hnx kd lo hi co pa rk nu ct sa nc nr so X k ad tbf ql qc n1 S pl pr pu qu ke bu bc fs cd un hb pf ef fr cs cn ck ch tb cr fx fv sn be tr wy hI
      · refine g_tswIn F (tgt := 300) 4 dL_law_32 (by rw [h9]; rfl) rfl (by decide) hzr (by omega) ?_
        exact lc_row F hA hX hbl hbA hL i (by omega) _ _ hkc hnx kd lo hi co pa rk nu ct sa nc nr so X k ad tbf ql qc n1 S pl pr pu qu ke bu bc fs cd un hb pf ef fr cs cn ck ch tb cr fx fv sn be tr wy hI
      · refine g_tswIn F (tgt := 333) 5 dL_law_32 (by rw [h9]; rfl) rfl (by decide) hzr (by omega) ?_
        exact lc_share F hA hX hbl hbA hL i (by omega) _ _ hkc hnx kd lo hi co pa rk nu ct sa nc nr so X k ad tbf ql qc n1 S pl pr pu qu ke bu bc fs cd un hb pf ef fr cs cn ck ch tb cr fx fv sn be tr wy hI
      · refine g_tswIn F (tgt := 376) 6 dL_law_32 (by rw [h9]; rfl) rfl (by decide) hzr (by omega) ?_
        exact lc_number F hA hX hbl hbA hL i (by omega) _ _ hkc hnx kd lo hi co pa rk nu ct sa nc nr so X k ad tbf ql qc n1 S pl pr pu qu ke bu bc fs cd un hb pf ef fr cs cn ck ch tb cr fx fv sn be tr wy hI
      · refine g_tswIn F (tgt := 409) 7 dL_law_32 (by rw [h9]; rfl) rfl (by decide) hzr (by omega) ?_
        exact lc_counts F hA hX hbl hbA hL i (by omega) _ _ hkc hnx kd lo hi co pa rk nu ct sa nc nr so X k ad tbf ql qc n1 S pl pr pu qu ke bu bc fs cd un hb pf ef fr cs cn ck ch tb cr fx fv sn be tr wy hI
      · refine g_tswIn F (tgt := 442) 8 dL_law_32 (by rw [h9]; rfl) rfl (by decide) hzr (by omega) ?_
        exact lc_isOf F hA hX hbl hbA hL i (by omega) _ _ hkc hnx kd lo hi co pa rk nu ct sa nc nr so X k ad tbf ql qc n1 S pl pr pu qu ke bu bc fs cd un hb pf ef fr cs cn ck ch tb cr fx fv sn be tr wy hI
      · refine g_tswIn F (tgt := 475) 9 dL_law_32 (by rw [h9]; rfl) rfl (by decide) hzr (by omega) ?_
        exact lc_about F hA hX hbl hbA hL i (by omega) _ _ hkc hnx kd lo hi co pa rk nu ct sa nc nr so X k ad tbf ql qc n1 S pl pr pu qu ke bu bc fs cd un hb pf ef fr cs cn ck ch tb cr fx fv sn be tr wy hI
      · refine g_tswIn F (tgt := 508) 10 dL_law_32 (by rw [h9]; rfl) rfl (by decide) hzr (by omega) ?_
        exact lc_told F hA hX hbl hbA hL i (by omega) _ _ hkc hnx kd lo hi co pa rk nu ct sa nc nr so X k ad tbf ql qc n1 S pl pr pu qu ke bu bc fs cd un hb pf ef fr cs cn ck ch tb cr fx fv sn be tr wy hI
      · refine g_tswIn F (tgt := 541) 11 dL_law_32 (by rw [h9]; rfl) rfl (by decide) hzr (by omega) ?_
        exact lc_solve F hA hX hbl hbA hL i (by omega) _ _ hkc hnx kd lo hi co pa rk nu ct sa nc nr so X k ad tbf ql qc n1 S pl pr pu qu ke bu bc fs cd un hb pf ef fr cs cn ck ch tb cr fx fv sn be tr wy hI
      · refine g_tswIn F (tgt := 564) 12 dL_law_32 (by rw [h9]; rfl) rfl (by decide) hzr (by omega) ?_
        exact lc_worth F hA hX hbl hbA hL i (by omega) _ _ hkc hnx kd lo hi co pa rk nu ct sa nc nr so X k ad tbf ql qc n1 S pl pr pu qu ke bu bc fs cd un hb pf ef fr cs cn ck ch tb cr fx fv sn be tr wy hI
      · refine g_tswIn F (tgt := 607) 13 dL_law_32 (by rw [h9]; rfl) rfl (by decide) hzr (by omega) ?_
        exact lc_least F hA hX hbl hbA hL i (by omega) _ _ hkc hnx kd lo hi co pa rk nu ct sa nc nr so X k ad tbf ql qc n1 S pl pr pu qu ke bu bc fs cd un hb pf ef fr cs cn ck ch tb cr fx fv sn be tr wy hI
      · refine g_tswIn F (tgt := 631) 14 dL_law_32 (by rw [h9]; rfl) rfl (by decide) hzr (by omega) ?_
        exact lc_value F hA hX hbl hbA hL i (by omega) _ _ hkc hnx kd lo hi co pa rk nu ct sa nc nr so X k ad tbf ql qc n1 S pl pr pu qu ke bu bc fs cd un hb pf ef fr cs cn ck ch tb cr fx fv sn be tr wy hI
      · refine g_tswIn F (tgt := 665) 15 dL_law_32 (by rw [h9]; rfl) rfl (by decide) hzr (by omega) ?_
        exact lc_quarrel F hA hX hbl hbA hL i (by omega) _ _ hkc hnx kd lo hi co pa rk nu ct sa nc nr so X k ad tbf ql qc n1 S pl pr pu qu ke bu bc fs cd un hb pf ef fr cs cn ck ch tb cr fx fv sn be tr wy hI
      · refine g_tswIn F (tgt := 678) 16 dL_law_32 (by rw [h9]; rfl) rfl (by decide) hzr (by omega) ?_
        exact lc_put F hA hX hbl hbA hL i (by omega) _ _ hkc hnx kd lo hi co pa rk nu ct sa nc nr so X k ad tbf ql qc n1 S pl pr pu qu ke bu bc fs cd un hb pf ef fr cs cn ck ch tb cr fx fv sn be tr wy hI
      · refine g_tswIn F (tgt := 711) 17 dL_law_32 (by rw [h9]; rfl) rfl (by decide) hzr (by omega) ?_
        exact lc_over F hA hX hbl hbA hL i (by omega) _ _ hkc hnx kd lo hi co pa rk nu ct sa nc nr so X k ad tbf ql qc n1 S pl pr pu qu ke bu bc fs cd un hb pf ef fr cs cn ck ch tb cr fx fv sn be tr wy hI
      · refine g_tswIn F (tgt := 734) 18 dL_law_32 (by rw [h9]; rfl) rfl (by decide) hzr (by omega) ?_
        exact lc_take F hA hX hbl hbA hL i (by omega) _ _ hkc hnx kd lo hi co pa rk nu ct sa nc nr so X k ad tbf ql qc n1 S pl pr pu qu ke bu bc fs cd un hb pf ef fr cs cn ck ch tb cr fx fv sn be tr wy hI
      · refine g_tswIn F (tgt := 748) 19 dL_law_32 (by rw [h9]; rfl) rfl (by decide) hzr (by omega) ?_
        exact lc_price F hA hX hbl hbA hL i (by omega) _ _ hkc hnx kd lo hi co pa rk nu ct sa nc nr so X k ad tbf ql qc n1 S pl pr pu qu ke bu bc fs cd un hb pf ef fr cs cn ck ch tb cr fx fv sn be tr wy hI
      · refine g_tswIn F (tgt := 781) 20 dL_law_32 (by rw [h9]; rfl) rfl (by decide) hzr (by omega) ?_
        exact lc_pricesOver F hA hX hbl hbA hL i (by omega) _ _ hkc hnx kd lo hi co pa rk nu ct sa nc nr so X k ad tbf ql qc n1 S pl pr pu qu ke bu bc fs cd un hb pf ef fr cs cn ck ch tb cr fx fv sn be tr wy hI
      · refine g_tswIn F (tgt := 804) 21 dL_law_32 (by rw [h9]; rfl) rfl (by decide) hzr (by omega) ?_
        exact lc_check F hA hX hbl hbA hL i (by omega) _ _ hkc hnx kd lo hi co pa rk nu ct sa nc nr so X k ad tbf ql qc n1 S pl pr pu qu ke bu bc fs cd un hb pf ef fr cs cn ck ch tb cr fx fv sn be tr wy hI
      · refine g_tswIn F (tgt := 817) 22 dL_law_32 (by rw [h9]; rfl) rfl (by decide) hzr (by omega) ?_
        exact lc_shows F hA hX hbl hbA hL i (by omega) _ _ hkc hnx kd lo hi co pa rk nu ct sa nc nr so X k ad tbf ql qc n1 S pl pr pu qu ke bu bc fs cd un hb pf ef fr cs cn ck ch tb cr fx fv sn be tr wy hI
      · refine g_tswIn F (tgt := 830) 23 dL_law_32 (by rw [h9]; rfl) rfl (by decide) hzr (by omega) ?_
        exact lc_sum F hA hX hbl hbA hL i (by omega) _ _ hkc hnx kd lo hi co pa rk nu ct sa nc nr so X k ad tbf ql qc n1 S pl pr pu qu ke bu bc fs cd un hb pf ef fr cs cn ck ch tb cr fx fv sn be tr wy hI
      · refine g_tswIn F (tgt := 864) 24 dL_law_32 (by rw [h9]; rfl) rfl (by decide) hzr (by omega) ?_
        exact lc_count F hA hX hbl hbA hL i (by omega) _ _ hkc hnx kd lo hi co pa rk nu ct sa nc nr so X k ad tbf ql qc n1 S pl pr pu qu ke bu bc fs cd un hb pf ef fr cs cn ck ch tb cr fx fv sn be tr wy hI
      · refine g_tswOut F (tgt := 887) dL_law_32 hzr (by omega) (by decide) ?_
        refine g_widen (400 + 91 * i + 364) (4000 + 2028 * i + 8112) (by omega) (by omega) ?_
        exact hnx kd lo hi co pa rk nu ct sa nc nr so X k ad tbf ql qc n1 S pl pr pu qu ke bu bc fs cd un hb pf ef fr cs cn ck ch tb cr fx fv sn be tr wy hI
