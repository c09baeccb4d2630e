theorem perm_mid (Q T P : va_W) : (Q ++ T ++ P).Perm (T ++ (Q ++ P)) := by
  have h : (Q ++ T ++ P).Perm (T ++ Q ++ P) := List.perm_append_comm.append_right P
  rw [List.append_assoc T] at h
  exact h
theorem perm_mid' (Q T P : va_W) : ((Q ++ P) ++ T).Perm (Q ++ T ++ P) := List.perm_append_comm.trans (perm_mid Q T P).symm
theorem perm_end (Q T P : va_W) : (Q ++ T ++ P).Perm ((T ++ P) ++ Q) := by
  rw [List.append_assoc]
  exact List.perm_append_comm
abbrev bitZ (n r : Nat) : Int := ((n >>> r &&& 1 : Nat) : Int)
/-- some plan within the bounds keeps the rows of a set -/
def peaceP (rk nu sa lo hi : Nat → Int) (nc nr n : Nat) : Prop := ∃ y, inBox nc lo hi y ∧ phiP rk (bitZ n) sa nc nu nr y
theorem bit_01 (n r : Nat) : 0 ≤ bitZ n r ∧ bitZ n r ≤ 1 := by
  have h : n >>> r &&& 1 ≤ 1 := Nat.and_le_right
  show 0 ≤ ((n >>> r &&& 1 : Nat) : Int) ∧ ((n >>> r &&& 1 : Nat) : Int) ≤ 1
  omega
theorem rows_bit {nr : Nat} {rk nu ct sa : Nat → Int} (h : rowsOk nr rk nu ct sa) (n : Nat) : rowsOk nr rk nu (bitZ n) sa := ⟨h.1, h.2.1, h.2.2.1, h.2.2.2.1, fun j => bit_01 n j⟩
theorem bit_out {o x r : Nat} (h : o &&& x = 0) (hb : bitZ o r = 1) : x >>> r &&& 1 = 0 := by
  have h1 : o >>> r &&& 1 = 1 := by
    have h2 : ((o >>> r &&& 1 : Nat) : Int) = 1 := hb
    omega
  rw [bit_and] at h1 ⊢
  have h3 : (o &&& x).testBit r = false := by rw [h]; exact Nat.zero_testBit r
  rw [Nat.testBit_and] at h3
  by_cases q : o.testBit r = true
  · rw [q, Bool.true_and] at h3
    rw [h3, if_neg (by decide)]
  · rw [if_neg q] at h1; omega
theorem bit_or {x j k : Nat} (h : (x ||| 1 <<< k) >>> j &&& 1 = 0) : j ≠ k ∧ x >>> j &&& 1 = 0 := by
  rw [bit_and] at h
  rw [Nat.testBit_or, Nat.shiftLeft_eq, Nat.one_mul, Nat.testBit_two_pow] at h
  refine ⟨fun e => ?_, ?_⟩
  · subst e
    rw [decide_eq_true rfl, Bool.or_true, if_pos rfl] at h
    omega
  · rw [bit_and]
    by_cases q : x.testBit j = true
    · rw [q, Bool.true_or, if_pos rfl] at h; omega
    · rw [if_neg q]
theorem sum_big {f : Nat → Int} : ∀ n : Nat, (∀ j, j < n → -2000000000000 ≤ f j ∧ f j ≤ 2000000000000) → -2000000000000 * (n : Int) ≤ sumZ f n ∧ sumZ f n ≤ 2000000000000 * (n : Int)
  | 0, _ => ⟨by show (-2000000000000 : Int) * 0 ≤ 0; decide, by show (0 : Int) ≤ 2000000000000 * 0; decide⟩
  | n + 1, h => by
    have h1 := sum_big n (fun j hj => h j (by omega))
    have h2 := h n (by omega)
    show _ ≤ sumZ f n + f n ∧ sumZ f n + f n ≤ _
    omega
theorem nine_mul {s v : Int} (hs : -9 ≤ s ∧ s ≤ 9) (hv : -200000000000 ≤ v ∧ v ≤ 200000000000) : -2000000000000 ≤ s * v ∧ s * v ≤ 2000000000000 := by
  have h : s = -9 ∨ s = -8 ∨ s = -7 ∨ s = -6 ∨ s = -5 ∨ s = -4 ∨ s = -3 ∨ s = -2 ∨ s = -1 ∨ s = 0 ∨ s = 1 ∨ s = 2 ∨ s = 3 ∨ s = 4 ∨ s = 5 ∨ s = 6 ∨ s = 7 ∨ s = 8 ∨ s = 9 := by omega
  rcases h with h | h | h | h | h | h | h | h | h | h | h | h | h | h | h | h | h | h | h <;> rw [h] <;> omega
theorem sumZ_eq {f g : Nat → Int} : ∀ n : Nat, (∀ j, j < n → f j = g j) → sumZ f n = sumZ g n
  | 0, _ => rfl
  | n + 1, h => by
    show sumZ f n + f n = sumZ g n + g n
    rw [sumZ_eq n (fun j hj => h j (by omega)), h n (by omega)]
theorem val_big {nc : Nat} {S : TS} (hb : bndT nc S) (hs : staleT S) (c : Nat) : -200000000000 ≤ valZ (tLo S) (tCe S) (tBel S) c ∧ valZ (tLo S) (tCe S) (tBel S) c ≤ 200000000000 := by
  have h1 := hb.2.2.2.1 (1 + c)
  have h2 : 0 < tBel S ∧ tBel S ≤ 8000000 := hb.2.2.2.2.1
  have h3 := hs.2.2.2.2 c
  have h4 : -20 * tBel S ≤ tLo S c * tBel S := Int.mul_le_mul_of_nonneg_right h3.1 (by omega)
  have h5 : tLo S c * tBel S ≤ 20 * tBel S := Int.mul_le_mul_of_nonneg_right h3.2 (by omega)
  have h6 : -100000000000 ≤ tCe S ((1 + c) * 6 + 5) ∧ tCe S ((1 + c) * 6 + 5) ≤ 100000000000 := h1
  show -200000000000 ≤ tLo S c * tBel S + tCe S ((1 + c) * 6 + 5) ∧ tLo S c * tBel S + tCe S ((1 + c) * 6 + 5) ≤ 200000000000
  omega

set_option maxHeartbeats 4000000 in
set_option maxRecDepth 100000 in
theorem kX3_makesPeace (l : Launch) (D : va_G) (cA : Nat → ClassId) (q t : Nat → Nat) (pl pc : Nat → Int) (S : TS) (n1 : Nat) (a : Nat → Nat) (a_kd a_lo a_hi a_co a_pa a_rk a_nu a_ct a_sa : Nat → Int) (a_nc a_nr : Nat) (sn : Nat) (hsn : sn < 128) (hP : colsOk a_nc a_kd a_pa a_lo a_hi) (hco : ∀ j, -9 ≤ a_co j ∧ a_co j ≤ 9) (hR : rowsOk a_nr a_rk a_nu a_ct a_sa) (hS : staleT S) (hz : ∀ n, pc n = 0 ∨ pc n = 1) (hpc : ∀ n, n < 128 → pc n = 1 → peaceP a_rk a_nu a_sa a_lo a_hi a_nc a_nr n) :
    CT l yX3_makesPeace wsX3_makesPeace ({ frames := 4, cells := 0, slots := 0, locals := 100 }) D cA [.ref (q 0), .ref (a 0), iv ((sn : Nat) : Int)] (wQ cA q (t 0) pl pc ++ wTS cA t n1 (S) ++ wP cA a a_kd a_lo a_hi a_co a_pa a_rk a_nu a_ct a_sa ((a_nc : Nat) : Int) ((a_nr : Nat) : Int)) (fun ov ow => ∃ (S' : TS) (pl' pc' : Nat → Int), ov = some (iv (@ite Int (peaceP a_rk a_nu a_sa a_lo a_hi a_nc a_nr sn) (Classical.propDecidable _) 1 0)) ∧ staleT S' ∧ (∀ n, pc' n = 0 ∨ pc' n = 1) ∧ (∀ n, n < 128 → pc' n = 1 → peaceP a_rk a_nu a_sa a_lo a_hi a_nc a_nr n) ∧ ow = wQ cA q (t 0) pl' pc' ++ wTS cA t a_nc (S') ++ wP cA a a_kd a_lo a_hi a_co a_pa a_rk a_nu a_ct a_sa ((a_nc : Nat) : Int) ((a_nr : Nat) : Int)) 0 0 := by
  refine CT.mk (cc := cX3_makesPeace) (maxL := 5) (ret := (some .boolean)) (by decide +kernel) rfl (Nat.le_of_ble_eq_true rfl) ?_
  intro p_ e_ s_ m_ b_ me_ c_ A F hnm hA
  have hV := @IM_P D s_ A
  have iX2 : ∀ w ∈ u_ws RX2 TX2 11, w ∈ wsX3_makesPeace := by decide +kernel
  have iX3 : ∀ w ∈ u_ws RX3 TX3 3, w ∈ wsX3_makesPeace := by decide +kernel
  have iX5 : ∀ w ∈ u_ws RX5 TX5 10, w ∈ wsX3_makesPeace := by decide +kernel
  have qnc : a_nc ≤ 5 := hP.1
  obtain ⟨hnr, hrk, hnu, hsa, hct⟩ := id hR
  have hR2 := rows_bit hR sn
  obtain ⟨hGd, hbD, hsD, hyes, hno⟩ := peace_desc (nr := a_nr) hP hR2 hS
  have lp145 : (descT a_nc 1000000 (layQ a_kd a_rk a_nu (bitZ sn) a_sa a_lo a_hi a_nc S a_nr)).2 = true → ∀ (x : Nat) (pl1 : Nat → Int), x < 128 → (∀ j, j < a_nr → x >>> j &&& 1 = 0 → keptP (a_rk j) (sumZ (fun c => a_sa (j * 5 + c) * cpV a_nc (descT a_nc 1000000 (layQ a_kd a_rk a_nu (bitZ sn) a_sa a_lo a_hi a_nc S a_nr)).1 (1 + c)) a_nc) (a_nu j * cpV a_nc (descT a_nc 1000000 (layQ a_kd a_rk a_nu (bitZ sn) a_sa a_lo a_hi a_nc S a_nr)).1 0)) → ∀ (f o : Nat) (pc1 : Nat → Int), o ≤ 128 → (∀ n, pc1 n = 0 ∨ pc1 n = 1) → (∀ n, n < 128 → pc1 n = 1 → peaceP a_rk a_nu a_sa a_lo a_hi a_nc a_nr n) → 128 - o < f → GW p_ l e_ (headSpec wsX3_makesPeace ({ frames := 4, cells := 0, slots := 0, locals := 100 })).room s_ m_ ([.ref (q 0), .ref (a 0), iv ((sn : Nat) : Int)]).toArray b_ me_ c_ (MQ b_ (Qm D (fun ov ow => ∃ (S' : TS) (pl' pc' : Nat → Int), ov = some (iv (@ite Int (peaceP a_rk a_nu a_sa a_lo a_hi a_nc a_nr sn) (Classical.propDecidable _) 1 0)) ∧ staleT S' ∧ (∀ n, pc' n = 0 ∨ pc' n = 1) ∧ (∀ n, n < 128 → pc' n = 1 → peaceP a_rk a_nu a_sa a_lo a_hi a_nc a_nr n) ∧ ow = wQ cA q (t 0) pl' pc' ++ wTS cA t a_nc (S') ++ wP cA a a_kd a_lo a_hi a_co a_pa a_rk a_nu a_ct a_sa ((a_nc : Nat) : Int) ((a_nr : Nat) : Int)) A) ([.ref (q 0), .ref (a 0), iv ((sn : Nat) : Int)]).toArray s_ 0 0 A) (IM D s_ A) 5 0 0 (wQ cA q (t 0) pl1 pc1 ++ wTS cA t a_nc ((descT a_nc 1000000 (layQ a_kd a_rk a_nu (bitZ sn) a_sa a_lo a_hi a_nc S a_nr)).1) ++ wP cA a a_kd a_lo a_hi a_co a_pa a_rk a_nu a_ct a_sa ((a_nc : Nat) : Int) ((a_nr : Nat) : Int)) ([(4, iv (((o : Nat) : Int))), (3, iv (((x : Nat) : Int))), (0, .ref (q 0)), (1, .ref (a 0)), (2, iv ((sn : Nat) : Int))]) [] 145 := by
    intro ht x pl1 hx hbr f
    induction f with
    | zero => intros; omega
    | succ f ih =>
      intro o pc1 ho hz1 hp1 hmu
      refine g_iload F 0 rfl dX3_makesPeace_145 ?_
      refine g_sipush F dX3_makesPeace_147 (by decide) ?_
      refine g_icmp_ge F (tgt := 188) dX3_makesPeace_150 (by decide) ⟨by omega, by omega⟩ ⟨by decide, by decide⟩ (fun c1 => ?_) (fun c1 => ?_)
      · refine g_iconst F dX3_makesPeace_188 ?_
        have hpe : peaceP a_rk a_nu a_sa a_lo a_hi a_nc a_nr sn := ⟨_, hyes ht⟩
        exact g_zret F rfl (nar_01 (Or.inr rfl)) (by decide) (by decide) ⟨_, pl1, pc1, by rw [if_pos hpe], hsD, hz1, hp1, rfl⟩ dX3_makesPeace_189
      · have at181 : ∀ v : Int, (v = 0 ∨ v = 1) → (v = 1 → peaceP a_rk a_nu a_sa a_lo a_hi a_nc a_nr o) → GW p_ l e_ (headSpec wsX3_makesPeace ({ frames := 4, cells := 0, slots := 0, locals := 100 })).room s_ m_ ([.ref (q 0), .ref (a 0), iv ((sn : Nat) : Int)]).toArray b_ me_ c_ (MQ b_ (Qm D (fun ov ow => ∃ (S' : TS) (pl' pc' : Nat → Int), ov = some (iv (@ite Int (peaceP a_rk a_nu a_sa a_lo a_hi a_nc a_nr sn) (Classical.propDecidable _) 1 0)) ∧ staleT S' ∧ (∀ n, pc' n = 0 ∨ pc' n = 1) ∧ (∀ n, n < 128 → pc' n = 1 → peaceP a_rk a_nu a_sa a_lo a_hi a_nc a_nr n) ∧ ow = wQ cA q (t 0) pl' pc' ++ wTS cA t a_nc (S') ++ wP cA a a_kd a_lo a_hi a_co a_pa a_rk a_nu a_ct a_sa ((a_nc : Nat) : Int) ((a_nr : Nat) : Int)) A) ([.ref (q 0), .ref (a 0), iv ((sn : Nat) : Int)]).toArray s_ 0 0 A) (IM D s_ A) 5 0 0 (wQ cA q (t 0) pl1 pc1 ++ wTS cA t a_nc ((descT a_nc 1000000 (layQ a_kd a_rk a_nu (bitZ sn) a_sa a_lo a_hi a_nc S a_nr)).1) ++ wP cA a a_kd a_lo a_hi a_co a_pa a_rk a_nu a_ct a_sa ((a_nc : Nat) : Int) ((a_nr : Nat) : Int)) ([(4, iv (((o : Nat) : Int))), (3, iv (((x : Nat) : Int))), (0, .ref (q 0)), (1, .ref (a 0)), (2, iv ((sn : Nat) : Int))]) [iv v, iv (((o : Nat) : Int)), .ref (q 2)] 181 := by
          intro v hv hvp
          refine g_zast F 2 rfl o hv rfl (by omega) (by decide) (wQ cA q (t 0) pl1 (va_up pc1 o v) ++ wTS cA t a_nc ((descT a_nc 1000000 (layQ a_kd a_rk a_nu (bitZ sn) a_sa a_lo a_hi a_nc S a_nr)).1) ++ wP cA a a_kd a_lo a_hi a_co a_pa a_rk a_nu a_ct a_sa ((a_nc : Nat) : Int) ((a_nr : Nat) : Int)) rfl dX3_makesPeace_181 ?_
          refine g_iinc F 0 rfl ([(4, iv (((o : Nat) : Int) + 1)), (3, iv (((x : Nat) : Int))), (0, .ref (q 0)), (1, .ref (a 0)), (2, iv ((sn : Nat) : Int))]) rfl (by decide) dX3_makesPeace_182 ?_
          refine g_goto F (tgt := 145) dX3_makesPeace_185 (by decide) ?_
          exact ih (o + 1) (va_up pc1 o v) (by omega) (fun n => by
            unfold va_up
            split
            · exact hv
            · exact hz1 n) (fun n hn => by
            unfold va_up
            split
            · rename_i e
              intro q; rw [e]; exact hvp q
            · exact hp1 n hn) (by omega)
        refine g_aload_n F 2 rfl rfl dX3_makesPeace_153 ?_
        refine g_get F hV iX3 0 rfl rfl 2 (by decide) (List.mem_of_getElem? (i := 7) rfl) rfl dX3_makesPeace_154 ?_
        refine g_iload F 0 rfl dX3_makesPeace_157 ?_
        refine g_aload_n F 2 rfl rfl dX3_makesPeace_159 ?_
        refine g_get F hV iX3 0 rfl rfl 2 (by decide) (List.mem_of_getElem? (i := 7) rfl) rfl dX3_makesPeace_160 ?_
        refine g_iload F 0 rfl dX3_makesPeace_163 ?_
        refine g_zald F hV 2 rfl o rfl (by omega) (by decide) dX3_makesPeace_165 ?_
        have hzo := hz1 o
        have at176 : peaceP a_rk a_nu a_sa a_lo a_hi a_nc a_nr o → GW p_ l e_ (headSpec wsX3_makesPeace ({ frames := 4, cells := 0, slots := 0, locals := 100 })).room s_ m_ ([.ref (q 0), .ref (a 0), iv ((sn : Nat) : Int)]).toArray b_ me_ c_ (MQ b_ (Qm D (fun ov ow => ∃ (S' : TS) (pl' pc' : Nat → Int), ov = some (iv (@ite Int (peaceP a_rk a_nu a_sa a_lo a_hi a_nc a_nr sn) (Classical.propDecidable _) 1 0)) ∧ staleT S' ∧ (∀ n, pc' n = 0 ∨ pc' n = 1) ∧ (∀ n, n < 128 → pc' n = 1 → peaceP a_rk a_nu a_sa a_lo a_hi a_nc a_nr n) ∧ ow = wQ cA q (t 0) pl' pc' ++ wTS cA t a_nc (S') ++ wP cA a a_kd a_lo a_hi a_co a_pa a_rk a_nu a_ct a_sa ((a_nc : Nat) : Int) ((a_nr : Nat) : Int)) A) ([.ref (q 0), .ref (a 0), iv ((sn : Nat) : Int)]).toArray s_ 0 0 A) (IM D s_ A) 5 0 0 (wQ cA q (t 0) pl1 pc1 ++ wTS cA t a_nc ((descT a_nc 1000000 (layQ a_kd a_rk a_nu (bitZ sn) a_sa a_lo a_hi a_nc S a_nr)).1) ++ wP cA a a_kd a_lo a_hi a_co a_pa a_rk a_nu a_ct a_sa ((a_nc : Nat) : Int) ((a_nr : Nat) : Int)) ([(4, iv (((o : Nat) : Int))), (3, iv (((x : Nat) : Int))), (0, .ref (q 0)), (1, .ref (a 0)), (2, iv ((sn : Nat) : Int))]) [iv (((o : Nat) : Int)), .ref (q 2)] 176 := by
          intro hpo
          refine g_iconst F dX3_makesPeace_176 ?_
          refine g_goto F (tgt := 181) dX3_makesPeace_177 (by decide) ?_
          exact at181 1 (Or.inr rfl) (fun _ => hpo)
        refine g_if_ne F (tgt := 176) dX3_makesPeace_166 (by decide) ⟨by omega, by omega⟩ (fun c2 => ?_) (fun c2 => ?_)
        · exact at176 (hp1 o (by omega) (by omega))
        · refine g_iload F 0 rfl dX3_makesPeace_169 ?_
          refine g_iload_n F 1 rfl rfl dX3_makesPeace_171 ?_
          refine g_iand F (a := o) (b := x) rfl rfl dX3_makesPeace_172 ?_
          have hax : o &&& x ≤ o := Nat.and_le_left
          refine g_if_ne F (tgt := 180) dX3_makesPeace_173 (by decide) ⟨by omega, by omega⟩ (fun c3 => ?_) (fun c3 => ?_)
          · refine g_iconst F dX3_makesPeace_180 ?_
            exact at181 0 (Or.inl rfl) (fun w => by omega)
          · exact at176 ⟨cpV a_nc (descT a_nc 1000000 (layQ a_kd a_rk a_nu (bitZ sn) a_sa a_lo a_hi a_nc S a_nr)).1, (hyes ht).1, fun r hr hb => hbr r hr (bit_out (by omega) hb)⟩
  have lp96 : (descT a_nc 1000000 (layQ a_kd a_rk a_nu (bitZ sn) a_sa a_lo a_hi a_nc S a_nr)).2 = true → ∀ (pl1 : Nat → Int), (∀ j, j < a_nc → pl1 j = cpV a_nc (descT a_nc 1000000 (layQ a_kd a_rk a_nu (bitZ sn) a_sa a_lo a_hi a_nc S a_nr)).1 (1 + j)) → ∀ (f r x : Nat), r ≤ a_nr → x < 128 → (∀ j, j < r → x >>> j &&& 1 = 0 → keptP (a_rk j) (sumZ (fun c => a_sa (j * 5 + c) * cpV a_nc (descT a_nc 1000000 (layQ a_kd a_rk a_nu (bitZ sn) a_sa a_lo a_hi a_nc S a_nr)).1 (1 + c)) a_nc) (a_nu j * cpV a_nc (descT a_nc 1000000 (layQ a_kd a_rk a_nu (bitZ sn) a_sa a_lo a_hi a_nc S a_nr)).1 0)) → a_nr - r < f → GW p_ l e_ (headSpec wsX3_makesPeace ({ frames := 4, cells := 0, slots := 0, locals := 100 })).room s_ m_ ([.ref (q 0), .ref (a 0), iv ((sn : Nat) : Int)]).toArray b_ me_ c_ (MQ b_ (Qm D (fun ov ow => ∃ (S' : TS) (pl' pc' : Nat → Int), ov = some (iv (@ite Int (peaceP a_rk a_nu a_sa a_lo a_hi a_nc a_nr sn) (Classical.propDecidable _) 1 0)) ∧ staleT S' ∧ (∀ n, pc' n = 0 ∨ pc' n = 1) ∧ (∀ n, n < 128 → pc' n = 1 → peaceP a_rk a_nu a_sa a_lo a_hi a_nc a_nr n) ∧ ow = wQ cA q (t 0) pl' pc' ++ wTS cA t a_nc (S') ++ wP cA a a_kd a_lo a_hi a_co a_pa a_rk a_nu a_ct a_sa ((a_nc : Nat) : Int) ((a_nr : Nat) : Int)) A) ([.ref (q 0), .ref (a 0), iv ((sn : Nat) : Int)]).toArray s_ 0 0 A) (IM D s_ A) 5 0 0 (wQ cA q (t 0) pl1 pc ++ wTS cA t a_nc ((descT a_nc 1000000 (layQ a_kd a_rk a_nu (bitZ sn) a_sa a_lo a_hi a_nc S a_nr)).1) ++ wP cA a a_kd a_lo a_hi a_co a_pa a_rk a_nu a_ct a_sa ((a_nc : Nat) : Int) ((a_nr : Nat) : Int)) ([(4, iv (((r : Nat) : Int))), (3, iv (((x : Nat) : Int))), (0, .ref (q 0)), (1, .ref (a 0)), (2, iv ((sn : Nat) : Int))]) [] 96 := by
    intro ht pl1 hpl f
    induction f with
    | zero => intros; omega
    | succ f ih =>
      intro r x hr hx hbr hmu
      refine g_iload F 0 rfl dX3_makesPeace_96 ?_
      refine g_aload_n F 3 rfl rfl dX3_makesPeace_98 ?_
      refine g_get F hV iX2 10 rfl rfl 10 (by decide) (List.mem_of_getElem? (i := 2) rfl) rfl dX3_makesPeace_99 ?_
      refine g_icmp_ge F (tgt := 142) dX3_makesPeace_102 (by decide) ⟨by omega, by omega⟩ ⟨by omega, by omega⟩ (fun c1 => ?_) (fun c1 => ?_)
      · refine g_iconst F dX3_makesPeace_142 ?_
        refine g_istore F ([(4, iv (((0 : Nat) : Int))), (3, iv (((x : Nat) : Int))), (0, .ref (q 0)), (1, .ref (a 0)), (2, iv ((sn : Nat) : Int))]) rfl (by decide) dX3_makesPeace_143 ?_
        exact lp145 ht x pl1 hx (fun j hj => hbr j (by omega)) 129 0 pc (by omega) hz hpc (by omega)
      · have hr7 : r < 7 := by omega
        have hbl : 0 < tBel (descT a_nc 1000000 (layQ a_kd a_rk a_nu (bitZ sn) a_sa a_lo a_hi a_nc S a_nr)).1 ∧ tBel (descT a_nc 1000000 (layQ a_kd a_rk a_nu (bitZ sn) a_sa a_lo a_hi a_nc S a_nr)).1 ≤ 8000000 := hbD.2.2.2.2.1
        have hsb := sum_big (f := fun j => a_sa (r * 5 + j) * pl1 j) a_nc (fun j hj => by
          show -2000000000000 ≤ a_sa (r * 5 + j) * pl1 j ∧ a_sa (r * 5 + j) * pl1 j ≤ 2000000000000
          rw [hpl j hj, cp_c hj]
          exact nine_mul (hsa _) (val_big hbD hsD j))
        have hn1 : -99 * tBel (descT a_nc 1000000 (layQ a_kd a_rk a_nu (bitZ sn) a_sa a_lo a_hi a_nc S a_nr)).1 ≤ a_nu r * tBel (descT a_nc 1000000 (layQ a_kd a_rk a_nu (bitZ sn) a_sa a_lo a_hi a_nc S a_nr)).1 := Int.mul_le_mul_of_nonneg_right (hnu r).1 (by omega)
        have hn2 : a_nu r * tBel (descT a_nc 1000000 (layQ a_kd a_rk a_nu (bitZ sn) a_sa a_lo a_hi a_nc S a_nr)).1 ≤ 99 * tBel (descT a_nc 1000000 (layQ a_kd a_rk a_nu (bitZ sn) a_sa a_lo a_hi a_nc S a_nr)).1 := Int.mul_le_mul_of_nonneg_right (hnu r).2 (by omega)
        have hse : sumZ (fun j => a_sa (r * 5 + j) * pl1 j) a_nc = sumZ (fun c => a_sa (r * 5 + c) * cpV a_nc (descT a_nc 1000000 (layQ a_kd a_rk a_nu (bitZ sn) a_sa a_lo a_hi a_nc S a_nr)).1 (1 + c)) a_nc := sumZ_eq a_nc (fun j hj => by
          show a_sa (r * 5 + j) * pl1 j = a_sa (r * 5 + j) * cpV a_nc (descT a_nc 1000000 (layQ a_kd a_rk a_nu (bitZ sn) a_sa a_lo a_hi a_nc S a_nr)).1 (1 + j)
          rw [hpl j hj])
        have hsl : 1 <<< r < 128 := by
          rw [Nat.shiftLeft_eq, Nat.one_mul]
          exact Nat.lt_of_lt_of_le (Nat.pow_lt_pow_right (by omega) hr7) (by decide)
        have at134 : ∀ y : Nat, x ||| y < 128 → (∀ j, j < r + 1 → (x ||| y) >>> j &&& 1 = 0 → keptP (a_rk j) (sumZ (fun c => a_sa (j * 5 + c) * cpV a_nc (descT a_nc 1000000 (layQ a_kd a_rk a_nu (bitZ sn) a_sa a_lo a_hi a_nc S a_nr)).1 (1 + c)) a_nc) (a_nu j * cpV a_nc (descT a_nc 1000000 (layQ a_kd a_rk a_nu (bitZ sn) a_sa a_lo a_hi a_nc S a_nr)).1 0)) → GW p_ l e_ (headSpec wsX3_makesPeace ({ frames := 4, cells := 0, slots := 0, locals := 100 })).room s_ m_ ([.ref (q 0), .ref (a 0), iv ((sn : Nat) : Int)]).toArray b_ me_ c_ (MQ b_ (Qm D (fun ov ow => ∃ (S' : TS) (pl' pc' : Nat → Int), ov = some (iv (@ite Int (peaceP a_rk a_nu a_sa a_lo a_hi a_nc a_nr sn) (Classical.propDecidable _) 1 0)) ∧ staleT S' ∧ (∀ n, pc' n = 0 ∨ pc' n = 1) ∧ (∀ n, n < 128 → pc' n = 1 → peaceP a_rk a_nu a_sa a_lo a_hi a_nc a_nr n) ∧ ow = wQ cA q (t 0) pl' pc' ++ wTS cA t a_nc (S') ++ wP cA a a_kd a_lo a_hi a_co a_pa a_rk a_nu a_ct a_sa ((a_nc : Nat) : Int) ((a_nr : Nat) : Int)) A) ([.ref (q 0), .ref (a 0), iv ((sn : Nat) : Int)]).toArray s_ 0 0 A) (IM D s_ A) 5 0 0 (wQ cA q (t 0) pl1 pc ++ wTS cA t a_nc ((descT a_nc 1000000 (layQ a_kd a_rk a_nu (bitZ sn) a_sa a_lo a_hi a_nc S a_nr)).1) ++ wP cA a a_kd a_lo a_hi a_co a_pa a_rk a_nu a_ct a_sa ((a_nc : Nat) : Int) ((a_nr : Nat) : Int)) ([(4, iv (((r : Nat) : Int))), (3, iv (((x : Nat) : Int))), (0, .ref (q 0)), (1, .ref (a 0)), (2, iv ((sn : Nat) : Int))]) [iv (((y : Nat) : Int)), iv (((x : Nat) : Int))] 134 := by
          intro y hxy hb2
          refine g_ior F (a := x) (b := y) rfl rfl dX3_makesPeace_134 ?_
          refine g_istore_n F ([(3, iv (((x ||| y : Nat) : Int))), (4, iv (((r : Nat) : Int))), (0, .ref (q 0)), (1, .ref (a 0)), (2, iv ((sn : Nat) : Int))]) rfl rfl (by decide) dX3_makesPeace_135 ?_
          refine g_iinc F 1 rfl ([(4, iv (((r : Nat) : Int) + 1)), (3, iv (((x ||| y : Nat) : Int))), (0, .ref (q 0)), (1, .ref (a 0)), (2, iv ((sn : Nat) : Int))]) rfl (by decide) dX3_makesPeace_136 ?_
          refine g_goto F (tgt := 96) dX3_makesPeace_139 (by decide) ?_
          exact ih (r + 1) (x ||| y) (by omega) hxy hb2 (by omega)
        refine g_iload_n F 1 rfl rfl dX3_makesPeace_105 ?_
        refine g_aload_n F 3 rfl rfl dX3_makesPeace_106 ?_
        refine g_iload F 0 rfl dX3_makesPeace_107 ?_
        refine g_aload_n F 2 rfl rfl dX3_makesPeace_109 ?_
        refine g_get F hV iX3 0 rfl rfl 1 (by decide) (List.mem_of_getElem? (i := 5) rfl) rfl dX3_makesPeace_110 ?_
        refine g_aload_n F 2 rfl rfl dX3_makesPeace_113 ?_
        refine g_get F hV iX3 0 rfl rfl 0 (by decide) (List.mem_of_getElem? (i := 1) rfl) rfl dX3_makesPeace_114 ?_
        refine g_get F hV iX5 3 rfl rfl 8 (by decide) (List.mem_of_getElem? (i := 6) rfl) rfl dX3_makesPeace_117 ?_
        refine g_callRV F hV (As := [iv (((r : Nat) : Int)), .ref (q 1), jv (tBel (descT a_nc 1000000 (layQ a_kd a_rk a_nu (bitZ sn) a_sa a_lo a_hi a_nc S a_nr)).1)]) (rest := [iv (((x : Nat) : Int))]) (kX2_isKept l D cA a a_kd a_lo a_hi a_co a_pa a_rk a_nu a_ct a_sa a_nc a_nr (fun _ => q 1) pl1 r (tBel (descT a_nc 1000000 (layQ a_kd a_rk a_nu (bitZ sn) a_sa a_lo a_hi a_nc S a_nr)).1) hr7 qnc hsa (fun j => by have := hnu j; omega) hrk ⟨by omega, by omega⟩ ⟨by omega, by omega⟩) (cwV 3 F.2.2.2.2.1 gX3_makesPeace_X2_isKept rfl rfl rfl (by decide +kernel) ⟨(Nat.le_of_ble_eq_true rfl), (Nat.le_of_ble_eq_true rfl)⟩) rfl rfl (q0 := 0) rfl [10, 11, 12, 13, 14, 15, 16, 17, 18, 19, 1] rfl rfl rfl (Nat.le_of_ble_eq_true rfl) ⟨(Nat.le_of_ble_eq_true rfl), (Nat.le_of_ble_eq_true rfl)⟩ dX3_makesPeace_120 (fun v hv => ?_)
        subst hv
        refine g_eq (st' := [iv (if keptP (a_rk r) (sumZ (fun j => a_sa (r * 5 + j) * pl1 j) a_nc) (a_nu r * tBel (descT a_nc 1000000 (layQ a_kd a_rk a_nu (bitZ sn) a_sa a_lo a_hi a_nc S a_nr)).1) then 1 else 0), iv (((x : Nat) : Int))]) rfl rfl rfl ?_
        refine g_ifb_eq F (tgt := 130) dX3_makesPeace_123 (by decide) (fun c2 => ?_) (fun c2 => ?_)
        · refine g_iconst F dX3_makesPeace_130 ?_
          refine g_iload F 0 rfl dX3_makesPeace_131 ?_
          refine g_ishl F (a := 1) (b := r) rfl rfl (by omega) (by omega) dX3_makesPeace_133 ?_
          refine at134 (1 <<< r) (Nat.or_lt_two_pow (n := 7) hx hsl) (fun j hj hb => ?_)
          obtain ⟨e1, e2⟩ := bit_or hb
          exact hbr j (by omega) e2
        · refine g_iconst F dX3_makesPeace_126 ?_
          refine g_goto F (tgt := 134) dX3_makesPeace_127 (by decide) ?_
          refine at134 0 (by rw [Nat.or_zero]; exact hx) (fun j hj hb => ?_)
          rw [Nat.or_zero] at hb
          rcases (show j < r ∨ j = r by omega) with w | w
          · exact hbr j w hb
          · subst w
            rw [hse] at c2
            rw [cp_0]
            exact c2
  have lp63 : (descT a_nc 1000000 (layQ a_kd a_rk a_nu (bitZ sn) a_sa a_lo a_hi a_nc S a_nr)).2 = true → ∀ (f c : Nat) (pl1 : Nat → Int), c ≤ a_nc → (∀ j, j < c → pl1 j = cpV a_nc (descT a_nc 1000000 (layQ a_kd a_rk a_nu (bitZ sn) a_sa a_lo a_hi a_nc S a_nr)).1 (1 + j)) → a_nc - c < f → GW p_ l e_ (headSpec wsX3_makesPeace ({ frames := 4, cells := 0, slots := 0, locals := 100 })).room s_ m_ ([.ref (q 0), .ref (a 0), iv ((sn : Nat) : Int)]).toArray b_ me_ c_ (MQ b_ (Qm D (fun ov ow => ∃ (S' : TS) (pl' pc' : Nat → Int), ov = some (iv (@ite Int (peaceP a_rk a_nu a_sa a_lo a_hi a_nc a_nr sn) (Classical.propDecidable _) 1 0)) ∧ staleT S' ∧ (∀ n, pc' n = 0 ∨ pc' n = 1) ∧ (∀ n, n < 128 → pc' n = 1 → peaceP a_rk a_nu a_sa a_lo a_hi a_nc a_nr n) ∧ ow = wQ cA q (t 0) pl' pc' ++ wTS cA t a_nc (S') ++ wP cA a a_kd a_lo a_hi a_co a_pa a_rk a_nu a_ct a_sa ((a_nc : Nat) : Int) ((a_nr : Nat) : Int)) A) ([.ref (q 0), .ref (a 0), iv ((sn : Nat) : Int)]).toArray s_ 0 0 A) (IM D s_ A) 5 0 0 (wQ cA q (t 0) pl1 pc ++ wTS cA t a_nc ((descT a_nc 1000000 (layQ a_kd a_rk a_nu (bitZ sn) a_sa a_lo a_hi a_nc S a_nr)).1) ++ wP cA a a_kd a_lo a_hi a_co a_pa a_rk a_nu a_ct a_sa ((a_nc : Nat) : Int) ((a_nr : Nat) : Int)) ([(3, iv (((c : Nat) : Int))), (0, .ref (q 0)), (1, .ref (a 0)), (2, iv ((sn : Nat) : Int))]) [] 63 := by
    intro ht f
    induction f with
    | zero => intros; omega
    | succ f ih =>
      intro c pl1 hc hpl hmu
      refine g_iload_n F 0 rfl rfl dX3_makesPeace_63 ?_
      refine g_aload_n F 2 rfl rfl dX3_makesPeace_64 ?_
      refine g_get F hV iX2 10 rfl rfl 9 (by decide) (List.mem_of_getElem? (i := 4) rfl) rfl dX3_makesPeace_65 ?_
      refine g_icmp_ge F (tgt := 91) dX3_makesPeace_68 (by decide) ⟨by omega, by omega⟩ ⟨by omega, by omega⟩ (fun c1 => ?_) (fun c1 => ?_)
      · refine g_iconst F dX3_makesPeace_91 ?_
        refine g_istore_n F ([(3, iv (((0 : Nat) : Int))), (0, .ref (q 0)), (1, .ref (a 0)), (2, iv ((sn : Nat) : Int))]) rfl rfl (by decide) dX3_makesPeace_92 ?_
        refine g_iconst F dX3_makesPeace_93 ?_
        refine g_istore F ([(4, iv (((0 : Nat) : Int))), (3, iv (((0 : Nat) : Int))), (0, .ref (q 0)), (1, .ref (a 0)), (2, iv ((sn : Nat) : Int))]) rfl (by decide) dX3_makesPeace_94 ?_
        exact lp96 ht pl1 (fun j hj => hpl j (by omega)) (a_nr + 1) 0 0 (by omega) (by omega) (fun j hj => absurd hj (Nat.not_lt_zero j)) (by omega)
      · refine g_aload_n F 1 rfl rfl dX3_makesPeace_71 ?_
        refine g_get F hV iX3 0 rfl rfl 1 (by decide) (List.mem_of_getElem? (i := 5) rfl) rfl dX3_makesPeace_72 ?_
        refine g_iload_n F 0 rfl rfl dX3_makesPeace_75 ?_
        refine g_aload_n F 1 rfl rfl dX3_makesPeace_76 ?_
        refine g_get F hV iX3 0 rfl rfl 0 (by decide) (List.mem_of_getElem? (i := 1) rfl) rfl dX3_makesPeace_77 ?_
        refine g_iload_n F 0 rfl rfl dX3_makesPeace_80 ?_
        refine g_callRV F hV (As := [iv (((c : Nat) : Int))]) (rest := [iv (((c : Nat) : Int)), .ref (q 1)]) (kX5_valueAbove l D cA t ((descT a_nc 1000000 (layQ a_kd a_rk a_nu (bitZ sn) a_sa a_lo a_hi a_nc S a_nr)).1).1 ((descT a_nc 1000000 (layQ a_kd a_rk a_nu (bitZ sn) a_sa a_lo a_hi a_nc S a_nr)).1).2.1 ((descT a_nc 1000000 (layQ a_kd a_rk a_nu (bitZ sn) a_sa a_lo a_hi a_nc S a_nr)).1).2.2.1 ((descT a_nc 1000000 (layQ a_kd a_rk a_nu (bitZ sn) a_sa a_lo a_hi a_nc S a_nr)).1).2.2.2.1 ((descT a_nc 1000000 (layQ a_kd a_rk a_nu (bitZ sn) a_sa a_lo a_hi a_nc S a_nr)).1).2.2.2.2.1 ((descT a_nc 1000000 (layQ a_kd a_rk a_nu (bitZ sn) a_sa a_lo a_hi a_nc S a_nr)).1).2.2.2.2.2.1 a_nc ((descT a_nc 1000000 (layQ a_kd a_rk a_nu (bitZ sn) a_sa a_lo a_hi a_nc S a_nr)).1).2.2.2.2.2.2.1 ((descT a_nc 1000000 (layQ a_kd a_rk a_nu (bitZ sn) a_sa a_lo a_hi a_nc S a_nr)).1).2.2.2.2.2.2.2.1 ((descT a_nc 1000000 (layQ a_kd a_rk a_nu (bitZ sn) a_sa a_lo a_hi a_nc S a_nr)).1).2.2.2.2.2.2.2.2 c (by omega) hsD.2.2.2.2) (cwV 1 F.2.2.2.2.1 gX3_makesPeace_X5_valueAbove rfl rfl rfl (by decide +kernel) ⟨(Nat.le_of_ble_eq_true rfl), (Nat.le_of_ble_eq_true rfl)⟩) rfl rfl (q0 := 0) rfl [3, 4, 5, 6, 7, 8, 9] rfl rfl rfl (Nat.le_of_ble_eq_true rfl) ⟨(Nat.le_of_ble_eq_true rfl), (Nat.le_of_ble_eq_true rfl)⟩ dX3_makesPeace_81 (fun v hv => ?_)
        subst hv
        refine g_eq (st' := [jv (valZ (tLo (descT a_nc 1000000 (layQ a_kd a_rk a_nu (bitZ sn) a_sa a_lo a_hi a_nc S a_nr)).1) (tCe (descT a_nc 1000000 (layQ a_kd a_rk a_nu (bitZ sn) a_sa a_lo a_hi a_nc S a_nr)).1) (tBel (descT a_nc 1000000 (layQ a_kd a_rk a_nu (bitZ sn) a_sa a_lo a_hi a_nc S a_nr)).1) c), iv (((c : Nat) : Int)), .ref (q 1)]) rfl rfl rfl ?_
        refine g_last F 1 rfl c rfl (by omega) (by decide) (wQ cA q (t 0) (va_up pl1 c (valZ (tLo (descT a_nc 1000000 (layQ a_kd a_rk a_nu (bitZ sn) a_sa a_lo a_hi a_nc S a_nr)).1) (tCe (descT a_nc 1000000 (layQ a_kd a_rk a_nu (bitZ sn) a_sa a_lo a_hi a_nc S a_nr)).1) (tBel (descT a_nc 1000000 (layQ a_kd a_rk a_nu (bitZ sn) a_sa a_lo a_hi a_nc S a_nr)).1) c)) pc ++ wTS cA t a_nc ((descT a_nc 1000000 (layQ a_kd a_rk a_nu (bitZ sn) a_sa a_lo a_hi a_nc S a_nr)).1) ++ wP cA a a_kd a_lo a_hi a_co a_pa a_rk a_nu a_ct a_sa ((a_nc : Nat) : Int) ((a_nr : Nat) : Int)) rfl dX3_makesPeace_84 ?_
        refine g_iinc F 0 rfl ([(3, iv (((c : Nat) : Int) + 1)), (0, .ref (q 0)), (1, .ref (a 0)), (2, iv ((sn : Nat) : Int))]) rfl (by decide) dX3_makesPeace_85 ?_
        refine g_goto F (tgt := 63) dX3_makesPeace_88 (by decide) ?_
        exact ih (c + 1) _ (by omega) (fun j hj => by
          unfold va_up
          split
          · rename_i e
            rw [e, cp_c (by omega)]
          · exact hpl j (by omega)) (by omega)
  have lp11 : ∀ (f r : Nat), r ≤ a_nr → a_nr - r < f → GW p_ l e_ (headSpec wsX3_makesPeace ({ frames := 4, cells := 0, slots := 0, locals := 100 })).room s_ m_ ([.ref (q 0), .ref (a 0), iv ((sn : Nat) : Int)]).toArray b_ me_ c_ (MQ b_ (Qm D (fun ov ow => ∃ (S' : TS) (pl' pc' : Nat → Int), ov = some (iv (@ite Int (peaceP a_rk a_nu a_sa a_lo a_hi a_nc a_nr sn) (Classical.propDecidable _) 1 0)) ∧ staleT S' ∧ (∀ n, pc' n = 0 ∨ pc' n = 1) ∧ (∀ n, n < 128 → pc' n = 1 → peaceP a_rk a_nu a_sa a_lo a_hi a_nc a_nr n) ∧ ow = wQ cA q (t 0) pl' pc' ++ wTS cA t a_nc (S') ++ wP cA a a_kd a_lo a_hi a_co a_pa a_rk a_nu a_ct a_sa ((a_nc : Nat) : Int) ((a_nr : Nat) : Int)) A) ([.ref (q 0), .ref (a 0), iv ((sn : Nat) : Int)]).toArray s_ 0 0 A) (IM D s_ A) 5 0 0 (wQ cA q (t 0) pl pc ++ wTS cA t a_nc (layQ a_kd a_rk a_nu (bitZ sn) a_sa a_lo a_hi a_nc S r) ++ wP cA a a_kd a_lo a_hi a_co a_pa a_rk a_nu a_ct a_sa ((a_nc : Nat) : Int) ((a_nr : Nat) : Int)) ([(3, iv (((r : Nat) : Int))), (0, .ref (q 0)), (1, .ref (a 0)), (2, iv ((sn : Nat) : Int))]) [] 11 := by
    intro f
    induction f with
    | zero => intros; omega
    | succ f ih =>
      intro r hr hmu
      refine g_iload_n F 0 rfl rfl dX3_makesPeace_11 ?_
      refine g_aload_n F 2 rfl rfl dX3_makesPeace_12 ?_
      refine g_get F hV iX2 10 rfl rfl 10 (by decide) (List.mem_of_getElem? (i := 2) rfl) rfl dX3_makesPeace_13 ?_
      refine g_icmp_ge F (tgt := 49) dX3_makesPeace_16 (by decide) ⟨by omega, by omega⟩ ⟨by omega, by omega⟩ (fun c1 => ?_) (fun c1 => ?_)
      · have e : r = a_nr := by omega
        subst e
        refine g_aload_n F 1 rfl rfl dX3_makesPeace_49 ?_
        refine g_get F hV iX3 0 rfl rfl 0 (by decide) (List.mem_of_getElem? (i := 1) rfl) rfl dX3_makesPeace_50 ?_
        refine g_callVP F (As := []) (rest := []) (wr := wQ cA q (t 0) pl pc ++ wP cA a a_kd a_lo a_hi a_co a_pa a_rk a_nu a_ct a_sa ((a_nc : Nat) : Int) ((r : Nat) : Int)) (kX5_descend l D cA t (layQ a_kd a_rk a_nu (bitZ sn) a_sa a_lo a_hi a_nc S r).1 (layQ a_kd a_rk a_nu (bitZ sn) a_sa a_lo a_hi a_nc S r).2.1 (layQ a_kd a_rk a_nu (bitZ sn) a_sa a_lo a_hi a_nc S r).2.2.1 (layQ a_kd a_rk a_nu (bitZ sn) a_sa a_lo a_hi a_nc S r).2.2.2.1 (layQ a_kd a_rk a_nu (bitZ sn) a_sa a_lo a_hi a_nc S r).2.2.2.2.1 (layQ a_kd a_rk a_nu (bitZ sn) a_sa a_lo a_hi a_nc S r).2.2.2.2.2.1 a_nc (layQ a_kd a_rk a_nu (bitZ sn) a_sa a_lo a_hi a_nc S r).2.2.2.2.2.2.1 (layQ a_kd a_rk a_nu (bitZ sn) a_sa a_lo a_hi a_nc S r).2.2.2.2.2.2.2.1 (layQ a_kd a_rk a_nu (bitZ sn) a_sa a_lo a_hi a_nc S r).2.2.2.2.2.2.2.2 (GdT a_nc) hGd Gd_bnd Gd_turn) (cwV 0 F.2.2.2.2.1 gX3_makesPeace_X5_descend rfl rfl rfl (by decide +kernel) ⟨(Nat.le_of_ble_eq_true rfl), (Nat.le_of_ble_eq_true rfl)⟩) rfl rfl (q0 := 0) rfl (perm_mid (wQ cA q (t 0) pl pc) (wTS cA t a_nc (layQ a_kd a_rk a_nu (bitZ sn) a_sa a_lo a_hi a_nc S r)) (wP cA a a_kd a_lo a_hi a_co a_pa a_rk a_nu a_ct a_sa ((a_nc : Nat) : Int) ((r : Nat) : Int))) rfl rfl (Nat.le_of_ble_eq_true rfl) ⟨(Nat.le_of_ble_eq_true rfl), (Nat.le_of_ble_eq_true rfl)⟩ hA dX3_makesPeace_53 (fun v w hv => ?_)
        obtain ⟨hv, hw⟩ := hv
        subst hv
        subst hw
        refine g_eq (st' := [iv (if (descT a_nc 1000000 (layQ a_kd a_rk a_nu (bitZ sn) a_sa a_lo a_hi a_nc S r)).2 = true then 1 else 0)]) rfl rfl rfl ?_
        refine g_perm (wQ cA q (t 0) pl pc ++ wTS cA t a_nc ((descT a_nc 1000000 (layQ a_kd a_rk a_nu (bitZ sn) a_sa a_lo a_hi a_nc S r)).1) ++ wP cA a a_kd a_lo a_hi a_co a_pa a_rk a_nu a_ct a_sa ((a_nc : Nat) : Int) ((r : Nat) : Int)) (perm_mid' (wQ cA q (t 0) pl pc) (wTS cA t a_nc ((descT a_nc 1000000 (layQ a_kd a_rk a_nu (bitZ sn) a_sa a_lo a_hi a_nc S r)).1)) (wP cA a a_kd a_lo a_hi a_co a_pa a_rk a_nu a_ct a_sa ((a_nc : Nat) : Int) ((r : Nat) : Int))) ?_
        refine g_ifb_ne F (tgt := 61) dX3_makesPeace_56 (by decide) (fun c2 => ?_) (fun c2 => ?_)
        · refine g_iconst F dX3_makesPeace_61 ?_
          refine g_istore_n F ([(3, iv (((0 : Nat) : Int))), (0, .ref (q 0)), (1, .ref (a 0)), (2, iv ((sn : Nat) : Int))]) rfl rfl (by decide) dX3_makesPeace_62 ?_
          exact lp63 c2 (a_nc + 1) 0 pl (by omega) (fun j hj => absurd hj (Nat.not_lt_zero j)) (by omega)
        · refine g_iconst F dX3_makesPeace_59 ?_
          have hpe : ¬ peaceP a_rk a_nu a_sa a_lo a_hi a_nc r sn := by
            rintro ⟨y, hy⟩
            exact hno (by simpa using c2) y hy
          exact g_zret F rfl (nar_01 (Or.inl rfl)) (by decide) (by decide) ⟨_, pl, pc, by rw [if_neg hpe], hsD, hz, hpc, rfl⟩ dX3_makesPeace_60
      · have hr7 : r < 7 := by omega
        obtain ⟨Wv, hW, hl⟩ := lay_ok (st := false) (moved := -1) (d := 0) hP co0 hR2 (by omega) hS r hr
        refine g_iload_n F 3 rfl rfl dX3_makesPeace_19 ?_
        refine g_iload_n F 0 rfl rfl dX3_makesPeace_20 ?_
        refine g_ishr F (a := sn) (b := r) rfl rfl (by omega) (by omega) dX3_makesPeace_21 ?_
        refine g_iconst F dX3_makesPeace_22 ?_
        refine g_iand F (a := sn >>> r) (b := 1) rfl rfl dX3_makesPeace_23 ?_
        have hbt : 0 ≤ ((sn >>> r &&& 1 : Nat) : Int) ∧ ((sn >>> r &&& 1 : Nat) : Int) ≤ 1 := bit_01 sn r
        refine g_iconst F dX3_makesPeace_24 ?_
        have at43 : GW p_ l e_ (headSpec wsX3_makesPeace ({ frames := 4, cells := 0, slots := 0, locals := 100 })).room s_ m_ ([.ref (q 0), .ref (a 0), iv ((sn : Nat) : Int)]).toArray b_ me_ c_ (MQ b_ (Qm D (fun ov ow => ∃ (S' : TS) (pl' pc' : Nat → Int), ov = some (iv (@ite Int (peaceP a_rk a_nu a_sa a_lo a_hi a_nc a_nr sn) (Classical.propDecidable _) 1 0)) ∧ staleT S' ∧ (∀ n, pc' n = 0 ∨ pc' n = 1) ∧ (∀ n, n < 128 → pc' n = 1 → peaceP a_rk a_nu a_sa a_lo a_hi a_nc a_nr n) ∧ ow = wQ cA q (t 0) pl' pc' ++ wTS cA t a_nc (S') ++ wP cA a a_kd a_lo a_hi a_co a_pa a_rk a_nu a_ct a_sa ((a_nc : Nat) : Int) ((a_nr : Nat) : Int)) A) ([.ref (q 0), .ref (a 0), iv ((sn : Nat) : Int)]).toArray s_ 0 0 A) (IM D s_ A) 5 0 0 (wQ cA q (t 0) pl pc ++ wTS cA t a_nc (layQ a_kd a_rk a_nu (bitZ sn) a_sa a_lo a_hi a_nc S (r + 1)) ++ wP cA a a_kd a_lo a_hi a_co a_pa a_rk a_nu a_ct a_sa ((a_nc : Nat) : Int) ((a_nr : Nat) : Int)) ([(3, iv (((r : Nat) : Int))), (0, .ref (q 0)), (1, .ref (a 0)), (2, iv ((sn : Nat) : Int))]) [] 43 := by
          refine g_iinc F 0 rfl ([(3, iv (((r : Nat) : Int) + 1)), (0, .ref (q 0)), (1, .ref (a 0)), (2, iv ((sn : Nat) : Int))]) rfl (by decide) dX3_makesPeace_43 ?_
          refine g_goto F (tgt := 11) dX3_makesPeace_46 (by decide) ?_
          exact ih (r + 1) (by omega) (by omega)
        rw [layQ_succ] at at43
        refine g_icmp_ne F (tgt := 43) dX3_makesPeace_25 (by decide) ⟨by omega, by omega⟩ ⟨by decide, by decide⟩ (fun c2 => ?_) (fun c2 => ?_)
        · rw [if_neg c2] at at43
          exact at43
        · rw [if_pos (show ((sn >>> r &&& 1 : Nat) : Int) = 1 by omega)] at at43
          refine g_aload_n F 1 rfl rfl dX3_makesPeace_28 ?_
          refine g_get F hV iX3 0 rfl rfl 0 (by decide) (List.mem_of_getElem? (i := 1) rfl) rfl dX3_makesPeace_29 ?_
          refine g_aload_n F 2 rfl rfl dX3_makesPeace_32 ?_
          refine g_iload_n F 0 rfl rfl dX3_makesPeace_33 ?_
          refine g_aload_n F 2 rfl rfl dX3_makesPeace_34 ?_
          refine g_get F hV iX2 10 rfl rfl 6 (by decide) (List.mem_of_getElem? (i := 3) rfl) rfl dX3_makesPeace_35 ?_
          refine g_iload_n F 0 rfl rfl dX3_makesPeace_38 ?_
          refine g_iald F hV 17 rfl r rfl (by omega) (by decide) dX3_makesPeace_39 ?_
          have hnur := hnu r
          refine g_callVP F (As := [.ref (a 0), iv (((r : Nat) : Int)), iv (a_nu r)]) (rest := []) (wr := wQ cA q (t 0) pl pc) (kX5_addRow l D cA t (layQ a_kd a_rk a_nu (bitZ sn) a_sa a_lo a_hi a_nc S r).1 (layQ a_kd a_rk a_nu (bitZ sn) a_sa a_lo a_hi a_nc S r).2.1 (layQ a_kd a_rk a_nu (bitZ sn) a_sa a_lo a_hi a_nc S r).2.2.1 (layQ a_kd a_rk a_nu (bitZ sn) a_sa a_lo a_hi a_nc S r).2.2.2.1 (layQ a_kd a_rk a_nu (bitZ sn) a_sa a_lo a_hi a_nc S r).2.2.2.2.1 (layQ a_kd a_rk a_nu (bitZ sn) a_sa a_lo a_hi a_nc S r).2.2.2.2.2.1 a_nc (layQ a_kd a_rk a_nu (bitZ sn) a_sa a_lo a_hi a_nc S r).2.2.2.2.2.2.1 (layQ a_kd a_rk a_nu (bitZ sn) a_sa a_lo a_hi a_nc S r).2.2.2.2.2.2.2.1 (layQ a_kd a_rk a_nu (bitZ sn) a_sa a_lo a_hi a_nc S r).2.2.2.2.2.2.2.2 a a_kd a_lo a_hi a_co a_pa a_rk a_nu a_ct a_sa a_nc a_nr r (a_nu r) hr7 ⟨by omega, by omega⟩ (Nat.lt_of_le_of_lt hl (by omega)) qnc hW.1 hW.2.2.2.2.2.2.2.2.2.2.2.2.2.2.2.2 hrk hsa) (cwV 3 F.2.2.2.2.1 gX3_makesPeace_X5_addRow rfl rfl rfl (by decide +kernel) ⟨(Nat.le_of_ble_eq_true rfl), (Nat.le_of_ble_eq_true rfl)⟩) rfl rfl (q0 := 0) rfl (perm_end (wQ cA q (t 0) pl pc) (wTS cA t a_nc (layQ a_kd a_rk a_nu (bitZ sn) a_sa a_lo a_hi a_nc S r)) (wP cA a a_kd a_lo a_hi a_co a_pa a_rk a_nu a_ct a_sa ((a_nc : Nat) : Int) ((a_nr : Nat) : Int))) rfl rfl (Nat.le_of_ble_eq_true rfl) ⟨(Nat.le_of_ble_eq_true rfl), (Nat.le_of_ble_eq_true rfl)⟩ hA dX3_makesPeace_40 (fun v w hv => ?_)
          obtain ⟨hv, hw⟩ := hv
          subst hv
          subst hw
          refine g_eq (st' := []) (ws' := wQ cA q (t 0) pl pc ++ wTS cA t a_nc (addRowT a_nc (a_rk r) a_sa r (a_nu r) (layQ a_kd a_rk a_nu (bitZ sn) a_sa a_lo a_hi a_nc S r)) ++ wP cA a a_kd a_lo a_hi a_co a_pa a_rk a_nu a_ct a_sa ((a_nc : Nat) : Int) ((a_nr : Nat) : Int)) (List.append_assoc _ _ _).symm rfl rfl ?_
          exact at43
  refine g_lsub ([(0, .ref (q 0)), (1, .ref (a 0)), (2, iv ((sn : Nat) : Int))]) [0, 1, 2] rfl ?_
  refine g_aload_n F 0 rfl rfl dX3_makesPeace_0 ?_
  refine g_get F hV iX3 0 rfl rfl 0 (by decide) (List.mem_of_getElem? (i := 1) rfl) rfl dX3_makesPeace_1 ?_
  refine g_aload_n F 1 rfl rfl dX3_makesPeace_4 ?_
  refine g_iconst F dX3_makesPeace_5 ?_
  refine g_eq (st' := [iv (if False then 1 else 0), .ref (a 0), .ref (t 0)]) rfl rfl rfl ?_
  refine g_callVP F (As := [.ref (a 0), iv (if False then 1 else 0)]) (rest := []) (wr := wQ cA q (t 0) pl pc) (kX5_begin l D cA t (S).1 (S).2.1 (S).2.2.1 (S).2.2.2.1 (S).2.2.2.2.1 (S).2.2.2.2.2.1 n1 (S).2.2.2.2.2.2.1 (S).2.2.2.2.2.2.2.1 (S).2.2.2.2.2.2.2.2 a a_kd a_lo a_hi a_co a_pa a_rk a_nu a_ct a_sa a_nc a_nr False inferInstance qnc hco hP.2.2.1 hP.2.2.2.1) (cwV 2 F.2.2.2.2.1 gX3_makesPeace_X5_begin rfl rfl rfl (by decide +kernel) ⟨(Nat.le_of_ble_eq_true rfl), (Nat.le_of_ble_eq_true rfl)⟩) rfl rfl (q0 := 0) rfl (perm_end (wQ cA q (t 0) pl pc) (wTS cA t n1 (S)) (wP cA a a_kd a_lo a_hi a_co a_pa a_rk a_nu a_ct a_sa ((a_nc : Nat) : Int) ((a_nr : Nat) : Int))) rfl rfl (Nat.le_of_ble_eq_true rfl) ⟨(Nat.le_of_ble_eq_true rfl), (Nat.le_of_ble_eq_true rfl)⟩ hA dX3_makesPeace_6 (fun v w hv => ?_)
  obtain ⟨hv, hw⟩ := hv
  subst hv
  subst hw
  refine g_eq (st' := []) (ws' := wQ cA q (t 0) pl pc ++ wTS cA t a_nc (layQ a_kd a_rk a_nu (bitZ sn) a_sa a_lo a_hi a_nc S 0) ++ wP cA a a_kd a_lo a_hi a_co a_pa a_rk a_nu a_ct a_sa ((a_nc : Nat) : Int) ((a_nr : Nat) : Int)) (List.append_assoc _ _ _).symm rfl rfl ?_
  refine g_iconst F dX3_makesPeace_9 ?_
  refine g_istore_n F ([(3, iv (((0 : Nat) : Int))), (0, .ref (q 0)), (1, .ref (a 0)), (2, iv ((sn : Nat) : Int))]) rfl rfl (by decide) dX3_makesPeace_10 ?_
  exact lp11 (a_nr + 1) 0 (by omega) (by omega)
