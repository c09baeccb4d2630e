-- ===== the law's own rows =====
section
variable {p : Program} {l : Launch} {e : Env} {R : Room} {s : State} {m : MethodId} {args : Array Value} {below : List Frame} {meth : Method} {c : Code} {Q : State → Prop} {Iv : va_W → Heap → List Loc → Prop} {nL kc ks : Nat} {ws : va_W} {lv : List (Nat × Value)} {st : List Value} {pc : Nat} {cc : ByteArray} {own : String} {Ts : List Cond} {rt : Option FieldType} {D : va_G} {cA : Nat → ClassId}
theorem g_sld (F : Fx p s m args meth c cc nL own Ts rt D cA) {A : Nat → Prop} {b L : Nat} {xs : Nat → Int32} (hX : va_X b L xs s s.heap) (hbl : b < s.heap.size) (hbA : ¬ A b) {z : Int} (k : Nat) (hz : z = (k : Int)) (hk : k < L) (hL : L < 2147483648) (hd : decode cc pc = .ok (.iaload, 1)) (kk : GW p l e R s m args below meth c Q (IM D s A) nL kc ks ws lv (iv ((xs k).toInt) :: st) (pc + 1)) : GW p l e R s m args below meth c Q (IM D s A) nL kc ks ws lv (iv z :: .ref b :: st) pc := fun H locs ls hI hl => by
  subst hz
  refine va_sld F.1 F.2.1 hX hbl hbA hI.2.2 (i := Int32.ofInt (k : Int)) (i32_in hk hL) hd ?_
  rw [i32_cl (by omega)]
  have h := kk H locs ls hI hl
  rw [show iv ((xs k).toInt) = Value.int (xs k) by show Value.int (Int32.ofInt (xs k).toInt) = _; rw [i32_of]] at h
  exact h
theorem g_slen (F : Fx p s m args meth c cc nL own Ts rt D cA) {A : Nat → Prop} {b L : Nat} {xs : Nat → Int32} (hX : va_X b L xs s s.heap) (hbl : b < s.heap.size) (hbA : ¬ A b) (hd : decode cc pc = .ok (.arraylength, 1)) (kk : GW p l e R s m args below meth c Q (IM D s A) nL kc ks ws lv (iv ((L : Nat) : Int) :: st) (pc + 1)) : GW p l e R s m args below meth c Q (IM D s A) nL kc ks ws lv (.ref b :: st) pc := fun H locs ls hI hl => by
  refine va_slen F.1 F.2.1 hX hbl hbA hI.2.2 hd ?_
  have h := kk H locs ls hI hl
  rw [show iv ((L : Nat) : Int) = Value.int (Int32.ofNat L) by show Value.int (Int32.ofInt (L : Int)) = _; rw [i32_nat]; rfl] at h
  exact h
theorem g_ieq (F : Fx p s m args meth c cc nL own Ts rt D cA) {a b : Int} {off : Int} {tgt : Nat} (h : a = b) (hd : decode cc pc = .ok (.if_icmp .eq off, 3)) (ht : (pc : Int) + off = (tgt : Int)) (kt : GW p l e R s m args below meth c Q Iv nL kc ks ws lv st tgt) : GW p l e R s m args below meth c Q Iv nL kc ks ws lv (iv b :: iv a :: st) pc := fun H locs ls hI hl => lv_icmp_eq F.1 F.2.1 hd ht (fun _ => kt H locs ls hI hl) (fun q => absurd (by rw [h]) q)
theorem g_leq (F : Fx p s m args meth c cc nL own Ts rt D cA) {a b : Int} {off : Int} {tgt : Nat} (h : a = b) (hd0 : decode cc pc = .ok (.lcmp, 1)) (hd : decode cc (pc + 1) = .ok (.ifCond .eq off, 3)) (ht : ((pc + 1 : Nat) : Int) + off = (tgt : Int)) (kt : GW p l e R s m args below meth c Q Iv nL kc ks ws lv st tgt) : GW p l e R s m args below meth c Q Iv nL kc ks ws lv (jv b :: jv a :: st) pc := fun H locs ls hI hl => W.lcmp F.1 F.2.1 hd0 (lv_if_eq F.1 F.2.1 hd ht (fun _ => kt H locs ls hI hl) (fun q => absurd ((lg_cmp_eq (Int64.ofInt a) (Int64.ofInt b)).mpr (by rw [h])) q))
theorem g_widen {A : Nat → Prop} (kc' ks' : Nat) (h1 : kc ≤ kc') (h2 : ks ≤ ks') (kk : GW p l e R s m args below meth c Q (IM D s A) nL kc' ks' ws lv st pc) : GW p l e R s m args below meth c Q (IM D s A) nL kc ks ws lv st pc := fun H locs ls hI hl => W.widen (k := kc') (n := ks') h1 h2 (kk H locs ls hI hl)
theorem g_callIO (F : Fx p s m args meth c cc nL own Ts rt D cA) (hO : va_AO RX5 s) {A : Nat → Prop} {y : MethodName} {wds : List Cond} {rm : Room} {av As rest : List Value} {wc wr : va_W} {post : Option Value → va_W → Prop} {mc ms maxL n index : Nat} {bytes : ByteArray} {b : Nat} (hM : CTO l y wds rm D cA av wc post mc ms) (cw : CallB R s args own index y bytes maxL none wds rm mc ms n ∧ y.name = "<init>" ∧ (Cond.instanceMethod y).before args s = true) (isC isR : List Nat) (hC : isC.map (fun i => ws[i]?) = wc.map some) (hR : isR.map (fun i => ws[i]?) = wr.map some) (hnC : va_nd isC = true) (hnR : va_nd isR = true) (hdis : ∀ i ∈ isR, i ∉ isC) (hav : av = (.ref b :: As)) (hn : As.length = n) (hW : (rest.map fun v => v.category).sum ≤ 8) (hf : kc + mc ≤ R.cells ∧ ks + ms ≤ R.slots) (hA : ∀ q, s.heap.size ≤ q → A q) (hd : decode cc pc = .ok (.invokespecial index, 3))
    (kk : ∀ v w, post v w → GW p l e R s m args below meth c Q (IM D s A) nL (kc + mc) (ks + ms) (wr ++ w) lv (v.toList ++ rest) (pc + 3)) : GW p l e R s m args below meth c Q (IM D s A) nL kc ks ws lv (As.reverse ++ .ref b :: rest) pc := fun H locs ls hI hl => by
  have hav2 := hav.symm
  subst hav2
  have hPc := hI.1.sub (ws' := wc) isC (by
    have h2 := congrArg (fun l => l.filterMap id) hC
    simpa [List.filterMap_map, Function.comp] using h2)
  have hDc := hI.2.1.sub (ws' := wc) isC hnC hC
  have hFc := va_free (wc := wc) hI.2.1 hI.2.2 hA isC hC
  have hr := va_runI (g := F0 m pc ls (As.reverse ++ .ref b :: rest)) (As := As) (rest := rest) (H := H) (locs := locs) (cells := kc) (slots := ks) (below := below) (meth := meth) (e := e) ⟨F.1, F.2.1, F.2.2.1, F.2.2.2.1, F.2.2.2.2.1⟩ (hM H.size) cw
    ⟨fun a U g mk q => by obtain ⟨q0, ⟨q1, qP, qK, qD⟩, qO⟩ := q; exact ⟨q0, ⟨q1, qP, qK.call, qD⟩, va_AO.moved (u := U) (U := U.calling g mk a) (Vm.Alike.refl U.vm) qO⟩, fun U hU hW => ⟨rfl, ⟨by rw [hU], by rw [hU]; exact hPc, F.2.2.2.2.2.1.warm hW, hDc.weaken (fun _ _ _ _ => trivial)⟩, va_AO.moved hW.alike hO⟩⟩
    rfl hn hl.1 (by simp) (lv_room hW) hd hf
  intro T hT X
  obtain ⟨v, st₀, t, T', L, h0, X', hL, e1, e2, ⟨⟨v', w, hv, hp, hPw, hDw⟩, hz, hk⟩, stp⟩ := hr T hT X
  cases hv
  rw [h0] at hz hk
  obtain ⟨hP2, hD2⟩ := va_join (wr := wr) (w1 := w) (H1 := t.heap) hI.1 hI.2.1 isC isR hC hR hnR hdis hk hFc hPw hDw
  obtain ⟨t2, a1, b1⟩ := kk v w hp T'.heap (locs ++ L) ls ⟨by rw [e1]; exact hP2, hD2, ⟨Nat.le_trans hI.2.2.1 (by rw [e1]; exact hz), fun q h1 h2 => by rw [e1, hk q (Nat.lt_of_lt_of_le h1 hI.2.2.1) (fun z => h2 (hFc q z))]; exact hI.2.2.2.1 q h1 h2, fun q hq => by
      rcases List.mem_append.mp hq with h | h
      · exact hI.2.2.2.2 q h
      · exact hFc _ (hL q h)⟩⟩ hl T' rfl X'
  exact ⟨t2, stp t2 a1, b1⟩
end
-- ===== a world in blocks =====
def wfl : List va_W → va_W
  | [] => []
  | [w] => w
  | w :: v :: r => w ++ wfl (v :: r)
theorem wfl_eq : ∀ L : List va_W, wfl L = L.flatten
  | [] => rfl
  | [w] => by show w = w ++ []; rw [List.append_nil]
  | w :: v :: r => by show w ++ wfl (v :: r) = w ++ (v :: r).flatten; rw [wfl_eq (v :: r)]
theorem fl_perm {L L' : List va_W} (h : L.Perm L') : L.flatten.Perm L'.flatten := by
  induction h with
  | nil => exact List.Perm.refl _
  | cons x _ ih => exact ih.append_left x
  | swap x y l =>
    show (y ++ (x ++ l.flatten)).Perm (x ++ (y ++ l.flatten))
    rw [← List.append_assoc, ← List.append_assoc]
    exact List.perm_append_comm.append_right _
  | trans _ _ h1 h2 => exact h1.trans h2
theorem wf_split {L C R : List va_W} {n : Nat} (is : List Nat) (hL : (List.range n).map (fun i => L.getD i []) = L) (h : (List.range n).Perm is) (e : is.map (fun i => L.getD i []) = C ++ R) : (wfl L).Perm (wfl C ++ wfl R) := by
  have h1 := h.map (fun i => L.getD i [])
  rw [hL, e] at h1
  have h2 := fl_perm h1
  rw [List.flatten_append, ← wfl_eq, ← wfl_eq, ← wfl_eq] at h2
  exact h2
