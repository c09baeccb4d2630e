/-- a contract of a method that makes an array of tables -/
def CTO (l : Launch) (y : MethodName) (wds : List Cond) (rm : Room) (D : va_G) (cA : Nat → ClassId) (av : List Value) (ws : va_W) (post : Option Value → va_W → Prop) (mc ms : Nat) : Prop :=
  ∀ sz : Nat, Met l y wds rm (va_Pc av (fun U => (U.heap.size = sz ∧ va_P D vwCl ws U.heap ∧ KA D cA U ∧ va_D (fun _ => True) ws) ∧ va_AO RX5 U)) (Qm D post (va_A ws sz)) mc ms (va_A ws sz)
theorem CTO.mk {l : Launch} {y : MethodName} {wds wds' : List Cond} {rm : Room} {D : va_G} {cA : Nat → ClassId} {av : List Value} {ws : va_W} {post : Option Value → va_W → Prop} {mc ms : Nat} {cc : ByteArray} {maxL : Nat} {ret : Option FieldType}
    (hy : plainFor y = true) (hw : wds = Cond.code y cc maxL ret :: wds') (hlen : (lg_sl av).length ≤ maxL)
    (body : ∀ (p : Program) (e : Env) (s : State) (m : MethodId) (below : List Frame) (meth : Method) (c : Code) (A : Nat → Prop), Fx p s m av.toArray meth c cc maxL y.cls wds ret D cA → va_AO RX5 s → meth.name = y.name → (∀ q, s.heap.size ≤ q → A q) →
      GW p l e (headSpec wds rm).room s m av.toArray below meth c (MQ below (Qm D post A) av.toArray s mc ms A) (IM D s A) maxL 0 0 ws (lv_args 0 av) [] 0) : CTO l y wds rm D cA av ws post mc ms := by
  intro sz
  refine Met.ofWF (cc := cc) (maxL := maxL) (ret := ret) hy hw ?_
  intro p e s m args below meth c s₁ B hml hv
  obtain ⟨rfl, ⟨hsz, hP, hK, hD0⟩, hO⟩ := hv
  subst hsz
  have hown : s.vm.findClass y.cls = some m.cls := findClass_of_methodNamed B.named
  have hn := (name_of_methodNamed B.named B.method).1
  have hg := body p e s m below meth c (va_A ws s.heap.size) ⟨B.exec, B.bytes, hml, hown, atoms_spec (ws := wds) B.pre, hK, B.returns, B.notSynchronized⟩ hO hn (fun q h => Or.inr h)
  have hl := lv_entry av (n := maxL) hlen
  rw [lg_entry_eq]
  exact hg s.heap [] _ ⟨hP, hD0.self (sz := s.heap.size), va_S.rf⟩ hl
section
variable {p : Program} {l : Launch} {e : Env} {R : Room} {s : State} {m : MethodId} {args : Array Value} {below : List Frame} {meth : Method} {c : Code} {Q : State → Prop} {Iv : va_W → Heap → List Loc → Prop} {nL kc ks : Nat} {ws : va_W} {lv : List (Nat × Value)} {st : List Value} {pc : Nat} {cc : ByteArray} {own : String} {Ts : List Cond} {rt : Option FieldType} {D : va_G} {cA : Nat → ClassId}
theorem g_callINO (F : Fx p s m args meth c cc nL own Ts rt D cA) (hO : va_AO RX5 s) {A : Nat → Prop} {y : MethodName} {wds : List Cond} {rm : Room} {av As rest : List Value} {wc wr : va_W} {post : Option Value → va_W → Prop} {mc ms maxL n index : Nat} {bytes : ByteArray} {b : Nat} {host : String} (hM : CTO l y wds rm D cA av wc post mc ms) (cw : va_CN R s args own index y host bytes maxL none wds rm mc ms n ∧ y.name = "<init>" ∧ (Cond.instanceMethod y).before args s = true) (isC isR : List Nat) (hC : isC.map (fun i => ws[i]?) = wc.map some) (hR : isR.map (fun i => ws[i]?) = wr.map some) (hnC : va_nd isC = true) (hnR : va_nd isR = true) (hdis : ∀ i ∈ isR, i ∉ isC) (hav : av = (.ref b :: As)) (hn : As.length = n) (hW : (rest.map fun v => v.category).sum ≤ 8) (hf : kc + mc ≤ R.cells ∧ ks + ms ≤ R.slots) (hA : ∀ q, s.heap.size ≤ q → A q) (hd : decode cc pc = .ok (.invokespecial index, 3))
    (kk : ∀ v w, post v w → GW p l e R s m args below meth c Q (IM D s A) nL (kc + mc) (ks + ms) (wr ++ w) lv (v.toList ++ rest) (pc + 3)) : GW p l e R s m args below meth c Q (IM D s A) nL kc ks ws lv (As.reverse ++ .ref b :: rest) pc := fun H locs ls hI hl => by
  have hav2 := hav.symm
  subst hav2
  have hPc := hI.1.sub (ws' := wc) isC (by
    have h2 := congrArg (fun l => l.filterMap id) hC
    simpa [List.filterMap_map, Function.comp] using h2)
  have hDc := hI.2.1.sub (ws' := wc) isC hnC hC
  have hFc := va_free (wc := wc) hI.2.1 hI.2.2 hA isC hC
  have hr := va_runIN (g := F0 m pc ls (As.reverse ++ .ref b :: rest)) (As := As) (rest := rest) (H := H) (locs := locs) (cells := kc) (slots := ks) (below := below) (meth := meth) (e := e) ⟨F.1, F.2.1, F.2.2.1, F.2.2.2.1, F.2.2.2.2.1⟩ (hM H.size) cw
    ⟨fun a U g mk q => by obtain ⟨q0, ⟨q1, qP, qK, qD⟩, qO⟩ := q; exact ⟨q0, ⟨q1, qP, qK.call, qD⟩, va_AO.moved (u := U) (U := U.calling g mk a) (Vm.Alike.refl U.vm) qO⟩, fun U hU hW => ⟨rfl, ⟨by rw [hU], by rw [hU]; exact hPc, F.2.2.2.2.2.1.warm hW, hDc.weaken (fun _ _ _ _ => trivial)⟩, va_AO.moved hW.alike hO⟩⟩
    rfl hn hl.1 (by simp) (lv_room hW) hd hf
  intro T hT X
  obtain ⟨v, st₀, t, T', L, h0, X', hL, e1, e2, ⟨⟨v', w, hv, hp, hPw, hDw⟩, hz, hk⟩, stp⟩ := hr T hT X
  cases hv
  rw [h0] at hz hk
  obtain ⟨hP2, hD2⟩ := va_join (wr := wr) (w1 := w) (H1 := t.heap) hI.1 hI.2.1 isC isR hC hR hnR hdis hk hFc hPw hDw
  obtain ⟨t2, a1, b1⟩ := kk v w hp T'.heap (locs ++ L) ls ⟨by rw [e1]; exact hP2, hD2, ⟨Nat.le_trans hI.2.2.1 (by rw [e1]; exact hz), fun q h1 h2 => by rw [e1, hk q (Nat.lt_of_lt_of_le h1 hI.2.2.1) (fun z => h2 (hFc q z))]; exact hI.2.2.2.1 q h1 h2, fun q hq => by
      rcases List.mem_append.mp hq with h | h
      · exact hI.2.2.2.2 q h
      · exact hFc _ (hL q h)⟩⟩ hl T' rfl X'
  exact ⟨t2, stp t2 a1, b1⟩
end
abbrev wQ (cA : Nat → ClassId) (a : Nat → Nat) (ta : Nat) (pl : Nat → Int) (pc : Nat → Int) : va_W := [(a 0, .inr (3, [.ref ta, .ref (a 1), .ref (a 2)])), (a 1, aJ cA 5 pl), (a 2, aZ cA 128 pc)]
