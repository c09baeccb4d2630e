section
variable {p : Program} {l : Launch} {e : Env} {R : Room} {s : State} {m : MethodId} {args : Array Value} {below : List Frame} {meth : Method} {c : Code} {Q : State → Prop} {Iv : va_W → Heap → List Loc → Prop} {nL kc ks : Nat} {ws : va_W} {lv : List (Nat × Value)} {st : List Value} {pc : Nat} {cc : ByteArray} {own : String} {Ts : List Cond} {rt : Option FieldType} {D : va_G} {cA : Nat → ClassId}
theorem g_objInit (F : Fx p s m args meth c cc nL own Ts rt D cA) {a index : Nat} (h1 : Cond.methodLink own index Lib.objectInit ∈ Ts) (h2 : Cond.instanceMethod Lib.objectInit ∈ Ts) (h3 : Cond.code Lib.objectInit ⟨#[0xb1]⟩ 1 none ∈ Ts) (hf : 1 ≤ R.frames) (hlo : (st.map fun v => v.category).sum + 12 ≤ R.locals) (hd : decode cc pc = .ok (.invokespecial index, 3)) (kk : GW p l e R s m args below meth c Q Iv nL kc ks ws lv st (pc + 3)) : GW p l e R s m args below meth c Q Iv nL kc ks ws lv (.ref a :: st) pc := fun H locs ls hI hl =>
  W.objInit F.1 F.2.1 F.2.2.2.1 (F.2.2.2.2.1 _ h1) (F.2.2.2.2.1 _ h2) (F.2.2.2.2.1 _ h3) (g := F0 m pc ls (.ref a :: st)) rfl (hl.1.trans F.2.2.1.symm) rfl hd hf (by show 2 * 0 + _ + 12 ≤ _; rw [Nat.mul_zero, Nat.zero_add]; exact hlo) (kk H locs ls hI hl)
theorem newI_cell (c0 : ClassId) (N : Nat) : vp_cell c0 (N, .inl (fun _ => Int32.ofInt 0)) = arrV c0 N (fun _ => defaultValue .int) := by rw [vp_cell_i]; rfl
theorem newZ_cell (c0 : ClassId) (N : Nat) : vp_cell c0 (N, .inl (fun _ => Int32.ofInt 0)) = arrV c0 N (fun _ => defaultValue .boolean) := by rw [vp_cell_i]; rfl
theorem newJ_cell (c0 : ClassId) (N : Nat) : vp_cell c0 (N, .inr (.inl (fun _ => Int64.ofInt 0))) = arrV c0 N (fun _ => defaultValue .long) := by rw [vp_cell_l]; rfl
theorem g_newI (F : Fx p s m args meth c cc nL own Ts rt D cA) {A : Nat → Prop} (hA : ∀ q, s.heap.size ≤ q → A q) (N : Nat) (hN : N < 100000) {z : Int} (hz : z = (N : Int)) (harr : Cond.arrayClass .int ∈ Ts) (hcells : kc + 1 ≤ R.cells) (hslots : ks + N ≤ R.slots) (hd : decode cc pc = .ok (.newarray .int, 2)) (kk : ∀ q, GW p l e R s m args below meth c Q (IM D s A) nL (kc + 1) (ks + N) (ws ++ [(q, aI cA N (fun _ => 0))]) lv (.ref q :: st) (pc + 2)) : GW p l e R s m args below meth c Q (IM D s A) nL kc ks ws lv (iv z :: st) pc := fun H locs ls hI hl => by
  subst hz
  refine va_newa (atype := .int) (a0 := (N, .inl (fun _ => Int32.ofInt 0))) F.1 F.2.1 (F.2.2.2.2.1 _ harr) rfl F.2.2.2.2.2.1.1 hI.1 hI.2.1 hI.2.2 hA (fun c0 => newI_cell c0 N) (by rw [i32_nat]; exact nI_pos (by omega)) (i32_cl (by omega)) (by show N * 4 ≤ _; omega) hcells hslots hd (fun q c1 H1 k1 k2 k3 k4 => ?_)
  have e1 : s.vm.findClass ("[" ++ FieldType.int.toString) = some c1 := (k1.2 4 _ rfl).2
  have e2 : s.vm.findClass ("[" ++ FieldType.int.toString) = some (cA 0) := (F.2.2.2.2.2.1.1.2 0 _ rfl).2
  have e3 : c1 = cA 0 := Option.some.inj (e1.symm.trans e2)
  subst e3
  exact kk q H1 locs ls ⟨k2, k3, k4⟩ hl
theorem g_newJ (F : Fx p s m args meth c cc nL own Ts rt D cA) {A : Nat → Prop} (hA : ∀ q, s.heap.size ≤ q → A q) (N : Nat) (hN : N < 100000) {z : Int} (hz : z = (N : Int)) (harr : Cond.arrayClass .long ∈ Ts) (hcells : kc + 1 ≤ R.cells) (hslots : ks + N ≤ R.slots) (hd : decode cc pc = .ok (.newarray .long, 2)) (kk : ∀ q, GW p l e R s m args below meth c Q (IM D s A) nL (kc + 1) (ks + N) (ws ++ [(q, aJ cA N (fun _ => 0))]) lv (.ref q :: st) (pc + 2)) : GW p l e R s m args below meth c Q (IM D s A) nL kc ks ws lv (iv z :: st) pc := fun H locs ls hI hl => by
  subst hz
  refine va_newa (atype := .long) (a0 := (N, .inr (.inl (fun _ => Int64.ofInt 0)))) F.1 F.2.1 (F.2.2.2.2.1 _ harr) rfl F.2.2.2.2.2.1.1 hI.1 hI.2.1 hI.2.2 hA (fun c0 => newJ_cell c0 N) (by rw [i32_nat]; exact nI_pos (by omega)) (i32_cl (by omega)) (by show N * 8 ≤ _; omega) hcells hslots hd (fun q c1 H1 k1 k2 k3 k4 => ?_)
  have e1 : s.vm.findClass ("[" ++ FieldType.long.toString) = some c1 := (k1.2 4 _ rfl).2
  have e2 : s.vm.findClass ("[" ++ FieldType.long.toString) = some (cA 1) := (F.2.2.2.2.2.1.1.2 1 _ rfl).2
  have e3 : c1 = cA 1 := Option.some.inj (e1.symm.trans e2)
  subst e3
  exact kk q H1 locs ls ⟨k2, k3, k4⟩ hl
theorem g_newZ (F : Fx p s m args meth c cc nL own Ts rt D cA) {A : Nat → Prop} (hA : ∀ q, s.heap.size ≤ q → A q) (N : Nat) (hN : N < 100000) {z : Int} (hz : z = (N : Int)) (harr : Cond.arrayClass .boolean ∈ Ts) (hcells : kc + 1 ≤ R.cells) (hslots : ks + N ≤ R.slots) (hd : decode cc pc = .ok (.newarray .boolean, 2)) (kk : ∀ q, GW p l e R s m args below meth c Q (IM D s A) nL (kc + 1) (ks + N) (ws ++ [(q, aZ cA N (fun _ => 0))]) lv (.ref q :: st) (pc + 2)) : GW p l e R s m args below meth c Q (IM D s A) nL kc ks ws lv (iv z :: st) pc := fun H locs ls hI hl => by
  subst hz
  refine va_newa (atype := .boolean) (a0 := (N, .inl (fun _ => Int32.ofInt 0))) F.1 F.2.1 (F.2.2.2.2.1 _ harr) rfl F.2.2.2.2.2.1.1 hI.1 hI.2.1 hI.2.2 hA (fun c0 => newZ_cell c0 N) (by rw [i32_nat]; exact nI_pos (by omega)) (i32_cl (by omega)) (by show N * 1 ≤ _; omega) hcells hslots hd (fun q c1 H1 k1 k2 k3 k4 => ?_)
  have e1 : s.vm.findClass ("[" ++ FieldType.boolean.toString) = some c1 := (k1.2 4 _ rfl).2
  have e2 : s.vm.findClass ("[" ++ FieldType.boolean.toString) = some (cA 2) := (F.2.2.2.2.2.1.1.2 2 _ rfl).2
  have e3 : c1 = cA 2 := Option.some.inj (e1.symm.trans e2)
  subst e3
  exact kk q H1 locs ls ⟨k2, k3, k4⟩ hl
theorem g_newT (F : Fx p s m args meth c cc nL own Ts rt D cA) {A : Nat → Prop} (hA : ∀ q, s.heap.size ≤ q → A q) (hO : va_AO RX5 s) (N : Nat) (hN : N < 100000) {z : Int} (hz : z = (N : Int)) {index : Nat} (hcl : Cond.classLink own index RX5 ∈ Ts) (hcells : kc + 1 ≤ R.cells) (hslots : ks + N ≤ R.slots) (hd : decode cc pc = .ok (.anewarray index, 3)) (kk : ∀ q, GW p l e R s m args below meth c Q (IM D s A) nL (kc + 1) (ks + N) (ws ++ [(q, aT cA N (fun _ => none))]) lv (.ref q :: st) (pc + 3)) : GW p l e R s m args below meth c Q (IM D s A) nL kc ks ws lv (iv z :: st) pc := fun H locs ls hI hl => by
  subst hz
  refine va_newq (C := RX5) F.1 F.2.1 F.2.2.2.1 (F.2.2.2.2.1 _ hcl) hO F.2.2.2.2.2.1.1 hI.1 hI.2.1 hI.2.2 hA (by rw [i32_nat]; exact nI_pos (by omega)) (i32_cl (by omega)) (by omega) hcells hslots hd (fun q c1 H1 k1 k2 k3 k4 => ?_)
  obtain ⟨kA1, comp1, a1, a2, a3, a4⟩ := (k1.2 4 _ rfl).2
  obtain ⟨kA2, comp2, b1, b2, b3, b4⟩ := (F.2.2.2.2.2.1.1.2 3 _ rfl).2
  have e3 : c1 = cA 3 := Option.some.inj (a4.symm.trans b4)
  subst e3
  exact kk q H1 locs ls ⟨k2, k3, k4⟩ hl
theorem g_new (F : Fx p s m args meth c cc nL own Ts rt D cA) {A : Nat → Prop} (hA : ∀ q, s.heap.size ≤ q → A q) {C : String} {T : u_T} {N ci index : Nat} (hin : ∀ w ∈ u_ws C T N, w ∈ Ts) (ty : Nat → FieldType) (hty : ∀ k, k < N → parseFieldDescriptor (T k).2.2.1 = some (ty k)) (hcl : Cond.classLink own index C ∈ Ts) (hinst : Cond.instantiable C N ∈ Ts) (hini : Cond.initialized C ∈ Ts) (hc : vwCl[ci]? = some (C, T, N)) (fs : List Value) (hfs : ∀ j, j < N → defaultValue (ty j) = vp_V fs j) (hcells : kc + 1 ≤ R.cells) (hslots : ks + N ≤ R.slots) (hd : decode cc pc = .ok (.new index, 3)) (kk : ∀ q, GW p l e R s m args below meth c Q (IM D s A) nL (kc + 1) (ks + N) (ws ++ [(q, .inr (ci, fs))]) lv (.ref q :: st) (pc + 3)) : GW p l e R s m args below meth c Q (IM D s A) nL kc ks ws lv st pc := fun H locs ls hI hl =>
  va_new F.1 F.2.1 F.2.2.2.2.1 hin ty hty F.2.2.2.1 (F.2.2.2.2.1 _ hcl) (F.2.2.2.2.1 _ hinst) (F.2.2.2.2.1 _ hini) F.2.2.2.2.2.1.1 hI.1 hI.2.1 hI.2.2 hA hc hfs hcells hslots hd (fun q H1 k2 k3 k4 => kk q H1 locs ls ⟨k2, k3, k4⟩ hl)
-- references in arrays, null
theorem g_aald (F : Fx p s m args meth c cc nL own Ts rt D cA) (hV : ∀ ws H locs, Iv ws H locs → va_P D vwCl ws H) (q0 : Nat) {a n : Nat} {f : Nat → Option Nat} (he : ws[q0]? = some (a, aT cA n f)) (k : Nat) {z : Int} (hz : z = (k : Int)) (hk : k < n) (hn : n < 2147483648) (hd : decode cc pc = .ok (.aaload, 1)) {r : Option Nat} (hr : f k = r) (kk : GW p l e R s m args below meth c Q Iv nL kc ks ws lv (va_rf r :: st) (pc + 1)) : GW p l e R s m args below meth c Q Iv nL kc ks ws lv (iv z :: .ref a :: st) pc := fun H locs ls hI hl => by
  subst hz
  refine va_aldq F.1 F.2.1 F.2.2.2.2.2.1.1 (hV _ _ _ hI) q0 3 he rfl (i32_in hk hn) hd ?_
  rw [i32_cl (by omega), hr]
  exact kk H locs ls hI hl
theorem g_aast (F : Fx p s m args meth c cc nL own Ts rt D cA) {A : Nat → Prop} (q0 qk : Nat) {a n v : Nat} {f : Nat → Option Nat} (he : ws[q0]? = some (a, aT cA n f)) {vs : List Value} (hv : ws[qk]? = some (v, .inr (5, vs))) (k : Nat) {z : Int} (hz : z = (k : Int)) (hk : k < n) (hn : n < 2147483648) (ws' : va_W) (hw : ws.set q0 (a, aT cA n (va_up f k (some v))) = ws') (hd : decode cc pc = .ok (.aastore, 1)) (kk : GW p l e R s m args below meth c Q (IM D s A) nL kc ks ws' lv st (pc + 1)) : GW p l e R s m args below meth c Q (IM D s A) nL kc ks ws lv (.ref v :: iv z :: .ref a :: st) pc := fun H locs ls hI hl => by
  subst hz
  refine va_astq F.1 F.2.1 F.2.2.2.2.2.1.1 hI.1 hI.2.1 hI.2.2 q0 3 qk 5 (r := (RX5, TX5, 10)) he rfl hv rfl (i32_in hk hn) hd (fun H1 l1 h1 h2 h3 => ?_)
  rw [i32_cl (by omega)] at h1 h2
  exact kk H1 l1 ls ⟨hw ▸ h1, hw ▸ h2, h3⟩ hl
theorem g_ifnonnull (F : Fx p s m args meth c cc nL own Ts rt D cA) {x : Nat} {off : Int} {tgt : Nat} (hd : decode cc pc = .ok (.ifnonnull off, 3)) (ht : (pc : Int) + off = (tgt : Int)) (k : GW p l e R s m args below meth c Q Iv nL kc ks ws lv st tgt) : GW p l e R s m args below meth c Q Iv nL kc ks ws lv (.ref x :: st) pc := fun H locs ls hI hl => lv_ifnonnull F.1 F.2.1 hd ht (k H locs ls hI hl)
theorem g_ifnonnullN (F : Fx p s m args meth c cc nL own Ts rt D cA) {off : Int} (hd : decode cc pc = .ok (.ifnonnull off, 3)) (k : GW p l e R s m args below meth c Q Iv nL kc ks ws lv st (pc + 3)) : GW p l e R s m args below meth c Q Iv nL kc ks ws lv (.null :: st) pc := fun H locs ls hI hl => lv_ifnonnullN F.1 F.2.1 hd (k H locs ls hI hl)
theorem g_aret (F : Fx p s m args meth c cc nL own Ts rt D cA) {A : Nat → Prop} {post : Option Value → va_W → Prop} {mc ms : Nat} {x : Nat} {C : String} (hr : rt = some (.object C)) (hc : kc ≤ mc) (hs : ks ≤ ms) (hp : post (some (.ref x)) ws) (hd : decode cc pc = .ok (.areturn, 1)) : GW p l e R s m args below meth c (MQ below (Qm D post A) args s mc ms A) (IM D s A) nL kc ks ws lv [.ref x] pc := fun H locs ls hI hl => W.widen hc hs (W.aret F.1 F.2.1 (F.2.2.2.2.2.2.1.trans hr) (Or.inl ⟨C, rfl⟩) (Or.inr ⟨x, rfl⟩) (fun t ht hW => ⟨⟨_, ws, rfl, hp, by rw [ht]; exact hI.1, hI.2.1⟩, hI.2.2.F ht⟩) hI.2.2.2.2 hd F.2.2.2.2.2.2.2)
-- worlds in another order
theorem P_perm {cl : List vw_C} {ws' : va_W} {H : Heap} (h : ws.Perm ws') (hP : va_P D cl ws H) : va_P D cl ws' H := by
  intro k q hk
  have hm : q ∈ ws := h.mem_iff.mpr (List.mem_of_getElem? hk)
  obtain ⟨j, hj⟩ := List.getElem?_of_mem hm
  exact hP j q hj
theorem D_iff {A : Nat → Prop} : va_D A ws ↔ (ws.map Prod.fst).Nodup ∧ ∀ q ∈ ws, A q.1 := by
  constructor
  · rintro ⟨h1, h2⟩
    refine ⟨?_, fun q hq => ?_⟩
    · rw [List.nodup_iff_pairwise_ne, List.pairwise_iff_getElem]
      intro i j hi hj hij he
      have hi2 : i < ws.length := by rw [List.length_map] at hi; exact hi
      have hj2 : j < ws.length := by rw [List.length_map] at hj; exact hj
      rw [List.getElem_map, List.getElem_map] at he
      have := h1 i j _ _ (List.getElem?_eq_getElem hi2) (List.getElem?_eq_getElem hj2) he
      omega
    · obtain ⟨j, hj⟩ := List.getElem?_of_mem hq
      exact h2 j q hj
  · rintro ⟨h1, h2⟩
    refine ⟨fun i j a b hi hj he => ?_, fun k q hk => h2 q (List.mem_of_getElem? hk)⟩
    rw [List.nodup_iff_pairwise_ne, List.pairwise_iff_getElem] at h1
    obtain ⟨hi2, hi3⟩ := List.getElem?_eq_some_iff.mp hi
    obtain ⟨hj2, hj3⟩ := List.getElem?_eq_some_iff.mp hj
    rcases Nat.lt_trichotomy i j with q | q | q
    · exfalso
      refine h1 i j (by rw [List.length_map]; exact hi2) (by rw [List.length_map]; exact hj2) q ?_
      rw [List.getElem_map, List.getElem_map, hi3, hj3]; exact he
    · exact q
    · exfalso
      refine h1 j i (by rw [List.length_map]; exact hj2) (by rw [List.length_map]; exact hi2) q ?_
      rw [List.getElem_map, List.getElem_map, hi3, hj3]; exact he.symm
theorem D_perm {A : Nat → Prop} {ws' : va_W} (h : ws.Perm ws') (hD : va_D A ws) : va_D A ws' := by
  rw [D_iff] at hD ⊢
  exact ⟨(h.map Prod.fst).nodup_iff.mp hD.1, fun q hq => hD.2 q (h.mem_iff.mpr hq)⟩
theorem g_perm {A : Nat → Prop} (ws' : va_W) (h : ws.Perm ws') (kk : GW p l e R s m args below meth c Q (IM D s A) nL kc ks ws' lv st pc) : GW p l e R s m args below meth c Q (IM D s A) nL kc ks ws lv st pc := fun H locs ls hI hl => kk H locs ls ⟨P_perm h hI.1, D_perm h hI.2.1, hI.2.2⟩ hl
/-- places of the first part of a world, and of the rest -/
theorem at_fst (a b : va_W) : (List.range a.length).map (fun i => (a ++ b)[i]?) = a.map some := by
  refine List.ext_getElem? (fun i => ?_)
  rw [List.getElem?_map, List.getElem?_map]
  by_cases h : i < a.length
  · rw [List.getElem?_range h, List.getElem?_eq_getElem h]
    show some ((a ++ b)[i]?) = some (some _)
    rw [List.getElem?_append_left h, List.getElem?_eq_getElem h]
  · rw [List.getElem?_eq_none (by rw [List.length_range]; omega), List.getElem?_eq_none (by omega)]; rfl
theorem at_snd (a b : va_W) : ((List.range b.length).map (· + a.length)).map (fun i => (a ++ b)[i]?) = b.map some := by
  refine List.ext_getElem? (fun i => ?_)
  rw [List.getElem?_map, List.getElem?_map, List.getElem?_map]
  by_cases h : i < b.length
  · rw [List.getElem?_range h, List.getElem?_eq_getElem h]
    show some ((a ++ b)[i + a.length]?) = some (some _)
    rw [List.getElem?_append_right (by omega), show i + a.length - a.length = i by omega, List.getElem?_eq_getElem h]
  · rw [List.getElem?_eq_none (by rw [List.length_range]; omega), List.getElem?_eq_none (by omega)]; rfl
theorem nd_of : ∀ {L : List Nat}, L.Nodup → va_nd L = true
  | [], _ => rfl
  | a :: L, h => by
    rw [List.nodup_cons] at h
    show (decide (a ∉ L) && va_nd L) = true
    rw [nd_of h.2, decide_eq_true h.1]; rfl
theorem nd_fst (n : Nat) : va_nd (List.range n) = true := nd_of List.nodup_range
theorem nd_snd (n k : Nat) : va_nd ((List.range n).map (· + k)) = true := by
  refine nd_of ?_
  rw [List.nodup_iff_pairwise_ne, List.pairwise_map]
  exact List.Pairwise.imp (fun h e => by omega) (List.pairwise_lt_range (n := n))
theorem dis_12 (n k : Nat) : ∀ i ∈ (List.range n).map (· + k), i ∉ List.range k := by
  intro i hi hk
  rw [List.mem_map] at hi
  obtain ⟨j, -, rfl⟩ := hi
  rw [List.mem_range] at hk
  omega
/-- a call whose world is cut out of the caller's by a permutation -/
theorem g_callVP (F : Fx p s m args meth c cc nL own Ts rt D cA) {A : Nat → Prop} {y : MethodName} {wds : List Cond} {rm : Room} {av As rest : List Value} {wc wr : va_W} {post : Option Value → va_W → Prop} {mc ms maxL n index : Nat} {ret : Option FieldType} {bytes : ByteArray} {C : String} {b ci q0 : Nat} {qc : vw_C} {fs : List Value} (hM : CT l y wds rm D cA av wc post mc ms) (cw : CallW R s args own C index y bytes maxL ret wds rm mc ms n) (hcl : vwCl[ci]? = some qc) (hC0 : C = qc.1) (hb : wc[q0]? = some (b, .inr (ci, fs))) (hp : ws.Perm (wc ++ wr)) (hav : av = (.ref b :: As)) (hn : As.length = n) (hW : (rest.map fun v => v.category).sum ≤ 8) (hf : kc + mc ≤ R.cells ∧ ks + ms ≤ R.slots) (hA : ∀ q, s.heap.size ≤ q → A q) (hd : decode cc pc = .ok (.invokevirtual index, 3))
    (kk : ∀ v w, post v w → GW p l e R s m args below meth c Q (IM D s A) nL (kc + mc) (ks + ms) (wr ++ w) lv (v.toList ++ rest) (pc + 3)) : GW p l e R s m args below meth c Q (IM D s A) nL kc ks ws lv (As.reverse ++ .ref b :: rest) pc :=
  g_perm (wc ++ wr) hp (g_callV F hM cw hcl hC0 hb (List.range wc.length) ((List.range wr.length).map (· + wc.length)) (at_fst wc wr) (at_snd wc wr) (nd_fst _) (nd_snd _ _) (dis_12 _ _) hav hn hW hf hA hd kk)
end
