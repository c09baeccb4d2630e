section
variable {p : Program} {l : Launch} {e : Env} {R : Room} {s : State} {m : MethodId} {args : Array Value} {below : List Frame} {meth : Method} {c : Code} {Q : State → Prop} {Iv : va_W → Heap → List Loc → Prop} {nL kc ks : Nat} {ws : va_W} {lv : List (Nat × Value)} {st : List Value} {pc : Nat} {cc : ByteArray} {own : String} {Ts : List Cond} {rt : Option FieldType} {D : va_G} {cA : Nat → ClassId}
theorem arrV_cong (cI : ClassId) {N : Nat} {f g : Nat → Value} (h : ∀ j, j < N → f j = g j) : arrV cI N f = arrV cI N g := by
  unfold arrV
  congr 1
  congr 1
  funext j
  exact h j.val j.isLt
theorem cellI_cong (c : ClassId) {n : Nat} {f g : Nat → Int32} (h : ∀ j, j < n → f j = g j) : vp_cell c (n, .inl f) = vp_cell c (n, .inl g) := by
  rw [vp_cell_i, vp_cell_i]; exact arrV_cong _ (fun j hj => by rw [h j hj])
theorem cellJ_cong (c : ClassId) {n : Nat} {f g : Nat → Int64} (h : ∀ j, j < n → f j = g j) : vp_cell c (n, .inr (.inl f)) = vp_cell c (n, .inr (.inl g)) := by
  rw [vp_cell_l, vp_cell_l]; exact arrV_cong _ (fun j hj => by rw [h j hj])
theorem cpy_at {α : Type} (f g : Nat → α) {n j : Nat} (h : j < n) : va_cpy f g 0 0 n j = f j := by
  unfold va_cpy; rw [if_pos ⟨Nat.zero_le _, by omega⟩]; congr 1; omega
theorem setP_cong {D : va_G} {cl : List vw_C} {ws : va_W} {H : Heap} {k a : Nat} {x y : va_E} (hxy : va_at D cl (a, x) H → va_at D cl (a, y) H) (h : va_P D cl (ws.set k (a, x)) H) : va_P D cl (ws.set k (a, y)) H := by
  intro i q hq
  rw [List.getElem?_set] at hq
  have hi := h i
  rw [List.getElem?_set] at hi
  split at hq
  · rename_i e
    rw [if_pos e] at hi
    split at hq
    · rename_i e2
      rw [if_pos e2] at hi
      cases hq
      exact hxy (hi _ rfl)
    · cases hq
  · rename_i e
    rw [if_neg e] at hi
    exact hi q hq
theorem setD_cong {A : Nat → Prop} {ws : va_W} {k a : Nat} {x y : va_E} (h : va_D A (ws.set k (a, x))) : va_D A (ws.set k (a, y)) := by
  have key : ∀ (i : Nat) (q : Nat × va_E), (ws.set k (a, y))[i]? = some q → ∃ q', (ws.set k (a, x))[i]? = some q' ∧ q'.1 = q.1 := by
    intro i q hq
    rw [List.getElem?_set] at hq ⊢
    split at hq
    · rename_i e
      rw [if_pos e]
      split at hq
      · rename_i e2
        rw [if_pos e2]
        cases hq
        exact ⟨_, rfl, rfl⟩
      · cases hq
    · rename_i e
      rw [if_neg e]
      exact ⟨q, hq, rfl⟩
  refine ⟨fun i j p q hi hj e => ?_, fun i q hi => ?_⟩
  · obtain ⟨p', h1, h2⟩ := key i p hi
    obtain ⟨q', h3, h4⟩ := key j q hj
    exact h.1 i j p' q' h1 h3 (by rw [h2, h4, e])
  · obtain ⟨q', h1, h2⟩ := key i q hi
    rw [← h2]
    exact h.2 i q' h1
theorem g_cpyI (F : Fx p s m args meth c cc nL own Ts rt D cA) {A : Nat → Prop} (q0 q1 : Nat) {a0 a n index : Nat} {f g : Nat → Int} (he0 : ws[q0]? = some (a0, aI cA n f)) (he1 : ws[q1]? = some (a, aI cA n g)) (hn : n < 2147483648) {z : Int} (hz : z = (n : Int)) (ws' : va_W) (hw : ws.set q1 (a, aI cA n f) = ws') (h1 : Cond.methodLink own index arraycopyName ∈ Ts) (h2 : Cond.native arraycopyName ∈ Ts) (h3 : Cond.static arraycopyName ∈ Ts) (h4 : Cond.initialized "java/lang/System" ∈ Ts) (hf : 1 ≤ R.frames) (hlo : (st.map fun v => v.category).sum + (nativeFrameWords "java/lang/System" "arraycopy" 5 + 11) ≤ R.locals) (hd : decode cc pc = .ok (.invokestatic index, 3)) (kk : GW p l e R s m args below meth c Q (IM D s A) nL kc ks ws' lv st (pc + 3)) : GW p l e R s m args below meth c Q (IM D s A) nL kc ks ws lv (iv z :: iv 0 :: .ref a :: iv 0 :: .ref a0 :: st) pc := fun H locs ls hI hl => by
  subst hz
  have e0 : (Int32.ofInt 0).toNatClampNeg = 0 := by decide
  have en : (Int32.ofInt (n : Int)).toNatClampNeg = n := i32_cl hn
  have hnn : ¬ Int32.ofInt (n : Int) < 0 := by rw [i32_nat]; exact nI_pos hn
  refine va_copyi F.1 F.2.1 (F.2.2.1.trans hl.1.symm) F.2.2.2.1 (F.2.2.2.2.1 _ h1) (F.2.2.2.2.1 _ h2) (F.2.2.2.2.1 _ h3) (F.2.2.2.2.1 _ h4) F.2.2.2.2.2.1.1 hI.1 hI.2.1 hI.2.2 q0 q1 0 0 he0 he1 rfl rfl rfl (by decide) (by decide) hnn (by rw [e0, en]; omega) (by rw [e0, en]; omega) (fun _ _ => rfl) hf hlo hd fun H1 l1 g1 g2 g3 => ?_
  rw [e0, en] at g1 g2
  refine kk H1 l1 ls ⟨hw ▸ setP_cong ?_ g1, hw ▸ setD_cong g2, g3⟩ hl
  intro w
  exact w.trans (congrArg some (cellI_cong _ (fun j hj => cpy_at _ _ hj)))
theorem g_cpyJ (F : Fx p s m args meth c cc nL own Ts rt D cA) {A : Nat → Prop} (q0 q1 : Nat) {a0 a n index : Nat} {f g : Nat → Int} (he0 : ws[q0]? = some (a0, aJ cA n f)) (he1 : ws[q1]? = some (a, aJ cA n g)) (hn : n < 2147483648) {z : Int} (hz : z = (n : Int)) (ws' : va_W) (hw : ws.set q1 (a, aJ cA n f) = ws') (h1 : Cond.methodLink own index arraycopyName ∈ Ts) (h2 : Cond.native arraycopyName ∈ Ts) (h3 : Cond.static arraycopyName ∈ Ts) (h4 : Cond.initialized "java/lang/System" ∈ Ts) (hf : 1 ≤ R.frames) (hlo : (st.map fun v => v.category).sum + (nativeFrameWords "java/lang/System" "arraycopy" 5 + 11) ≤ R.locals) (hd : decode cc pc = .ok (.invokestatic index, 3)) (kk : GW p l e R s m args below meth c Q (IM D s A) nL kc ks ws' lv st (pc + 3)) : GW p l e R s m args below meth c Q (IM D s A) nL kc ks ws lv (iv z :: iv 0 :: .ref a :: iv 0 :: .ref a0 :: st) pc := fun H locs ls hI hl => by
  subst hz
  have e0 : (Int32.ofInt 0).toNatClampNeg = 0 := by decide
  have en : (Int32.ofInt (n : Int)).toNatClampNeg = n := i32_cl hn
  have hnn : ¬ Int32.ofInt (n : Int) < 0 := by rw [i32_nat]; exact nI_pos hn
  refine va_copyl F.1 F.2.1 (F.2.2.1.trans hl.1.symm) F.2.2.2.1 (F.2.2.2.2.1 _ h1) (F.2.2.2.2.1 _ h2) (F.2.2.2.2.1 _ h3) (F.2.2.2.2.1 _ h4) F.2.2.2.2.2.1.1 hI.1 hI.2.1 hI.2.2 q0 q1 1 1 he0 he1 rfl rfl rfl (by decide) (by decide) hnn (by rw [e0, en]; omega) (by rw [e0, en]; omega) (fun _ _ => rfl) hf hlo hd fun H1 l1 g1 g2 g3 => ?_
  rw [e0, en] at g1 g2
  refine kk H1 l1 ls ⟨hw ▸ setP_cong ?_ g1, hw ▸ setD_cong g2, g3⟩ hl
  intro w
  exact w.trans (congrArg some (cellJ_cong _ (fun j hj => cpy_at _ _ hj)))
theorem g_cpyZ (F : Fx p s m args meth c cc nL own Ts rt D cA) {A : Nat → Prop} (q0 q1 : Nat) {a0 a n index : Nat} {f g : Nat → Int} (he0 : ws[q0]? = some (a0, aZ cA n f)) (he1 : ws[q1]? = some (a, aZ cA n g)) (h01 : ∀ j, 0 ≤ f j ∧ f j ≤ 1) (hn : n < 2147483648) {z : Int} (hz : z = (n : Int)) (ws' : va_W) (hw : ws.set q1 (a, aZ cA n f) = ws') (h1 : Cond.methodLink own index arraycopyName ∈ Ts) (h2 : Cond.native arraycopyName ∈ Ts) (h3 : Cond.static arraycopyName ∈ Ts) (h4 : Cond.initialized "java/lang/System" ∈ Ts) (hf : 1 ≤ R.frames) (hlo : (st.map fun v => v.category).sum + (nativeFrameWords "java/lang/System" "arraycopy" 5 + 11) ≤ R.locals) (hd : decode cc pc = .ok (.invokestatic index, 3)) (kk : GW p l e R s m args below meth c Q (IM D s A) nL kc ks ws' lv st (pc + 3)) : GW p l e R s m args below meth c Q (IM D s A) nL kc ks ws lv (iv z :: iv 0 :: .ref a :: iv 0 :: .ref a0 :: st) pc := fun H locs ls hI hl => by
  subst hz
  have e0 : (Int32.ofInt 0).toNatClampNeg = 0 := by decide
  have en : (Int32.ofInt (n : Int)).toNatClampNeg = n := i32_cl hn
  have hnn : ¬ Int32.ofInt (n : Int) < 0 := by rw [i32_nat]; exact nI_pos hn
  refine va_copyi F.1 F.2.1 (F.2.2.1.trans hl.1.symm) F.2.2.2.1 (F.2.2.2.2.1 _ h1) (F.2.2.2.2.1 _ h2) (F.2.2.2.2.1 _ h3) (F.2.2.2.2.1 _ h4) F.2.2.2.2.2.1.1 hI.1 hI.2.1 hI.2.2 q0 q1 2 2 he0 he1 rfl rfl rfl (by decide) (by decide) hnn (by rw [e0, en]; omega) (by rw [e0, en]; omega) (fun i _ => by have h9 := h01 ((Int32.ofInt 0).toNatClampNeg + i); rcases (show f ((Int32.ofInt 0).toNatClampNeg + i) = 0 ∨ f ((Int32.ofInt 0).toNatClampNeg + i) = 1 by omega) with w | w <;> rw [w] <;> decide) hf hlo hd fun H1 l1 g1 g2 g3 => ?_
  rw [e0, en] at g1 g2
  refine kk H1 l1 ls ⟨hw ▸ setP_cong ?_ g1, hw ▸ setD_cong g2, g3⟩ hl
  intro w
  exact w.trans (congrArg some (cellI_cong _ (fun j hj => cpy_at _ _ hj)))
theorem setP_one {D : va_G} {cl : List vw_C} {ws : va_W} {H : Heap} {k a : Nat} {x y : va_E} (hk : ws[k]? = some (a, x)) (hxy : va_at D cl (a, x) H → va_at D cl (a, y) H) (h : va_P D cl ws H) : va_P D cl (ws.set k (a, y)) H := by
  intro i q hq
  rw [List.getElem?_set] at hq
  split at hq
  · rename_i e
    split at hq
    · cases hq
      exact hxy (h k _ hk)
    · cases hq
  · exact h i q hq
theorem setD_one {A : Nat → Prop} {ws : va_W} {k a : Nat} {x y : va_E} (hk : ws[k]? = some (a, x)) (h : va_D A ws) : va_D A (ws.set k (a, y)) := by
  have key : ∀ (i : Nat) (q : Nat × va_E), (ws.set k (a, y))[i]? = some q → ∃ q', ws[i]? = some q' ∧ q'.1 = q.1 := by
    intro i q hq
    rw [List.getElem?_set] at hq
    split at hq
    · rename_i e
      split at hq
      · cases hq
        subst e
        exact ⟨_, hk, rfl⟩
      · cases hq
    · exact ⟨q, hq, rfl⟩
  refine ⟨fun i j p q hi hj e => ?_, fun i q hi => ?_⟩
  · obtain ⟨p', h1, h2⟩ := key i p hi
    obtain ⟨q', h3, h4⟩ := key j q hj
    exact h.1 i j p' q' h1 h3 (by rw [h2, h4, e])
  · obtain ⟨q', h1, h2⟩ := key i q hi
    rw [← h2]
    exact h.2 i q' h1
theorem g_acongI {A : Nat → Prop} (q0 : Nat) {a n : Nat} {f : Nat → Int} (g : Nat → Int) (he : ws[q0]? = some (a, aI cA n f)) (h : ∀ j, j < n → f j = g j) (ws' : va_W) (hw : ws.set q0 (a, aI cA n g) = ws') (kk : GW p l e R s m args below meth c Q (IM D s A) nL kc ks ws' lv st pc) : GW p l e R s m args below meth c Q (IM D s A) nL kc ks ws lv st pc := fun H locs ls hI hl => kk H locs ls ⟨hw ▸ setP_one he (fun w => w.trans (congrArg some (cellI_cong _ (fun j hj => by rw [h j hj])))) hI.1, hw ▸ setD_one he hI.2.1, hI.2.2⟩ hl
theorem g_acongJ {A : Nat → Prop} (q0 : Nat) {a n : Nat} {f : Nat → Int} (g : Nat → Int) (he : ws[q0]? = some (a, aJ cA n f)) (h : ∀ j, j < n → f j = g j) (ws' : va_W) (hw : ws.set q0 (a, aJ cA n g) = ws') (kk : GW p l e R s m args below meth c Q (IM D s A) nL kc ks ws' lv st pc) : GW p l e R s m args below meth c Q (IM D s A) nL kc ks ws lv st pc := fun H locs ls hI hl => kk H locs ls ⟨hw ▸ setP_one he (fun w => w.trans (congrArg some (cellJ_cong _ (fun j hj => by rw [h j hj])))) hI.1, hw ▸ setD_one he hI.2.1, hI.2.2⟩ hl
theorem g_acongZ {A : Nat → Prop} (q0 : Nat) {a n : Nat} {f : Nat → Int} (g : Nat → Int) (he : ws[q0]? = some (a, aZ cA n f)) (h : ∀ j, j < n → f j = g j) (ws' : va_W) (hw : ws.set q0 (a, aZ cA n g) = ws') (kk : GW p l e R s m args below meth c Q (IM D s A) nL kc ks ws' lv st pc) : GW p l e R s m args below meth c Q (IM D s A) nL kc ks ws lv st pc := fun H locs ls hI hl => kk H locs ls ⟨hw ▸ setP_one he (fun w => w.trans (congrArg some (cellI_cong _ (fun j hj => by rw [h j hj])))) hI.1, hw ▸ setD_one he hI.2.1, hI.2.2⟩ hl
end
