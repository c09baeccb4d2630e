-- ===== one assignment visited =====
theorem cnt_cng {f g : Nat → Bool} : ∀ {n : Nat}, (∀ c, c < n → f c = g c) → cntZ f n = cntZ g n
  | 0, _ => rfl
  | n + 1, h => by
    show cntZ f n + (if f n then 1 else 0) = cntZ g n + (if g n then 1 else 0)
    rw [cnt_cng (fun c hc => h c (by omega)), h n (by omega)]
theorem frI_cong {nc n : Nat} {fx fx' : Nat → Bool} {fr : Nat → Nat} (h : ∀ c, c < nc → fx' c = fx c) (hf : frI nc n fx fr) : frI nc n fx' fr := by
  have e : ∀ c, c ≤ nc → cntZ (unf fx') c = cntZ (unf fx) c := fun c hc => cnt_cng (fun q hq => by show (!fx' q) = !fx q; rw [h q (by omega)])
  refine ⟨by rw [e nc (Nat.le_refl _)]; exact hf.1, fun c hc hx => ?_⟩
  rw [e c (by omega)]
  exact hf.2 c hc (by rw [← h c hc]; exact hx)
theorem fxS_cong {nc : Nat} {fx fx' : Nat → Bool} {fv fv' sa : Nat → Int} (h : ∀ c, c < nc → fx' c = fx c) (hv : ∀ c, c < nc → fx c = true → fv' c = fv c) (r : Nat) : fxS nc fx' fv' sa r = fxS nc fx fv sa r := by
  refine sm_cong (fun c hc => ?_)
  rw [h c hc]
  by_cases e : fx c = true
  · rw [if_pos e, if_pos e, hv c hc e]
  · rw [if_neg e, if_neg e]
theorem cdI_cong {nc nr n K : Nat} {fx fx' : Nat → Bool} {fr : Nat → Nat} {fv fv' lo hi rk num sa cs cn ck : Nat → Int} {wh wh' : Nat → Prop} (h : ∀ c, c < nc → fx' c = fx c) (hv : ∀ c, c < nc → fx c = true → fv' c = fv c) (hw : ∀ r, r < nr → (wh' r ↔ wh r)) (hc : cdI nc nr n K fx fr fv lo hi rk num sa wh cs cn ck) : cdI nc nr n K fx' fr fv' lo hi rk num sa wh' cs cn ck := by
  obtain ⟨h1, h2, h3⟩ := hc
  refine ⟨fun k hk => ?_, fun r hr hwr => ?_, h3⟩
  · rcases h1 k hk with ⟨r, r1, r2, r3⟩ | q
    · exact Or.inl ⟨r, r1, (hw r r1).mpr r2, by rw [fxS_cong h hv]; exact r3⟩
    · exact Or.inr q
  · obtain ⟨k, k1, k2⟩ := h2 r hr ((hw r hr).mp hwr)
    exact ⟨k, k1, by rw [fxS_cong h hv]; exact k2⟩
theorem fu_cong {nc n : Nat} {fx fx' : Nat → Bool} {fr : Nat → Nat} {fv fv' z y : Nat → Int} (h : ∀ c, c < nc → fx' c = fx c) (hv : ∀ c, c < nc → fx c = true → fv' c = fv c) (hf : isFu nc n fx fr fv z y) : isFu nc n fx' fr fv' z y := by
  obtain ⟨h1, h2, h3⟩ := hf
  exact ⟨h1, fun c hc hx => by rw [h c hc] at hx; rw [hv c hc hx]; exact h2 c hc hx, h3⟩
/-- what was laid for an assignment, and what became of its corners; or the end is known already -/
def visQ (nc nr : Nat) (kd pa lo hi rk num ct sa co : Nat → Int) (bp : Nat → Int) (plan fin : Prop) (f : Nat → Int) : Prop :=
  (∃ n K fr cs cn ck, frI nc n (fxB nc kd pa f) fr ∧ cdI nc nr n K (fxB nc kd pa f) fr (fvF kd f) lo hi rk num sa (fun r => ct r = 1) cs cn ck ∧ smallC n K cs cn ∧ n ≤ 5 ∧
    ∀ ch q u, chV n K ch → crnO n cs cn ch = some (q, u) → plP n K (cdV n cs cn) ck (ptV q u) → plan ∧ ∃ y', isFu nc n (fxB nc kd pa f) fr (fvF kd f) (ptV q u) y' ∧ leqP nc co bp y') ∧
  ((∃ y, subP nc nr (fxB nc kd pa f) (fvF kd f) lo hi rk num sa (fun r => ct r = 1) y) → fin ∨ ∃ n K fr cs cn ck, frI nc n (wayX (fxB nc kd pa f) hi) fr ∧ cdI nc (nr + 1) n K (wayX (fxB nc kd pa f) hi) fr (fun _ => 0) (fun _ => 0) (fun _ => NONEz) (rkW rk nr) (nuW nr) (saW sa nr) (whW (fun r => ct r = 1) nr) cs cn ck ∧ smallC n K cs cn ∧
    ∀ ch q u, chV n K ch → crnO n cs cn ch = some (q, u) → plP n K (cdV n cs cn) ck (ptV q u) → ¬ sumZ (fun j => co (fr j) * q j) n < 0)
theorem ref_sem2 {nc nr : Nat} {kd pa lo hi rk num ct sa co : Nat → Int} (hP : colsOk nc kd pa lo hi) {b : BS4} (hb : bnd4 b) {plan fin : Prop} (hout : (¬ plan → b.2.2.2 = 1) ∧ (plan → fin → b.2.2.2 = 2) ∧ (plan → ¬ fin → b.2.2.2 = 0))
    (hv : ∀ f, asgP nc kd lo hi f → pOkP nc kd pa lo hi f → visQ nc nr kd pa lo hi rk num ct sa co (bpV nc b) plan fin f)
    (hs : plan → FP nc kd pa lo hi (phiP rk ct sa nc num nr) (bpV nc b) ∧ b.2.1 = dotZ 6 (costV nc co) (bpV nc b)) (he : fin → rayP nc co (FP nc kd pa lo hi (phiP rk ct sa nc num nr))) :
    semP nc co (FP nc kd pa lo hi (phiP rk ct sa nc num nr)) b := by
  have hnc := hP.1
  have h012 : b.2.2.2 = 0 ∨ b.2.2.2 = 1 ∨ b.2.2.2 = 2 := by
    by_cases p : plan
    · by_cases f : fin
      · exact Or.inr (Or.inr (hout.2.1 p f))
      · exact Or.inl (hout.2.2 p f)
    · exact Or.inr (Or.inl (hout.1 p))
  refine ⟨⟨hb.1, hb.2.1, hb.2.2, h012, fun q => ?_, fun q => ?_⟩, fun y hy => ?_⟩
  · by_cases p : plan
    · exact hs p
    · have := hout.1 p; omega
  · by_cases f : fin
    · exact he f
    · by_cases p : plan
      · have := hout.2.2 p f; omega
      · have := hout.1 p; omega
  · obtain ⟨f, f1, f2, f3⟩ := FP_sub hP hy
    obtain ⟨⟨n, K, fr, cs, cn, ck, v1, v2, v3, v5, v4⟩, w⟩ := hv f f1 f2
    by_cases hray : ∃ w : Nat → Int, w 0 = 0 ∧ plP n K (cdV n cs cn) ck w ∧ sumZ (fun j => co (fr j) * w (1 + j)) n < 0
    · obtain ⟨w0, r1, r2, r3⟩ := hray
      obtain ⟨ch, q, u, c1, c2, c3, c4, c5⟩ := sub_corner (co := fun _ => 0) hnc v1 v2 v3 (fun w _ _ h => by
        rw [sm_z (fun j _ => by simp)] at h
        omega) f3
      have hplan := (v4 ch q u c1 c2 c4).1
      rcases w ⟨y, f3⟩ with hfin | ⟨n2, K2, fr2, cs2, cn2, ck2, x1, x2, x3, x4⟩
      · exact Or.inl (hout.2.1 hplan hfin)
      · obtain ⟨ch2, q2, u2, g1, g2, g3, g4, g5⟩ := way_found (co := co) hnc v1 v2 x1 x2 x3 r1 r2 r3
        exact absurd g5 (x4 ch2 q2 u2 g1 g2 g4)
    · obtain ⟨ch, q, u, c1, c2, c3, c4, c5⟩ := sub_corner (co := co) hnc v1 v2 v3 (fun w h1 h2 h3 => hray ⟨w, h1, h2, h3⟩) f3
      obtain ⟨hplan, y', y1, y2⟩ := v4 ch q u c1 c2 c4
      by_cases f : fin
      · exact Or.inl (hout.2.1 hplan f)
      · refine Or.inr ⟨hout.2.2 hplan f, ?_⟩
        have e0 : bpV nc b 0 = b.2.2.1 := by unfold bpV; rw [if_pos rfl]
        exact leq_trans (by rw [e0]; exact hb.1.1) (by rw [y1.1, pt_0]; exact c3) f3.1 y2 (c5 y' y1)
theorem visQ_mono {nc nr : Nat} {kd pa lo hi rk num ct sa co bp bp' f : Nat → Int} {plan plan' fin fin' : Prop} (h0 : 0 < bp 0) (h0' : 0 < bp' 0) (hl : plan → plan' ∧ leqP nc co bp' bp) (hf : fin → fin') (h : visQ nc nr kd pa lo hi rk num ct sa co bp plan fin f) : visQ nc nr kd pa lo hi rk num ct sa co bp' plan' fin' f := by
  obtain ⟨⟨n, K, fr, cs, cn, ck, v1, v2, v3, v5, v4⟩, w⟩ := h
  refine ⟨⟨n, K, fr, cs, cn, ck, v1, v2, v3, v5, fun ch q u c1 c2 c3 => ?_⟩, fun hy => ?_⟩
  · obtain ⟨a1, y, a2, a3⟩ := v4 ch q u c1 c2 c3
    obtain ⟨b1, b2⟩ := hl a1
    exact ⟨b1, y, a2, leq_trans h0' h0 (by rw [a2.1, pt_0]; exact (crn_bnd v5 v3 c1 c2).1) b2 a3⟩
  · rcases w hy with z | z
    · exact Or.inl (hf z)
    · exact Or.inr z
theorem fu_ex {nc n : Nat} {fx : Nat → Bool} {fr : Nat → Nat} (hf : frI nc n fx fr) (fv q : Nat → Int) (u : Int) : ∃ y, isFu nc n fx fr fv (ptV q u) y := by
  refine ⟨fun y => if y = 0 then u else if fx (y - 1) = true then fv (y - 1) * u else q (cntZ (unf fx) (y - 1)), ?_, fun c hc hxx => ?_, fun j hj => ?_⟩
  · rw [pt_0]; rfl
  · show (if 1 + c = 0 then u else if fx (1 + c - 1) = true then fv (1 + c - 1) * u else _) = fv c * (if (0 : Nat) = 0 then u else _)
    rw [if_neg (by omega), show 1 + c - 1 = c by omega, if_pos hxx, if_pos rfl]
  · obtain ⟨a1, a2, a3⟩ := fr_at hf hj
    show (if 1 + fr j = 0 then u else if fx (1 + fr j - 1) = true then fv (1 + fr j - 1) * u else q (cntZ (unf fx) (1 + fr j - 1))) = _
    rw [if_neg (by omega), show 1 + fr j - 1 = fr j by omega, if_neg (by rw [a2]; decide), a3, pt_c]
/-- what tryFixed does -/
def tryP (nc nr : Nat) (fx : Nat → Bool) (fv lo hi rk num sa ct co be0 : Nat → Int) (bc0 bu0 hb0 pf0 ef0 : Int) (be : Nat → Int) (bc bu hb pf ef : Int) (x : Nat) : Prop :=
  ∃ (n K : Nat) (fr cs cn ck : Nat → Int) (so : Int), layP nc nr n K fx fv lo hi rk num sa (fun r => (setZ ct nr).testBit r = true) fr cs cn ck ∧ crI nc n K fx (frN fr) fv cs cn ck co be0 bc0 bu0 hb0 be bc bu hb so ∧
    (∀ t, chV n K t → visC nc n K fx (frN fr) fv cs cn ck co (so = 1) (be, bc, bu, 0) t) ∧ pf = (if so = 1 then 1 else pf0) ∧ (so = 0 → ef = ef0) ∧
    (so = 1 → (ef = 1 ∧ (ef0 = 1 ∨ wayE nc nr rk ct sa co x)) ∨ (ef = 0 ∧ ef0 = 0 ∧ endP nc nr rk ct sa co x))
/-- what the search keeps -/
def seI (nc nr : Nat) (kd pa lo hi rk num ct sa co be : Nat → Int) (bc bu hb pf ef : Int) : Prop :=
  bsI nc co be bc bu hb ∧ (pf = 0 ∨ pf = 1) ∧ (ef = 0 ∨ ef = 1) ∧ (∀ j, nc ≤ j → be j = 0) ∧ (hb = 1 ↔ pf = 1) ∧
  (pf = 1 → FP nc kd pa lo hi (phiP rk ct sa nc num nr) (bpV nc (be, bc, bu, 0))) ∧ (ef = 1 → pf = 1 ∧ rayP nc co (FP nc kd pa lo hi (phiP rk ct sa nc num nr)))
abbrev VQ (nc nr : Nat) (kd pa lo hi rk num ct sa co be : Nat → Int) (bc bu pf ef : Int) (g : Nat → Int) : Prop := pOkP nc kd pa lo hi g → visQ nc nr kd pa lo hi rk num ct sa co (bpV nc (be, bc, bu, 0)) (pf = 1) (ef = 1) g
theorem wl_way {nc nr n K x : Nat} {FX : Nat → Bool} {fx hi rk ct sa fr cs cn ck : Nat → Int} (hx : x = setZ (endZ fx hi) nc) (hF : ∀ c, c < nc → FX c = bzF fx c) (h : wlP nc nr n K x rk ct sa fr cs cn ck) : frI nc n (wayX FX hi) (frN fr) ∧ cdI nc (nr + 1) n K (wayX FX hi) (frN fr) (fun _ => 0) (fun _ => 0) (fun _ => NONEz) (rkW rk nr) (nuW nr) (saW sa nr) (whW (fun r => ct r = 1) nr) cs cn ck ∧ smallC n K cs cn := by
  obtain ⟨h1, h2, h3, h4, h5, h6⟩ := h
  have e : ∀ c, c < nc → wayX FX hi c = bzF (btI x) c := by
    intro c hc
    unfold wayX btI
    rw [hF c hc]
    have hb : x.testBit c = decide (endZ fx hi c = 1) := by
      rw [hx, setZ_bit]
      simp [hc]
    show (decide (fx c ≠ 0) || decide (hi c ≠ NONEz)) = decide ((if x.testBit c = true then (0 : Int) else 1) ≠ 0)
    rw [hb]
    by_cases a : fx c = 0
    · by_cases b : hi c = -2000000005
      · have h1 : endZ fx hi c = 1 := by show (if _ then _ else _) = _; rw [if_pos ⟨a, b⟩]
        have hN : hi c = NONEz := b
        simp [h1, a, hN]
      · have h1 : endZ fx hi c = 0 := by show (if _ then _ else _) = _; rw [if_neg (fun z => b z.2)]
        have hN : hi c ≠ NONEz := b
        simp [h1, a, hN]
    · have h1 : endZ fx hi c = 0 := by show (if _ then _ else _) = _; rw [if_neg (fun z => a z.1)]
      simp [h1, a]
  exact ⟨frI_cong e h1, cdI_cong e (fun c _ _ => rfl) (fun r _ => Iff.rfl) h3, h4.1⟩
theorem try_step {nc nr x : Nat} {kd pa lo hi rk num ct sa co fx fv f be0 be : Nat → Int} {bc0 bu0 hb0 pf0 ef0 bc bu hb pf ef : Int} (hP : colsOk nc kd pa lo hi)
    (h : seI nc nr kd pa lo hi rk num ct sa co be0 bc0 bu0 hb0 pf0 ef0) (ht : tryP nc nr (bzF fx) fv lo hi rk num sa ct co be0 bc0 bu0 hb0 pf0 ef0 be bc bu hb pf ef x)
    (hx : x = setZ (endZ fx hi) nc) (hF : ∀ c, c < nc → fxB nc kd pa f c = bzF fx c) (hV : ∀ c, c < nc → bzF fx c = true → fvF kd f c = fv c) (ha : asgP nc kd lo hi f) (hp : pOkP nc kd pa lo hi f) :
    seI nc nr kd pa lo hi rk num ct sa co be bc bu hb pf ef ∧ (∀ g, VQ nc nr kd pa lo hi rk num ct sa co be0 bc0 bu0 pf0 ef0 g → VQ nc nr kd pa lo hi rk num ct sa co be bc bu pf ef g) ∧ VQ nc nr kd pa lo hi rk num ct sa co be bc bu pf ef f := by
  have hnc := hP.1
  obtain ⟨n, K, fr, cs, cn, ck, so, ⟨l1, l2, l3, l4, l5, l6⟩, c1, c2, c3, c4, c5⟩ := ht
  obtain ⟨s1, s2, s3, s4, s5, s6, s7⟩ := h
  obtain ⟨b1, b2, b3, b4, b5, b6, b7⟩ := c1
  have hwh : ∀ r, r < nr → (ct r = 1 ↔ (setZ ct nr).testBit r = true) := fun r hr => by
    rw [setZ_bit, decide_eq_true_eq]
    exact ⟨fun z => ⟨hr, z⟩, fun z => z.2⟩
  have hfr := frI_cong hF l1
  have hcd : cdI nc nr n K (fxB nc kd pa f) (frN fr) (fvF kd f) lo hi rk num sa (fun r => ct r = 1) cs cn ck := cdI_cong hF hV hwh l3
  have hsub : ∀ q y, isFu nc n (bzF fx) (frN fr) fv (ptV q (y 0)) y → 0 < y 0 → plP n K (cdV n cs cn) ck (ptV q (y 0)) → subP nc nr (fxB nc kd pa f) (fvF kd f) lo hi rk num sa (fun r => ct r = 1) y := fun q y h1 h2 h3 => (sub_iff hfr hcd (fu_cong hF hV h1) h2).mp h3
  have hso : so = 0 → be = be0 ∧ bc = bc0 ∧ bu = bu0 ∧ hb = hb0 := fun z => by
    rcases b5 with w | ⟨w, -⟩
    · exact w
    · omega
  have hpf1 : so = 1 → pf = 1 := fun z => by rw [c3, if_pos z]
  have hpf0 : so = 0 → pf = pf0 := fun z => by rw [c3, if_neg (by omega)]
  have hFP : so = 1 → FP nc kd pa lo hi (phiP rk ct sa nc num nr) (bpV nc (be, bc, bu, 0)) := by
    intro z
    rcases b5 with ⟨w1, w2, w3, w4⟩ | ⟨-, q, q1, q2⟩
    · have := b3 z
      rw [w1, w2, w3]
      exact s6 (s5.mp (by omega))
    · refine sub_FP ha hp (hsub q _ ?_ ?_ ?_)
      · rw [bp_0]; exact q2
      · rw [bp_0]; exact b1.2.1.1
      · rw [bp_0]; exact q1
  have hplan : ∀ y, subP nc nr (fxB nc kd pa f) (fvF kd f) lo hi rk num sa (fun r => ct r = 1) y → so = 1 := by
    intro y hy
    obtain ⟨ch, q, u, d1, d2, d3, d4, d5⟩ := sub_corner (co := fun _ => 0) hnc hfr hcd l4.1 (fun w _ _ h => by
      rw [sm_z (fun j _ => by simp)] at h
      omega) hy
    exact (c2 ch d1 q u d2 d4).1
  have hway : so = 1 → wayE nc nr rk ct sa co x → rayP nc co (FP nc kd pa lo hi (phiP rk ct sa nc num nr)) := by
    intro z hw
    obtain ⟨n2, K2, fr2, cs2, cn2, ck2, w1, t, q, u, t1, t2, t3, t4, t5⟩ := hw
    obtain ⟨x1, x2, x3⟩ := wl_way (FX := fxB nc kd pa f) hx hF w1
    obtain ⟨d, hd⟩ := fu_ex x1 (fun _ => 0) q u
    have hd0 : 0 < d 0 := by rw [hd.1, pt_0]; exact t3
    have hwp := (sub_iff x1 x2 hd hd0).mp t4
    have hneg : sumZ (fun c => co c * d (1 + c)) nc < 0 := by
      have e := fr_split x1 (fun c => co c * d (1 + c))
      rw [e, sm_z (fun c hc => ?_)]
      · rw [sm_cong (n := n2) (g := fun j => co (frN fr2 j) * q j) (fun j hj => by rw [hd.2.2 j hj, pt_c])]
        have : sumZ (fun j => co (frN fr2 j) * q j) n2 < 0 := t5
        omega
      · by_cases e2 : wayX (fxB nc kd pa f) hi c = true
        · rw [if_pos e2, hd.2.1 c hc e2]; simp
        · rw [if_neg e2]
    obtain ⟨q0, u0, p1, p2⟩ := b7 z
    obtain ⟨y, hy⟩ := fu_ex hfr (fvF kd f) q0 u0
    have hy0 : 0 < y 0 := by rw [hy.1, pt_0]; exact p1
    exact way_ray hnc ha hp ((sub_iff hfr hcd hy hy0).mp p2) hwp hneg
  refine ⟨⟨b1, ?_, ?_, fun j hj => ?_, ?_, fun z => ?_, fun z => ?_⟩, fun g hg hpg => ?_, fun _ => ⟨⟨n, K, frN fr, cs, cn, ck, hfr, hcd, l4.1, l6, fun ch q u d1 d2 d3 => ?_⟩, ?_⟩⟩
  · rcases b2 with z | z
    · rw [hpf0 z]; exact s2
    · exact Or.inr (hpf1 z)
  · rcases b2 with z | z
    · rw [c4 z]; exact s3
    · rcases c5 z with w | w
      · exact Or.inr w.1
      · exact Or.inl w.1
  · rw [b6 j hj]; exact s4 j hj
  · rcases b2 with z | z
    · rw [(hso z).2.2.2, hpf0 z]; exact s5
    · exact ⟨fun _ => hpf1 z, fun _ => b3 z⟩
  · rcases b2 with w | w
    · obtain ⟨e1, e2, e3, e4⟩ := hso w
      rw [e1, e2, e3]; rw [hpf0 w] at z; exact s6 z
    · exact hFP w
  · rcases b2 with w | w
    · rw [c4 w] at z; rw [hpf0 w]; exact s7 z
    · refine ⟨hpf1 w, ?_⟩
      rcases c5 w with ⟨y1, y2⟩ | ⟨y1, -, -⟩
      · rcases y2 with y2 | y2
        · exact (s7 y2).2
        · exact hway w y2
      · omega
  · refine visQ_mono (bp := bpV nc (be0, bc0, bu0, 0)) (plan := pf0 = 1) (fin := ef0 = 1) (by rw [bp_0]; exact s1.2.1.1) (by rw [bp_0]; exact b1.2.1.1) (fun z => ?_) (fun z => ?_) (hg hpg)
    · obtain ⟨w1, w2⟩ := b4 (s5.mpr z)
      refine ⟨?_, w2⟩
      rcases b2 with w | w
      · rw [hpf0 w]; exact z
      · exact hpf1 w
    · rcases b2 with w | w
      · rw [c4 w]; exact z
      · rcases c5 w with y | y
        · exact y.1
        · omega
  · obtain ⟨a1, y, a2, a3⟩ := c2 ch d1 q u d2 d3
    exact ⟨hpf1 a1, y, fu_cong hF hV a2, a3⟩
  · rintro ⟨y, hy⟩
    rcases c5 (hplan y hy) with z | ⟨-, -, n2, K2, fr2, cs2, cn2, ck2, w1, w2⟩
    · exact Or.inl z.1
    · obtain ⟨x1, x2, x3⟩ := wl_way (FX := fxB nc kd pa f) hx hF w1
      exact Or.inr ⟨n2, K2, frN fr2, cs2, cn2, ck2, x1, x2, x3, fun ch q u d1 d2 d3 => w2 ch d1 q u d2 d3⟩
