/-! ===== the class: rides ===== -/
set_option maxRecDepth 4000 in
theorem p_X1_hasFloor {Γ : Gm} {d : Nat} {m : Mem} (x : Int) : Ci Γ (d + 0) MX1_hasFloor [rv 33, iv x] m (fun r m' => r = (if 0 ≤ x ∧ x < m 33 0 then 1 else 0) ∧ m' = m) := by
  refine Ci.of moX1_hasFloor rfl rfl (fun hA hM => ?_)
  show Em Γ (d + 0) MX1_hasFloor _ 0 [rv 33, iv x] [] m
  refine Ev.iload_n (q := 1) dX1_hasFloor_0 rfl rfl ?_
  refine Ev.if_lt (tgt := 16) (q := 4) dX1_hasFloor_1 (by decide) rfl (fun h1 => ?_) (fun h1 => ?_)
  · skip
    refine Ev.iconst (q := 17) dX1_hasFloor_16 ki_0 rfl ?_
    refine rZ dX1_hasFloor_17 rfl (by decide) ?_
    exact ⟨by split <;> first | rfl | omega, rfl⟩
  · skip
    refine Ev.iload_n (q := 5) dX1_hasFloor_4 rfl rfl ?_
    refine Ev.aload_n (q := 6) dX1_hasFloor_5 rfl rfl ?_
    refine gI (q := 9) dX1_hasFloor_6 gfX1_9 k33 rfl rfl ?_
    refine Ev.icmp_ge (tgt := 16) (q := 12) dX1_hasFloor_9 (by decide) rfl (fun h2 => ?_) (fun h2 => ?_)
    · skip
      refine Ev.iconst (q := 17) dX1_hasFloor_16 ki_0 rfl ?_
      refine rZ dX1_hasFloor_17 rfl (by decide) ?_
      exact ⟨by split <;> first | rfl | omega, rfl⟩
    · skip
      refine Ev.iconst (q := 13) dX1_hasFloor_12 ki_1 rfl ?_
      refine Ev.goto (q := 17) dX1_hasFloor_13 (by decide) ?_
      refine rZ dX1_hasFloor_17 rfl (by decide) ?_
      exact ⟨by split <;> first | rfl | omega, rfl⟩
set_option maxRecDepth 4000 in
theorem p_X1_hasLift {Γ : Gm} {d : Nat} {m : Mem} (x : Int) : Ci Γ (d + 0) MX1_hasLift [rv 33, iv x] m (fun r m' => r = (if 0 ≤ x ∧ x < m 33 2 then 1 else 0) ∧ m' = m) := by
  refine Ci.of moX1_hasLift rfl rfl (fun hA hM => ?_)
  show Em Γ (d + 0) MX1_hasLift _ 0 [rv 33, iv x] [] m
  refine Ev.iload_n (q := 1) dX1_hasLift_0 rfl rfl ?_
  refine Ev.if_lt (tgt := 16) (q := 4) dX1_hasLift_1 (by decide) rfl (fun h1 => ?_) (fun h1 => ?_)
  · skip
    refine Ev.iconst (q := 17) dX1_hasLift_16 ki_0 rfl ?_
    refine rZ dX1_hasLift_17 rfl (by decide) ?_
    exact ⟨by split <;> first | rfl | omega, rfl⟩
  · skip
    refine Ev.iload_n (q := 5) dX1_hasLift_4 rfl rfl ?_
    refine Ev.aload_n (q := 6) dX1_hasLift_5 rfl rfl ?_
    refine gI (q := 9) dX1_hasLift_6 gfX1_18 k33 rfl rfl ?_
    refine Ev.icmp_ge (tgt := 16) (q := 12) dX1_hasLift_9 (by decide) rfl (fun h2 => ?_) (fun h2 => ?_)
    · skip
      refine Ev.iconst (q := 17) dX1_hasLift_16 ki_0 rfl ?_
      refine rZ dX1_hasLift_17 rfl (by decide) ?_
      exact ⟨by split <;> first | rfl | omega, rfl⟩
    · skip
      refine Ev.iconst (q := 13) dX1_hasLift_12 ki_1 rfl ?_
      refine Ev.goto (q := 17) dX1_hasLift_13 (by decide) ?_
      refine rZ dX1_hasLift_17 rfl (by decide) ?_
      exact ⟨by split <;> first | rfl | omega, rfl⟩
set_option maxRecDepth 4000 in
theorem p_X1_hasPerson {Γ : Gm} {d : Nat} {m : Mem} (x : Int) : Ci Γ (d + 0) MX1_hasPerson [rv 33, iv x] m (fun r m' => r = (if 0 ≤ x ∧ x < m 33 3 then 1 else 0) ∧ m' = m) := by
  refine Ci.of moX1_hasPerson rfl rfl (fun hA hM => ?_)
  show Em Γ (d + 0) MX1_hasPerson _ 0 [rv 33, iv x] [] m
  refine Ev.iload_n (q := 1) dX1_hasPerson_0 rfl rfl ?_
  refine Ev.if_lt (tgt := 16) (q := 4) dX1_hasPerson_1 (by decide) rfl (fun h1 => ?_) (fun h1 => ?_)
  · skip
    refine Ev.iconst (q := 17) dX1_hasPerson_16 ki_0 rfl ?_
    refine rZ dX1_hasPerson_17 rfl (by decide) ?_
    exact ⟨by split <;> first | rfl | omega, rfl⟩
  · skip
    refine Ev.iload_n (q := 5) dX1_hasPerson_4 rfl rfl ?_
    refine Ev.aload_n (q := 6) dX1_hasPerson_5 rfl rfl ?_
    refine gI (q := 9) dX1_hasPerson_6 gfX1_21 k33 rfl rfl ?_
    refine Ev.icmp_ge (tgt := 16) (q := 12) dX1_hasPerson_9 (by decide) rfl (fun h2 => ?_) (fun h2 => ?_)
    · skip
      refine Ev.iconst (q := 17) dX1_hasPerson_16 ki_0 rfl ?_
      refine rZ dX1_hasPerson_17 rfl (by decide) ?_
      exact ⟨by split <;> first | rfl | omega, rfl⟩
    · skip
      refine Ev.iconst (q := 13) dX1_hasPerson_12 ki_1 rfl ?_
      refine Ev.goto (q := 17) dX1_hasPerson_13 (by decide) ?_
      refine rZ dX1_hasPerson_17 rfl (by decide) ?_
      exact ⟨by split <;> first | rfl | omega, rfl⟩
set_option maxRecDepth 4000 in
theorem p_X1_lastingAt {Γ : Gm} {d : Nat} {m : Mem} (h l f n : Nat) (hl : l < 3) (hf : f < 12) (hn : n < 12) : Ci Γ (d + 0) MX1_lastingAt [rv h, iv l, iv f, iv n] m (fun r m' => r = (((l * 12 + f) * 12 + n : Nat) : Int) ∧ m' = m) := by
  refine Ci.of moX1_lastingAt rfl rfl (fun hA hM => ?_)
  show Em Γ (d + 0) MX1_lastingAt _ 0 [rv h, iv l, iv f, iv n] [] m
  refine Ev.iload_n (q := 1) dX1_lastingAt_0 rfl rfl ?_
  refine Ev.bipush (q := 3) dX1_lastingAt_1 kb_12 rfl ?_
  refine Ev.imul (q := 4) dX1_lastingAt_3 rfl ?_
  refine Ev.iload_n (q := 5) dX1_lastingAt_4 rfl rfl ?_
  refine Ev.iadd (q := 6) dX1_lastingAt_5 rfl ?_
  refine Ev.bipush (q := 8) dX1_lastingAt_6 kb_12 rfl ?_
  refine Ev.imul (q := 9) dX1_lastingAt_8 rfl ?_
  refine Ev.iload_n (q := 10) dX1_lastingAt_9 rfl rfl ?_
  refine Ev.iadd (q := 11) dX1_lastingAt_10 rfl ?_
  refine rI dX1_lastingAt_11 rfl ?_
  rw [w32_of (z := (l : Int) * 12) (by omega) (by omega), w32_of (z := (l : Int) * 12 + (f : Int)) (by omega) (by omega), w32_of (z := ((l : Int) * 12 + (f : Int)) * 12) (by omega) (by omega), w32_of (by omega) (by omega)]
  exact ⟨by omega, rfl⟩
set_option maxRecDepth 4000 in
theorem p_X1_lasts {Γ : Gm} {d : Nat} {m : Mem} (h l f n : Nat) (hh : h ∈ houC) (hl : l < 3) (hf : f < 12) (hn : n < 12) : Ci Γ (d + 1) MX1_lasts [rv h, iv l, iv f, iv n] m (fun r m' => r = m (h + 10) ((l * 12 + f) * 12 + n) ∧ m' = m) := by
  refine Ci.of moX1_lasts rfl rfl (fun hA hM => ?_)
  show Em Γ (d + 1) MX1_lasts _ 0 [rv h, iv l, iv f, iv n] [] m
  obtain ⟨hoK, ⟨hor0, hor1, hor2, hor3, hor4, hor5, hor6, hor7, hor8, hor9⟩, hoK0, hoK1, hoK2, hoK3, hoK4, hoK5, hoK6, hoK7, hoK8, hoK9, hoN⟩ := houK h hh
  refine Ev.aload_n (q := 1) dX1_lasts_0 rfl rfl ?_
  refine gR (q := 4) dX1_lasts_1 gfX1_52 hoK hor9 rfl rfl ?_
  refine Ev.aload_n (q := 5) dX1_lasts_4 rfl rfl ?_
  refine Ev.iload_n (q := 6) dX1_lasts_5 rfl rfl ?_
  refine Ev.iload_n (q := 7) dX1_lasts_6 rfl rfl ?_
  refine Ev.iload_n (q := 8) dX1_lasts_7 rfl rfl ?_
  refine cV3i (q := 11) (d' := d + 0) dX1_lasts_8 mlX1_67 moX1_lastingAt mvX1_lastingAt hoK rfl rfl rfl (Nat.le_refl _) rfl rfl rfl (p_X1_lastingAt h l f n hl hf hn) (fun r1 m1 e1 => ?_)
  obtain ⟨rfl, e1⟩ := e1
  obtain rfl := e1.symm
  refine aI (q := 12) (k := (l * 12 + f) * 12 + n) dX1_lasts_11 hoK9 (by first | rfl | omega | (simp (disch := omega) only [w32_of]; omega)) (by omega) rfl ?_
  refine rI dX1_lasts_12 rfl ?_
  exact ⟨rfl, rfl⟩
set_option maxRecDepth 4000 in
theorem p_X1_onFootHome {Γ : Gm} {d : Nat} {m : Mem} (h p f : Nat) (hh : h ∈ houC) (hp : p < 8) (hf : f < 12) : Ci Γ (d + 0) MX1_onFootHome [rv h, iv p, iv f] m (fun r m' => r = m (h + 9) (p * 12 + f) ∧ m' = m) := by
  refine Ci.of moX1_onFootHome rfl rfl (fun hA hM => ?_)
  show Em Γ (d + 0) MX1_onFootHome _ 0 [rv h, iv p, iv f] [] m
  obtain ⟨hoK, ⟨hor0, hor1, hor2, hor3, hor4, hor5, hor6, hor7, hor8, hor9⟩, hoK0, hoK1, hoK2, hoK3, hoK4, hoK5, hoK6, hoK7, hoK8, hoK9, hoN⟩ := houK h hh
  refine Ev.aload_n (q := 1) dX1_onFootHome_0 rfl rfl ?_
  refine gR (q := 4) dX1_onFootHome_1 gfX1_49 hoK hor8 rfl rfl ?_
  refine Ev.iload_n (q := 5) dX1_onFootHome_4 rfl rfl ?_
  refine Ev.bipush (q := 7) dX1_onFootHome_5 kb_12 rfl ?_
  refine Ev.imul (q := 8) dX1_onFootHome_7 rfl ?_
  refine Ev.iload_n (q := 9) dX1_onFootHome_8 rfl rfl ?_
  refine Ev.iadd (q := 10) dX1_onFootHome_9 rfl ?_
  refine aI (q := 11) (k := p * 12 + f) dX1_onFootHome_10 hoK8 (by rw [w32_of (z := (p : Int) * 12) (by omega) (by omega), w32_of (by omega) (by omega)]; omega) (by omega) rfl ?_
  refine rI dX1_onFootHome_11 rfl ?_
  exact ⟨rfl, rfl⟩
set_option maxRecDepth 4000 in
theorem p_X4_isLit {Γ : Gm} {d : Nat} {m : Mem} (n l f s : Nat) (hn : n ∈ nowC) (hl : l < 3) (hf : f < 12) (hs : m (n + 3) l = s) (hs12 : s < 4096) : Ci Γ (d + 0) MX4_isLit [rv n, iv l, iv f] m (fun r m' => r = (if s.testBit f = true then 1 else 0) ∧ m' = m) := by
  refine Ci.of moX4_isLit rfl rfl (fun hA hM => ?_)
  show Em Γ (d + 0) MX4_isLit _ 0 [rv n, iv l, iv f] [] m
  obtain ⟨nwK, ⟨nwr0, nwr1, nwr2, nwr3, nwr4, nwr5, nwr6⟩, nwK0, nwK1, nwK2, nwK3, nwK4, nwK5, nwK6, nwN⟩ := nowK n hn
  refine Ev.aload_n (q := 1) dX4_isLit_0 rfl rfl ?_
  refine gR (q := 4) dX4_isLit_1 gfX4_18 nwK nwr2 rfl rfl ?_
  refine Ev.iload_n (q := 5) dX4_isLit_4 rfl rfl ?_
  refine aI (q := 6) (k := l) dX4_isLit_5 nwK2 (by first | rfl | omega | (simp (disch := omega) only [w32_of]; omega)) (by omega) rfl ?_
  refine Ev.iconst (q := 7) dX4_isLit_6 ki_1 rfl ?_
  refine Ev.iload_n (q := 8) dX4_isLit_7 rfl rfl ?_
  refine Ev.ishl (q := 9) dX4_isLit_8 rfl ?_
  refine Ev.iand (q := 10) dX4_isLit_9 rfl ?_
  rw [hs]
  refine Ev.if_eq (tgt := 17) (q := 13) dX4_isLit_10 (by decide) rfl (fun h1 => ?_) (fun h1 => ?_)
  · skip
    refine Ev.iconst (q := 18) dX4_isLit_17 ki_0 rfl ?_
    refine rZ dX4_isLit_18 rfl (by decide) ?_
    have hb := bit_and hs12 hf
    exact ⟨by cases hq : s.testBit f <;> simp [hq] at hb ⊢ <;> first | rfl | omega, rfl⟩
  · skip
    refine Ev.iconst (q := 14) dX4_isLit_13 ki_1 rfl ?_
    refine Ev.goto (q := 18) dX4_isLit_14 (by decide) ?_
    refine rZ dX4_isLit_18 rfl (by decide) ?_
    have hb := bit_and hs12 hf
    exact ⟨by cases hq : s.testBit f <;> simp [hq] at hb ⊢ <;> first | rfl | omega, rfl⟩
theorem dabs {h f : Nat} (h1 : h < 12) (h2 : f < 12) : (if w32 ((f : Int) - h) < 0 then w32 (-(w32 ((f : Int) - h))) else w32 ((f : Int) - h)) = (dst h f : Int) := by
  rw [w32_of (z := (f : Int) - h) (by omega) (by omega), w32_of (z := -((f : Int) - h)) (by omega) (by omega)]
  unfold dst
  split <;> split <;> omega
theorem HouR.sp {g : Row} {m : Mem} (h : HouR g m 33) {l : Nat} (hl : (l : Int) < g 2) : m 35 l = g (22 + l) := (h.2.2.1 l hl).1
theorem HouR.st {g : Row} {m : Mem} (h : HouR g m 33) {l : Nat} (hl : (l : Int) < g 2) {f n : Nat} (hf : (f : Int) < g 1) (h1 : 1 ≤ n) (h2 : n < 12) : m 43 ((l * 12 + f) * 12 + n) = stopV g l f n := (h.2.2.1 l hl).2 f hf n h1 h2
theorem HouR.fh {g : Row} {m : Mem} (h : HouR g m 33) {p : Nat} (hp : (p : Int) < g 3) {f : Nat} (hf : (f : Int) < g 1) : m 42 (p * 12 + f) = footV g p f (g (28 + p)).toNat := ((h.2.2.2 p hp).2 f hf).2.2
theorem HouR.ho {g : Row} {m : Mem} (h : HouR g m 33) {p : Nat} (hp : (p : Int) < g 3) : m 36 p = g (28 + p) ∧ m 37 p = g (36 + p) ∧ m 38 p = g (44 + p) ∧ m 39 p = g (52 + p) := (h.2.2.2 p hp).1
theorem HouR.n0 {g : Row} {m : Mem} (h : HouR g m 33) : m 33 0 = g 1 ∧ m 33 1 = g 0 ∧ m 33 2 = g 2 ∧ m 33 3 = g 3 := h.1
theorem tgo_of {sp : Int} {st : Nat → Nat → Int} {h s f : Nat} {tt c : Int} {u : Bool} (hn : nxt s h u = some f) : tgo sp st (h, tt, s, u, c) = some (f, w32 (w32 (tt + w32 (sp * (dst h f : Int))) + st f (pop s)), dif s (2 ^ f), decide (h < f), w32 (tt + w32 (sp * (dst h f : Int)))) := by
  unfold tgo
  dsimp only
  rw [hn]
theorem tgo_no {sp : Int} {st : Nat → Nat → Int} {h s : Nat} {tt c : Int} {u : Bool} (hn : nxt s h u = none) : tgo sp st (h, tt, s, u, c) = none := by
  unfold tgo
  dsimp only
  rw [hn]
set_option maxRecDepth 4000 in
theorem p_X10_rideOn {Γ : Gm} {d : Nat} {m : Mem} (g : Row) (c l h : Nat) (tt : Int) (s : Nat) (u : Bool) (cm : Int) (hc : c ∈ triC) (hI : HI g) (hl : (l : Int) < g 2) (hH : HouR g m 33) (hT : CT m c l (h, tt, s, u, cm)) (hok : tOk2 (g 1).toNat (h, tt, s, u, cm)) : Ci Γ (d + 2) MX10_rideOn [rv c] m (fun r m' => (tgo (g (22 + l)) (stopV g l) (h, tt, s, u, cm) = none → r = 0 ∧ m' = m) ∧ ∀ t', tgo (g (22 + l)) (stopV g l) (h, tt, s, u, cm) = some t' → r = 1 ∧ CTc m' c l t' ∧ Fr (sA c) m m') := by
  refine Ci.of moX10_rideOn rfl rfl (fun hA hM => ?_)
  show Em Γ (d + 2) MX10_rideOn _ 0 [rv c, uv] [] m
  obtain ⟨tcK, tcr, tcN⟩ := triK c hc
  obtain ⟨t1, t2, t3, t4, t5⟩ := hT
  dsimp only at t2 t3 t4 t5
  obtain ⟨⟨hF12, hh, hsF⟩, hown⟩ := hok
  dsimp only at hF12 hh hsF hown
  have hs12 := lt4096 hsF hF12
  have hL3 := hI.2.1
  refine Ev.aload_n (q := 1) dX10_rideOn_0 rfl rfl ?_
  refine cV0i (q := 4) (d' := d + 1) dX10_rideOn_1 mlX10_54 moX10_nextStop mvX10_nextStop tcK rfl rfl rfl (Nat.le_refl _) rfl rfl rfl (p_X10_nextStop c s h u hc t2 t4 t5 hs12 (by omega)) (fun r1 m1 e1 => ?_)
  obtain ⟨rfl, e1⟩ := e1
  obtain rfl := e1.symm
  refine istore_n_1 (q := 5) dX10_rideOn_4 rfl rfl rfl ?_
  refine Ev.iload_n (q := 6) dX10_rideOn_5 rfl rfl ?_
  refine Ev.iconst (q := 7) dX10_rideOn_6 ki_m1 rfl ?_
  refine Ev.icmp_ne (tgt := 12) (q := 10) dX10_rideOn_7 (by decide) rfl (fun h2 => ?_) (fun h2 => ?_)
  · skip
    obtain ⟨f, hn⟩ : ∃ f, nxt s h u = some f := by
      cases hn : nxt s h u with
      | none => rw [hn] at h2; exact absurd rfl h2
      | some f => exact ⟨f, rfl⟩
    rw [hn]
    show Em Γ (d + 2) MX10_rideOn _ 12 [rv c, iv (f : Int)] [] m
    obtain ⟨hb, hne⟩ := nxt_some hn
    have hfF := bit_lt hsF hb
    have hp1 := pop_bit hb (by omega)
    have hp2 := pop_lt hown (by omega)
    have eSp := hH.sp hl
    have eSt := hH.st hl (f := f) (n := pop s) (by omega) hp1 (by omega)
    refine Ev.aload_n (q := 13) dX10_rideOn_12 rfl rfl ?_
    refine Ev.aload_n (q := 14) dX10_rideOn_13 rfl rfl ?_
    refine gI (q := 17) dX10_rideOn_14 gfX10_18 tcK rfl rfl ?_
    rw [t3]
    refine Ev.aload_n (q := 18) dX10_rideOn_17 rfl rfl ?_
    refine gR (q := 21) dX10_rideOn_18 gfX10_30 tcK tcr rfl rfl ?_
    refine gR (q := 24) dX10_rideOn_21 gfX10_57 k33 r33_5 rfl rfl ?_
    refine Ev.aload_n (q := 25) dX10_rideOn_24 rfl rfl ?_
    refine gI (q := 28) dX10_rideOn_25 gfX10_9 tcK rfl rfl ?_
    rw [t1]
    refine aI (q := 29) (k := l) dX10_rideOn_28 k35 (by first | rfl | omega | (simp (disch := omega) only [w32_of]; omega)) (by omega) rfl ?_
    rw [eSp]
    refine Ev.iload_n (q := 30) dX10_rideOn_29 rfl rfl ?_
    refine Ev.aload_n (q := 31) dX10_rideOn_30 rfl rfl ?_
    refine gI (q := 34) dX10_rideOn_31 gfX10_15 tcK rfl rfl ?_
    rw [t2]
    refine Ev.isub (q := 35) dX10_rideOn_34 rfl ?_
    refine cS1i (q := 38) (d' := d + 1) dX10_rideOn_35 mlX10_62 moJ9_abs_0f7a4 msJ9_abs_0f7a4 rfl rfl (Nat.le_refl _) rfl rfl rfl (p_J9_abs_0f7a4 _) (fun r3 m3 e3 => ?_)
    obtain ⟨rfl, e3⟩ := e3
    obtain rfl := e3.symm
    rw [dabs (by omega) (by omega)]
    refine Ev.imul (q := 39) dX10_rideOn_38 rfl ?_
    refine Ev.iadd (q := 40) dX10_rideOn_39 rfl ?_
    refine pI (q := 43) dX10_rideOn_40 gfX10_27 tcK rfl rfl ?_
    refine Ev.aload_n (q := 44) dX10_rideOn_43 rfl rfl ?_
    refine Ev.aload_n (q := 45) dX10_rideOn_44 rfl rfl ?_
    refine gI (q := 48) dX10_rideOn_45 gfX10_27 tcK rfl rfl ?_
    rw [up_eq]
    refine Ev.aload_n (q := 49) dX10_rideOn_48 rfl rfl ?_
    refine gR (q := 52) dX10_rideOn_49 gfX10_30 tcK tcr rfl rfl ?_
    refine Ev.aload_n (q := 53) dX10_rideOn_52 rfl rfl ?_
    refine gI (q := 56) dX10_rideOn_53 gfX10_9 tcK rfl rfl ?_
    rw [up_k _ _ (by decide), t1]
    refine Ev.iload_n (q := 57) dX10_rideOn_56 rfl rfl ?_
    refine Ev.aload_n (q := 58) dX10_rideOn_57 rfl rfl ?_
    refine gI (q := 61) dX10_rideOn_58 gfX10_21 tcK rfl rfl ?_
    rw [up_k _ _ (by decide), t4]
    refine cS1i (q := 64) (d' := d + 1) dX10_rideOn_61 mlX10_68 moJ6_bitCount_0f7a4 msJ6_bitCount_0f7a4 rfl rfl (Nat.le_refl _) rfl rfl rfl (p_J6_bitCount_0f7a4 s hs12) (fun r4 m4 e4 => ?_)
    obtain ⟨rfl, e4⟩ := e4
    obtain rfl := e4.symm
    refine cV3i (q := 67) (d' := d + 1) dX10_rideOn_64 mlX10_73 moX1_lasts mvX1_lasts k33 rfl rfl rfl (Nat.le_refl _) rfl rfl rfl (p_X1_lasts 33 l f (pop s) (by decide) (by omega) (by omega) (by omega)) (fun r5 m5 e5 => ?_)
    obtain ⟨rfl, e5⟩ := e5
    obtain rfl := e5.symm
    rw [show (33 : Nat) + 10 = 43 from rfl, up_o _ _ (by omega), eSt]
    refine Ev.iadd (q := 68) dX10_rideOn_67 rfl ?_
    refine pI (q := 71) dX10_rideOn_68 gfX10_18 tcK rfl rfl ?_
    refine Ev.aload_n (q := 72) dX10_rideOn_71 rfl rfl ?_
    refine Ev.iload_n (q := 73) dX10_rideOn_72 rfl rfl ?_
    refine Ev.aload_n (q := 74) dX10_rideOn_73 rfl rfl ?_
    refine gI (q := 77) dX10_rideOn_74 gfX10_15 tcK rfl rfl ?_
    rw [up_k _ _ (by decide), up_k _ _ (by decide), t2]
    refine Ev.icmp_le (tgt := 84) (q := 80) dX10_rideOn_77 (by decide) rfl (fun h6 => ?_) (fun h6 => ?_)
    · skip
      refine Ev.iconst (q := 85) dX10_rideOn_84 ki_0 rfl ?_
      refine pI (q := 88) dX10_rideOn_85 gfX10_24 tcK rfl rfl ?_
      refine Ev.aload_n (q := 89) dX10_rideOn_88 rfl rfl ?_
      refine Ev.dup (q := 90) dX10_rideOn_89 (fun z => by cases z) rfl ?_
      refine gI (q := 93) dX10_rideOn_90 gfX10_21 tcK rfl rfl ?_
      rw [up_k _ _ (by decide), up_k _ _ (by decide), up_k _ _ (by decide), t4]
      refine Ev.iconst (q := 94) dX10_rideOn_93 ki_1 rfl ?_
      refine Ev.iload_n (q := 95) dX10_rideOn_94 rfl rfl ?_
      refine Ev.ishl (q := 96) dX10_rideOn_95 rfl ?_
      refine Ev.ixor (q := 97) dX10_rideOn_96 rfl ?_
      rw [xor_lit hs12 (by omega) hb]
      refine pI (q := 100) dX10_rideOn_97 gfX10_21 tcK rfl rfl ?_
      refine Ev.aload_n (q := 101) dX10_rideOn_100 rfl rfl ?_
      refine Ev.iload_n (q := 102) dX10_rideOn_101 rfl rfl ?_
      refine pI (q := 105) dX10_rideOn_102 gfX10_15 tcK rfl rfl ?_
      refine Ev.iconst (q := 106) dX10_rideOn_105 ki_1 rfl ?_
      refine rZ dX10_rideOn_106 rfl (by decide) ?_
      refine ⟨fun z => (by rw [tgo_of hn] at z; cases z), fun t' ht' => ?_⟩
      rw [tgo_of hn] at ht'
      cases ht'
      have s1 : ∀ k, sA c c k = true := fun k => by simp [sA]
      refine ⟨rfl, ⟨⟨?_, ?_, ?_, ?_, ?_⟩, ?_⟩, (((((Fr.rf _ _).up (s1 _)).up (s1 _)).up (s1 _)).up (s1 _)).up (s1 _)⟩
      · simp (disch := decide) only [up_k, up_eq]
        exact t1
      · simp (disch := decide) only [up_k, up_eq]
      · simp (disch := decide) only [up_k, up_eq]
      · simp (disch := decide) only [up_k, up_eq]
      · simp (disch := decide) only [up_k, up_eq]
        rw [if_neg (by simp; omega)]
      · simp (disch := decide) only [up_k, up_eq]
    · skip
      refine Ev.iconst (q := 81) dX10_rideOn_80 ki_1 rfl ?_
      refine Ev.goto (q := 85) dX10_rideOn_81 (by decide) ?_
      refine pI (q := 88) dX10_rideOn_85 gfX10_24 tcK rfl rfl ?_
      refine Ev.aload_n (q := 89) dX10_rideOn_88 rfl rfl ?_
      refine Ev.dup (q := 90) dX10_rideOn_89 (fun z => by cases z) rfl ?_
      refine gI (q := 93) dX10_rideOn_90 gfX10_21 tcK rfl rfl ?_
      rw [up_k _ _ (by decide), up_k _ _ (by decide), up_k _ _ (by decide), t4]
      refine Ev.iconst (q := 94) dX10_rideOn_93 ki_1 rfl ?_
      refine Ev.iload_n (q := 95) dX10_rideOn_94 rfl rfl ?_
      refine Ev.ishl (q := 96) dX10_rideOn_95 rfl ?_
      refine Ev.ixor (q := 97) dX10_rideOn_96 rfl ?_
      rw [xor_lit hs12 (by omega) hb]
      refine pI (q := 100) dX10_rideOn_97 gfX10_21 tcK rfl rfl ?_
      refine Ev.aload_n (q := 101) dX10_rideOn_100 rfl rfl ?_
      refine Ev.iload_n (q := 102) dX10_rideOn_101 rfl rfl ?_
      refine pI (q := 105) dX10_rideOn_102 gfX10_15 tcK rfl rfl ?_
      refine Ev.iconst (q := 106) dX10_rideOn_105 ki_1 rfl ?_
      refine rZ dX10_rideOn_106 rfl (by decide) ?_
      refine ⟨fun z => (by rw [tgo_of hn] at z; cases z), fun t' ht' => ?_⟩
      rw [tgo_of hn] at ht'
      cases ht'
      have s1 : ∀ k, sA c c k = true := fun k => by simp [sA]
      refine ⟨rfl, ⟨⟨?_, ?_, ?_, ?_, ?_⟩, ?_⟩, (((((Fr.rf _ _).up (s1 _)).up (s1 _)).up (s1 _)).up (s1 _)).up (s1 _)⟩
      · simp (disch := decide) only [up_k, up_eq]
        exact t1
      · simp (disch := decide) only [up_k, up_eq]
      · simp (disch := decide) only [up_k, up_eq]
      · simp (disch := decide) only [up_k, up_eq]
      · simp (disch := decide) only [up_k, up_eq]
        rw [if_pos (by simp; omega)]
      · simp (disch := decide) only [up_k, up_eq]
  · skip
    have hn : nxt s h u = none := by
      cases hn : nxt s h u with
      | none => rfl
      | some f => rw [hn] at h2; exact absurd h2 (show ¬ (f : Int) = -1 by omega)
    refine Ev.iconst (q := 11) dX10_rideOn_10 ki_0 rfl ?_
    refine rZ dX10_rideOn_11 rfl (by decide) ?_
    refine ⟨fun _ => ⟨rfl, rfl⟩, fun t' ht' => ?_⟩
    rw [tgo_no hn] at ht'
    cases ht'
def cto (sp : Int) (st : Nat → Nat → Int) (f : Nat) : Nat → Tr → Option Tr
  | 0, _ => none
  | n + 1, t => match tgo sp st t with
    | none => none
    | some t' => if t'.1 = f then some t' else cto sp st f n t'
theorem cto_no {sp : Int} {st : Nat → Nat → Int} {F f : Nat} : ∀ (n : Nat) (t : Tr), tOk F t → t.2.2.1.testBit f = false → cto sp st f n t = none := by
  intro n
  induction n with
  | zero => intro t _ _; rfl
  | succ n ih =>
    intro t hok hb
    unfold cto
    cases hg : tgo sp st t with
    | none => rfl
    | some t' =>
      obtain ⟨h1, h2, h3⟩ := tgo_ok hok hg
      dsimp only
      rw [if_neg (fun z => by rw [z, hb] at h2; cases h2)]
      exact ih t' h1 (by rw [h3, dif_bit, hb]; rfl)
theorem cto_rto {sp : Int} {st : Nat → Nat → Int} {F f : Nat} : ∀ (n : Nat) (t : Tr), tOk2 F t → pop t.2.2.1 ≤ n → cto sp st f n t = rto sp st f (n + 1) t := by
  intro n
  induction n with
  | zero =>
    intro t hok hp
    unfold cto rto
    cases hg : tgo sp st t with
    | none => split <;> rfl
    | some t' => have := tgo_pop hok hg; omega
  | succ n ih =>
    intro t hok hp
    by_cases hb : t.2.2.1.testBit f = true
    · unfold cto rto
      rw [if_pos hb]
      cases hg : tgo sp st t with
      | none => rfl
      | some t' =>
        dsimp only
        have := tgo_pop hok hg
        rw [ih t' (tgo_ok2 hok hg) (by omega)]
    · have hb' : t.2.2.1.testBit f = false := by cases q : t.2.2.1.testBit f <;> simp [q] at hb ⊢
      rw [cto_no _ t hok.1 hb']
      unfold rto
      rw [if_neg hb]
/-- more rides than lights find no more -/
theorem rto_more {sp : Int} {st : Nat → Nat → Int} {F f : Nat} {t : Tr} (hok : tOk2 F t) : cto sp st f 12 t = rto sp st f 13 t := cto_rto 12 t hok (pop_le _)
theorem Fr.sAtr {b : Nat} {m m' m'' : Mem} (h : Fr (sA b) m m') (h' : Fr (sA b) m' m'') : Fr (sA b) m m'' := h.tr h' 
set_option maxRecDepth 4000 in
theorem l_comesTo {Γ : Gm} {d : Nat} {m0 : Mem} (g : Row) (c l f : Nat) (t0 : Tr) (hc : c ∈ triC) (hI : HI g) (hl : (l : Int) < g 2) (hH : HouR g m0 33) : ∀ (n k : Nat) (m : Mem) (h : Nat) (tt : Int) (s : Nat) (u : Bool) (cm : Int), k + n = 12 → CT m c l (h, tt, s, u, cm) → tOk2 (g 1).toNat (h, tt, s, u, cm) → Fr (sA c) m0 m → cto (g (22 + l)) (stopV g l) f 12 t0 = cto (g (22 + l)) (stopV g l) f n (h, tt, s, u, cm) → Em Γ (d + 3) MX10_comesTo (fun r m' => r = (match cto (g (22 + l)) (stopV g l) f 12 t0 with | some t' => t'.2.2.2.2 | none => -1) ∧ (∀ t', cto (g (22 + l)) (stopV g l) f 12 t0 = some t' → CTc m' c l t') ∧ Fr (sA c) m0 m') 2 [rv c, iv f, iv k] [] m := by
  obtain ⟨tcK, tcr, tcN⟩ := triK c hc
  intro n
  induction n with
  | zero =>
    intro k m h tt s u cm hk hT hok hF hq
    refine Ev.iload_n (q := 3) dX10_comesTo_2 rfl rfl ?_
    refine Ev.bipush (q := 5) dX10_comesTo_3 kb_12 rfl ?_
    refine Ev.icmp_ge (tgt := 34) (q := 8) dX10_comesTo_5 (by decide) rfl (fun h1 => ?_) (fun h1 => ?_)
    · skip
      refine Ev.iconst (q := 35) dX10_comesTo_34 ki_m1 rfl ?_
      refine rI dX10_comesTo_35 rfl ?_
      have hq0 : cto (g (22 + l)) (stopV g l) f 12 t0 = none := hq
      rw [hq0]
      exact ⟨rfl, fun t9 h9 => (by cases h9), hF⟩
    · skip
      omega
  | succ n ih =>
    intro k m h tt s u cm hk hT hok hF hq
    refine Ev.iload_n (q := 3) dX10_comesTo_2 rfl rfl ?_
    refine Ev.bipush (q := 5) dX10_comesTo_3 kb_12 rfl ?_
    refine Ev.icmp_ge (tgt := 34) (q := 8) dX10_comesTo_5 (by decide) rfl (fun h1 => ?_) (fun h1 => ?_)
    · skip
      omega
    · skip
      refine Ev.aload_n (q := 9) dX10_comesTo_8 rfl rfl ?_
      refine cV0i (q := 12) (d' := d + 2) dX10_comesTo_9 mlX10_77 moX10_rideOn mvX10_rideOn tcK rfl rfl rfl (Nat.le_refl _) rfl rfl rfl (p_X10_rideOn g c l h tt s u cm hc hI hl (hH.keep (fun a h1 h2 => hF.rowA (by omega))) hT hok) (fun r2 m2 e2 => ?_)
      obtain ⟨eN, eS⟩ := e2
      refine Ev.if_eq (tgt := 34) (q := 15) dX10_comesTo_12 (by decide) rfl (fun h3 => ?_) (fun h3 => ?_)
      · skip
        have hg : tgo (g (22 + l)) (stopV g l) (h, tt, s, u, cm) = none := by
          cases hg : tgo (g (22 + l)) (stopV g l) (h, tt, s, u, cm) with
          | none => rfl
          | some t' => exact absurd h3 (by rw [(eS t' hg).1]; decide)
        obtain ⟨-, rfl⟩ := eN hg
        have hct : cto (g (22 + l)) (stopV g l) f (n + 1) (h, tt, s, u, cm) = none := by unfold cto; rw [hg]
        rw [hct] at hq
        refine Ev.iconst (q := 35) dX10_comesTo_34 ki_m1 rfl ?_
        refine rI dX10_comesTo_35 rfl ?_
        rw [hq]
        exact ⟨rfl, fun t9 h9 => (by cases h9), hF⟩
      · skip
        obtain ⟨t', hg⟩ : ∃ t', tgo (g (22 + l)) (stopV g l) (h, tt, s, u, cm) = some t' := by
          cases hg : tgo (g (22 + l)) (stopV g l) (h, tt, s, u, cm) with
          | none => exact absurd (eN hg).1 h3
          | some t' => exact ⟨t', rfl⟩
        obtain ⟨-, hT', hF'⟩ := eS t' hg
        have hok' := tgo_ok2 hok hg
        have hct : cto (g (22 + l)) (stopV g l) f (n + 1) (h, tt, s, u, cm) = if t'.1 = f then some t' else cto (g (22 + l)) (stopV g l) f n t' := by conv => lhs; unfold cto; rw [hg]
        obtain ⟨h', tt', s', u', cm'⟩ := t'
        rw [hct] at hq
        refine Ev.aload_n (q := 16) dX10_comesTo_15 rfl rfl ?_
        refine gI (q := 19) dX10_comesTo_16 gfX10_15 tcK rfl rfl ?_
        refine Ev.iload_n (q := 20) dX10_comesTo_19 rfl rfl ?_
        rw [hT'.1.2.1]
        refine Ev.icmp_ne (tgt := 28) (q := 23) dX10_comesTo_20 (by decide) rfl (fun h4 => ?_) (fun h4 => ?_)
        · skip
          dsimp only at hq h4
          rw [if_neg (by omega)] at hq
          refine iinc_2 (q := 31) dX10_comesTo_28 rfl rfl rfl ?_
          refine Ev.goto (q := 2) dX10_comesTo_31 (by decide) ?_
          rw [w32_of (by omega) (by omega)]
          exact ih (k + 1) _ h' tt' s' u' cm' (by omega) hT'.1 hok' (hF.sAtr hF') hq
        · skip
          dsimp only at hq h4
          rw [if_pos (by omega)] at hq
          refine Ev.aload_n (q := 24) dX10_comesTo_23 rfl rfl ?_
          refine gI (q := 27) dX10_comesTo_24 gfX10_27 tcK rfl rfl ?_
          refine rI dX10_comesTo_27 rfl ?_
          rw [hq]
          exact ⟨hT'.2, fun t9 h9 => (by cases h9; exact hT'), hF.sAtr hF'⟩
set_option maxRecDepth 4000 in
theorem p_X10_comesTo {Γ : Gm} {d : Nat} {m : Mem} (g : Row) (c l f h : Nat) (tt : Int) (s : Nat) (u : Bool) (cm : Int) (hc : c ∈ triC) (hI : HI g) (hl : (l : Int) < g 2) (hH : HouR g m 33) (hT : CT m c l (h, tt, s, u, cm)) (hok : tOk2 (g 1).toNat (h, tt, s, u, cm)) : Ci Γ (d + 3) MX10_comesTo [rv c, iv f] m (fun r m' => r = (match rto (g (22 + l)) (stopV g l) f 13 (h, tt, s, u, cm) with | some t' => t'.2.2.2.2 | none => -1) ∧ (∀ t', rto (g (22 + l)) (stopV g l) f 13 (h, tt, s, u, cm) = some t' → CTc m' c l t') ∧ Fr (sA c) m m') := by
  refine Ci.of moX10_comesTo rfl rfl (fun hA hM => ?_)
  show Em Γ (d + 3) MX10_comesTo _ 0 [rv c, iv f, uv] [] m
  obtain ⟨tcK, tcr, tcN⟩ := triK c hc
  rw [← rto_more hok]
  refine Ev.iconst (q := 1) dX10_comesTo_0 ki_0 rfl ?_
  refine istore_n_2 (q := 2) dX10_comesTo_1 rfl rfl rfl ?_
  exact l_comesTo g c l f (h, tt, s, u, cm) hc hI hl hH 12 0 m h tt s u cm (by omega) hT hok (Fr.rf _ _) rfl
theorem rOut_none {sp : Int} {st : Nat → Nat → Int} {t : Tr} (h : tgo sp st t = none) (n : Nat) : rOut sp st n t = t.2.1 := by
  cases n with
  | zero => rfl
  | succ n => unfold rOut; rw [h]
theorem rOut_step {sp : Int} {st : Nat → Nat → Int} {t t' : Tr} (h : tgo sp st t = some t') (n : Nat) : rOut sp st (n + 1) t = rOut sp st n t' := by
  conv => lhs; unfold rOut; rw [h]
theorem rOut_13 {sp : Int} {st : Nat → Nat → Int} {F : Nat} : ∀ (n : Nat) (t : Tr), tOk2 F t → pop t.2.2.1 ≤ n → rOut sp st n t = rOut sp st (n + 1) t := by
  intro n
  induction n with
  | zero =>
    intro t hok hp
    cases hg : tgo sp st t with
    | none => rw [rOut_none hg, rOut_none hg]
    | some t' => have := tgo_pop hok hg; omega
  | succ n ih =>
    intro t hok hp
    cases hg : tgo sp st t with
    | none => rw [rOut_none hg, rOut_none hg]
    | some t' => have := tgo_pop hok hg; rw [rOut_step hg, rOut_step hg, ih t' (tgo_ok2 hok hg) (by omega)]
set_option maxRecDepth 4000 in
theorem l_rideOut {Γ : Gm} {d : Nat} {m0 : Mem} (g : Row) (c l : Nat) (R0 : Int) (hc : c ∈ triC) (hI : HI g) (hl : (l : Int) < g 2) (hH : HouR g m0 33) : ∀ (n k : Nat) (m : Mem) (h : Nat) (tt : Int) (s : Nat) (u : Bool) (cm : Int), k + n = 12 → CT m c l (h, tt, s, u, cm) → tOk2 (g 1).toNat (h, tt, s, u, cm) → Fr (sA c) m0 m → R0 = rOut (g (22 + l)) (stopV g l) n (h, tt, s, u, cm) → Em Γ (d + 3) MX10_rideOut (fun r m' => m' c 3 = R0 ∧ Fr (sA c) m0 m') 2 [rv c, iv k] [] m := by
  obtain ⟨tcK, tcr, tcN⟩ := triK c hc
  intro n
  induction n with
  | zero =>
    intro k m h tt s u cm hk hT hok hF hq
    refine Ev.iload_n (q := 3) dX10_rideOut_2 rfl rfl ?_
    refine Ev.bipush (q := 5) dX10_rideOut_3 kb_12 rfl ?_
    refine Ev.icmp_ge (tgt := 19) (q := 8) dX10_rideOut_5 (by decide) rfl (fun h1 => ?_) (fun h1 => ?_)
    · skip
      refine rV dX10_rideOut_19 rfl ?_
      exact ⟨hT.2.2.1.trans hq.symm, hF⟩
    · skip
      omega
  | succ n ih =>
    intro k m h tt s u cm hk hT hok hF hq
    refine Ev.iload_n (q := 3) dX10_rideOut_2 rfl rfl ?_
    refine Ev.bipush (q := 5) dX10_rideOut_3 kb_12 rfl ?_
    refine Ev.icmp_ge (tgt := 19) (q := 8) dX10_rideOut_5 (by decide) rfl (fun h1 => ?_) (fun h1 => ?_)
    · skip
      omega
    · skip
      refine Ev.aload_n (q := 9) dX10_rideOut_8 rfl rfl ?_
      refine cV0i (q := 12) (d' := d + 2) dX10_rideOut_9 mlX10_77 moX10_rideOn mvX10_rideOn tcK rfl rfl rfl (Nat.le_refl _) rfl rfl rfl (p_X10_rideOn g c l h tt s u cm hc hI hl (hH.keep (fun a h1 h2 => hF.rowA (by omega))) hT hok) (fun r2 m2 e2 => ?_)
      obtain ⟨eN, eS⟩ := e2
      refine Ev.pop (q := 13) dX10_rideOut_12 (fun z => by cases z) rfl ?_
      refine iinc_1 (q := 16) dX10_rideOut_13 rfl rfl rfl ?_
      refine Ev.goto (q := 2) dX10_rideOut_16 (by decide) ?_
      rw [w32_of (by omega) (by omega)]
      cases hg : tgo (g (22 + l)) (stopV g l) (h, tt, s, u, cm) with
      | none =>
        obtain ⟨-, rfl⟩ := eN hg
        exact ih (k + 1) _ h tt s u cm (by omega) hT hok hF (by rw [hq, rOut_none hg, rOut_none hg])
      | some t' =>
        obtain ⟨-, hT', hF'⟩ := eS t' hg
        exact ih (k + 1) _ t'.1 t'.2.1 t'.2.2.1 t'.2.2.2.1 t'.2.2.2.2 (by omega) hT'.1 (tgo_ok2 hok hg) (hF.sAtr hF') (by rw [hq, rOut_step hg])
set_option maxRecDepth 4000 in
theorem p_X10_rideOut {Γ : Gm} {d : Nat} {m : Mem} (g : Row) (c l h : Nat) (tt : Int) (s : Nat) (u : Bool) (cm : Int) (hc : c ∈ triC) (hI : HI g) (hl : (l : Int) < g 2) (hH : HouR g m 33) (hT : CT m c l (h, tt, s, u, cm)) (hok : tOk2 (g 1).toNat (h, tt, s, u, cm)) : Ci Γ (d + 3) MX10_rideOut [rv c] m (fun r m' => m' c 3 = rOut (g (22 + l)) (stopV g l) 13 (h, tt, s, u, cm) ∧ Fr (sA c) m m') := by
  refine Ci.of moX10_rideOut rfl rfl (fun hA hM => ?_)
  show Em Γ (d + 3) MX10_rideOut _ 0 [rv c, uv] [] m
  rw [← rOut_13 12 _ hok (pop_le _)]
  refine Ev.iconst (q := 1) dX10_rideOut_0 ki_0 rfl ?_
  refine istore_n_1 (q := 2) dX10_rideOut_1 rfl rfl rfl ?_
  exact l_rideOut g c l _ hc hI hl hH 12 0 m h tt s u cm (by omega) hT hok (Fr.rf _ _) rfl
