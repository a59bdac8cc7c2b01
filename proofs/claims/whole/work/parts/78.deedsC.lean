/-! ===== the class: deeds, and what can be undone ===== -/
def sDd (pa a k : Nat) : Bool := decide ((44 < a ∧ a ≤ 51) ∨ (77 + 8 * pa < a ∧ a ≤ 77 + 8 * pa + 7) ∨ ((52 ≤ a ∧ a ≤ 59) ∨ (65 ≤ a ∧ a ≤ 76)) ∨ (a = 0 ∧ (k = 7 ∨ k = 8)))
theorem sDd_f {pa a k : Nat} (h : ¬ ((44 < a ∧ a ≤ 51) ∨ (77 + 8 * pa < a ∧ a ≤ 77 + 8 * pa + 7) ∨ ((52 ≤ a ∧ a ≤ 59) ∨ (65 ≤ a ∧ a ≤ 76)) ∨ (a = 0 ∧ (k = 7 ∨ k = 8)))) : sDd pa a k = false := decide_eq_false h
theorem sDd_n {pa a k : Nat} (h : sDd pa a k = false) : ¬ ((44 < a ∧ a ≤ 51) ∨ (77 + 8 * pa < a ∧ a ≤ 77 + 8 * pa + 7) ∨ ((52 ≤ a ∧ a ≤ 59) ∨ (65 ≤ a ∧ a ≤ 76)) ∨ (a = 0 ∧ (k = 7 ∨ k = 8))) := of_decide_eq_false h
theorem sDd_7 (pa : Nat) : sDd pa 0 7 = true := decide_eq_true (by omega)
theorem sDd_8 (pa : Nat) : sDd pa 0 8 = true := decide_eq_true (by omega)
theorem Fr.dd1 {pa : Nat} {m m' : Mem} (h : Fr (sN (77 + 8 * pa)) m m') : Fr (sDd pa) m m' := h.mono (fun a k q => sN_f (by have := sDd_n q; omega))
theorem Fr.dd2 {pa : Nat} {m m' : Mem} (h : Fr (sDe 44) m m') : Fr (sDd pa) m m' := h.mono (fun a k q => sDe_f (by have := sDd_n q; omega) (by have := sDd_n q; omega))
theorem Fr.dd3 {pa : Nat} {m m' : Mem} (h : Fr (sDf 44) m m') : Fr (sDd pa) m m' := h.mono (fun a k q => sDf_f (by have := sDd_n q; omega) (by have := sDd_n q; omega) (by have := sDd_n q; omega))
theorem Fr.ddC {pa : Nat} {m m' : Mem} (h : Fr sC m m') : Fr (sDd pa) m m' := h.mono (fun a k q => sC_f (by have := sDd_n q; omega))
theorem pastK : ∀ i, i < 11 → rf 60 i = 77 + 8 * i ∧ (77 + 8 * i) ∈ nowC := by decide +kernel
def DOk (g g' : Row) (pa n : Nat) (m : Mem) : Prop := NowR g' m 44 ∧ NowR g m (77 + 8 * pa) ∧ m 0 7 = (((pa + 1) % 11 : Nat) : Int) ∧ m 0 8 = ((if n < 10 then n + 1 else 10 : Nat) : Int)
def DNo (g : Row) (pa n : Nat) (m : Mem) : Prop := NowR g m 44 ∧ m 0 7 = (pa : Int) ∧ m 0 8 = (n : Int)
theorem whyP_c0 {g : Row} {l f : Int} {o : Bool} (h : whyP g l f o = 0) : (0 ≤ l ∧ l < g 2) ∧ (0 ≤ f ∧ f < g 1) := Classical.byContradiction fun z => by rw [whyP_1 z] at h; cases h
theorem whyR_c0 {g : Row} {l : Int} (h : whyR g l = 0) : 0 ≤ l ∧ l < g 2 := Classical.byContradiction fun z => by rw [whyR_1 z] at h; cases h
theorem whyO_c0 {g : Row} {l : Int} (h : whyO g l = 0) : 0 ≤ l ∧ l < g 3 := Classical.byContradiction fun z => by rw [whyO_1 z] at h; cases h
theorem whyI_c0 {g : Row} {l f : Int} (h : whyI g l f = 0) : (0 ≤ l ∧ l < g 3) ∧ (0 ≤ f ∧ f < g 2) := Classical.byContradiction fun z => by rw [whyI_1 z] at h; cases h
theorem whyW_c0 {g : Row} {l f : Int} (h : whyW g l f = 0) : (0 ≤ l ∧ l < g 3) ∧ (0 ≤ f ∧ f < g 1) := Classical.byContradiction fun z => by rw [whyW_1 z] at h; cases h
set_option maxRecDepth 4000 in
theorem p_X11_keepBefore {Γ : Gm} {d : Nat} {m : Mem} (pa : Nat) (hpa : pa < 11) (h7 : m 0 7 = pa) : Ci Γ (d + 2) MX11_keepBefore [rv 0] m (fun r m' => (∀ i, 1 ≤ i → i ≤ 7 → ∀ k, k < nlen i → m' (77 + 8 * pa + i) k = m (44 + i) k) ∧ Fr (sN (77 + 8 * pa)) m m') := by
  refine Ci.of moX11_keepBefore rfl rfl (fun hA hM => ?_)
  show Em Γ (d + 2) MX11_keepBefore _ 0 [rv 0] [] m
  obtain ⟨pwK, ⟨pwr0, pwr1, pwr2, pwr3, pwr4, pwr5, pwr6⟩, pwK0, pwK1, pwK2, pwK3, pwK4, pwK5, pwK6, pwN⟩ := nowK (77 + 8 * pa) (pastK pa hpa).2
  refine Ev.aload_n (q := 1) dX11_keepBefore_0 rfl rfl ?_
  refine gR (q := 4) dX11_keepBefore_1 gfX11_41 k0 r0_6 rfl rfl ?_
  refine Ev.aload_n (q := 5) dX11_keepBefore_4 rfl rfl ?_
  refine gI (q := 8) dX11_keepBefore_5 gfX11_45 k0 rfl rfl ?_
  rw [h7]
  refine aR (q := 9) (k := pa) dX11_keepBefore_8 k60 (by decide) (by first | rfl | omega | (simp (disch := omega) only [w32_of]; omega)) (by omega) (pastK pa hpa).1 rfl ?_
  refine Ev.aload_n (q := 10) dX11_keepBefore_9 rfl rfl ?_
  refine gR (q := 13) dX11_keepBefore_10 gfX11_34 k0 r0_4 rfl rfl ?_
  refine cV1v (q := 16) (d' := d + 1) dX11_keepBefore_13 mlX11_126 moX4_copyFrom mvX4_copyFrom pwK rfl rfl rfl (Nat.le_refl _) rfl rfl rfl (p_X4_copyFrom (77 + 8 * pa) 44 (pastK pa hpa).2 (by decide) (by omega)) (fun r1 m1 e1 => ?_)
  obtain ⟨k1, k2⟩ := e1
  refine rV dX11_keepBefore_16 rfl ?_
  exact ⟨k1, k2⟩
set_option maxRecDepth 4000 in
theorem p_X11_countBefore {Γ : Gm} {d : Nat} {m : Mem} (pa n : Nat) (hpa : pa < 11) (hn : n ≤ 10) (h7 : m 0 7 = pa) (h8 : m 0 8 = n) : Ci Γ (d + 1) MX11_countBefore [rv 0] m (fun r m' => m' = up (up m 0 7 (((pa + 1) % 11 : Nat) : Int)) 0 8 ((if n < 10 then n + 1 else 10 : Nat) : Int)) := by
  refine Ci.of moX11_countBefore rfl rfl (fun hA hM => ?_)
  show Em Γ (d + 1) MX11_countBefore _ 0 [rv 0] [] m
  refine Ev.aload_n (q := 1) dX11_countBefore_0 rfl rfl ?_
  refine Ev.aload_n (q := 2) dX11_countBefore_1 rfl rfl ?_
  refine gI (q := 5) dX11_countBefore_2 gfX11_45 k0 rfl rfl ?_
  rw [h7]
  refine Ev.iconst (q := 6) dX11_countBefore_5 ki_1 rfl ?_
  refine Ev.iadd (q := 7) dX11_countBefore_6 rfl ?_
  refine Ev.aload_n (q := 8) dX11_countBefore_7 rfl rfl ?_
  refine gR (q := 11) dX11_countBefore_8 gfX11_41 k0 r0_6 rfl rfl ?_
  refine aLen (q := 12) dX11_countBefore_11 k60 (by decide) (by decide) rfl ?_
  rw [w32_of (z := (pa : Int) + 1) (by omega) (by omega), show (pa : Int) + 1 = ((pa + 1 : Nat) : Int) by omega]
  refine Ev.irem (q := 13) dX11_countBefore_12 (by decide) rfl ?_
  rw [irem_n (by omega) (by decide) (by decide)]
  refine pI (q := 16) dX11_countBefore_13 gfX11_45 k0 rfl rfl ?_
  refine Ev.aload_n (q := 17) dX11_countBefore_16 rfl rfl ?_
  refine Ev.aload_n (q := 18) dX11_countBefore_17 rfl rfl ?_
  refine gI (q := 21) dX11_countBefore_18 gfX11_48 k0 rfl rfl ?_
  rw [up_k _ _ (by decide), h8]
  refine Ev.iconst (q := 22) dX11_countBefore_21 ki_1 rfl ?_
  refine Ev.iadd (q := 23) dX11_countBefore_22 rfl ?_
  refine Ev.bipush (q := 25) dX11_countBefore_23 kb_10 rfl ?_
  refine cS2i (q := 28) (d' := d + 0) dX11_countBefore_25 mlX11_395 moJ9_min_7cf53 msJ9_min_7cf53 rfl rfl (Nat.le_refl _) rfl rfl rfl (p_J9_min_7cf53 _ _) (fun r1 m1 e1 => ?_)
  obtain ⟨rfl, e1⟩ := e1
  obtain rfl := e1.symm
  rw [w32_of (z := (n : Int) + 1) (by omega) (by omega)]
  refine pI (q := 31) dX11_countBefore_28 gfX11_48 k0 rfl rfl ?_
  refine rV dX11_countBefore_31 rfl ?_
  have e9 : (if (n : Int) + 1 > 10 then (10 : Int) else (n : Int) + 1) = ((if n < 10 then n + 1 else 10 : Nat) : Int) := by
    by_cases q : n < 10
    · rw [if_neg (by omega), if_pos q]; omega
    · rw [if_pos (by omega), if_neg q]; rfl
  rw [e9]
set_option maxRecDepth 4000 in
theorem p_X11_press {Γ : Gm} {d : Nat} {m : Mem} (g : Row) (pa n : Nat) (l f : Int) (hI : HI g) (hH : HouR g m 33) (hN : NowR g m 44) (hpa : pa < 11) (hn : n ≤ 10) (h7 : m 0 7 = pa) (h8 : m 0 8 = n) : Ci Γ (d + 3) MX11_press [rv 0, iv l, iv f] m (fun r m' => (whyP g l f false = 0 → r = (pop (litV g l.toNat ||| 2 ^ f.toNat) : Int) ∧ DOk g (doD g 0 l.toNat f.toNat) pa n m') ∧ (¬ whyP g l f false = 0 → r = w32 (-10 - whyP g l f false) ∧ DNo g pa n m') ∧ Fr (sDd pa) m m') := by
  refine Ci.of moX11_press rfl rfl (fun hA hM => ?_)
  show Em Γ (d + 3) MX11_press _ 0 [rv 0, iv l, iv f, uv] [] m
  have hF12 := hI.1
  have hP8 := hI.2.2.1
  have hL3 := hI.2.1
  obtain ⟨n0, n1, n2, n3⟩ := hH.n0
  refine Ev.aload_n (q := 1) dX11_press_0 rfl rfl ?_
  refine cV0v (q := 4) (d' := d + 2) dX11_press_1 mlX11_204 moX11_keepBefore mvX11_keepBefore k0 rfl rfl rfl (Nat.le_refl _) rfl rfl rfl (p_X11_keepBefore pa hpa h7) (fun r1 m1 e1 => ?_)
  obtain ⟨M1, rfl⟩ : ∃ M1, M1 = m1 := ⟨_, rfl⟩
  obtain ⟨k1, f1⟩ := e1
  have hH1 : HouR g M1 33 := hH.keep (fun a h1 h2 => f1.row a (fun _ => sN_f (by omega)))
  have hN1 : NowR g M1 44 := hN.keep (fun a h1 h2 => f1.row a (fun _ => sN_f (by omega)))
  have hP1 : NowR g M1 (77 + 8 * pa) := NowR.copy hL3.2 hP8.2 hN k1
  have F1 : Fr (sDd pa) m M1 := f1.dd1
  have c7 : M1 0 7 = pa := by rw [f1 0 7 (sN_f (by omega))]; exact h7
  have c8 : M1 0 8 = n := by rw [f1 0 8 (sN_f (by omega))]; exact h8
  refine Ev.aload_n (q := 5) dX11_press_4 rfl rfl ?_
  refine gR (q := 8) dX11_press_5 gfX11_80 k0 r0_14 rfl rfl ?_
  refine Ev.aload_n (q := 9) dX11_press_8 rfl rfl ?_
  refine gR (q := 12) dX11_press_9 gfX11_34 k0 r0_4 rfl rfl ?_
  refine Ev.iload_n (q := 13) dX11_press_12 rfl rfl ?_
  refine Ev.iload_n (q := 14) dX11_press_13 rfl rfl ?_
  refine cV3i (q := 17) (d' := d + 2) dX11_press_14 mlX11_207 moX0_lightOn mvX0_lightOn k66 rfl rfl rfl (Nat.le_refl _) rfl rfl rfl (p_X0_lightOn g 44 l f (by decide) hI hH1 hN1) (fun r2 m2 e2 => ?_)
  obtain ⟨M2, rfl⟩ : ∃ M2, M2 = m2 := ⟨_, rfl⟩
  obtain ⟨y1, y2, f2⟩ := e2
  subst y1
  have F2 : Fr (sDd pa) m M2 := F1.tr f2.dd2
  have d7 : M2 0 7 = pa := by rw [f2 0 7 (sDe_f (by omega) (by omega))]; exact c7
  have d8 : M2 0 8 = n := by rw [f2 0 8 (sDe_f (by omega) (by omega))]; exact c8
  have hP2 : NowR g M2 (77 + 8 * pa) := hP1.keep (fun a h1 h2 => f2.row a (fun _ => sDe_f (by omega) (by omega)))
  refine istore_n_3 (q := 18) dX11_press_17 rfl rfl rfl ?_
  refine Ev.iload_n (q := 19) dX11_press_18 rfl rfl ?_
  refine Ev.if_eq (tgt := 27) (q := 22) dX11_press_19 (by decide) rfl (fun h3 => ?_) (fun h3 => ?_)
  · skip
    have hw := ‹whyP g l f false = 0›
    rw [if_pos hw] at y2
    obtain ⟨r1, r2⟩ := whyP_c0 hw
    obtain ⟨ln, rfl⟩ : ∃ ln : Nat, l = ln := ⟨l.toNat, by omega⟩
    obtain ⟨fn, rfl⟩ : ∃ fn : Nat, f = fn := ⟨f.toNat, by omega⟩
    refine Ev.aload_n (q := 28) dX11_press_27 rfl rfl ?_
    refine cV0v (q := 31) (d' := d + 2) dX11_press_28 mlX11_211 moX11_countBefore mvX11_countBefore k0 rfl rfl rfl (Nat.le_refl _) rfl rfl rfl (p_X11_countBefore pa n hpa hn d7 d8) (fun r4 m4 e4 => ?_)
    obtain ⟨M3, rfl⟩ : ∃ M3, M3 = m4 := ⟨_, rfl⟩
    have hE : M3 = up (up M2 0 7 (((pa + 1) % 11 : Nat) : Int)) 0 8 ((if n < 10 then n + 1 else 10 : Nat) : Int) := e4
    have R3 : NowR (doD g 0 ln fn) M3 44 := by rw [hE]; exact y2.keep (fun a h1 h2 => by rw [up_na _ _ (by omega), up_na _ _ (by omega)])
    have DK : DOk g (doD g 0 ln fn) pa n M3 := ⟨R3, by rw [hE]; exact hP2.keep (fun a h1 h2 => by rw [up_na _ _ (by omega), up_na _ _ (by omega)]), by rw [hE, up_k _ _ (by decide), up_eq], by rw [hE, up_eq]⟩
    have F3 : Fr (sDd pa) m M3 := by rw [hE]; exact (F2.up (sDd_7 pa)).up (sDd_8 pa)
    refine Ev.aload_n (q := 32) dX11_press_31 rfl rfl ?_
    refine gR (q := 35) dX11_press_32 gfX11_34 k0 r0_4 rfl rfl ?_
    refine gR (q := 38) dX11_press_35 gfX11_146 k44 r44_2 rfl rfl ?_
    refine Ev.iload_n (q := 39) dX11_press_38 rfl rfl ?_
    refine aI (q := 40) (k := ln) dX11_press_39 k47 (by first | rfl | omega | (simp (disch := omega) only [w32_of]; omega)) (by omega) rfl ?_
    have hs : litV g ln < 2 ^ 12 := (hI.litOk r1.2).lt hI
    have e47 : M3 47 ln = ((litV g ln ||| 2 ^ fn : Nat) : Int) := by
      have h2' : (ln : Int) < doD g 0 ln fn 2 := by show (ln : Int) < upg g _ _ 2; rw [upg_ne _ _ (by omega)]; exact r1.2
      have := (R3.1 ln h2').2.2.1
      rw [show doD g 0 ln fn (66 + ln) = ((litV g ln ||| 2 ^ fn : Nat) : Int) from upg_eq _ _ _] at this
      exact this
    rw [e47]
    refine cS1i (q := 43) (d' := d + 2) dX11_press_40 mlX11_214 moJ6_bitCount_0f7a4 msJ6_bitCount_0f7a4 rfl rfl (Nat.le_refl _) rfl rfl rfl (p_J6_bitCount_0f7a4 (litV g ln ||| 2 ^ fn) (Nat.or_lt_two_pow hs (two_lt (by omega)))) (fun r5 m5 e5 => ?_)
    obtain ⟨rfl, e5⟩ := e5
    obtain rfl := e5.symm
    refine rI dX11_press_43 rfl ?_
    exact ⟨fun _ => ⟨rfl, DK⟩, fun z => absurd hw z, F3⟩
  · skip
    refine Ev.bipush (q := 24) dX11_press_22 kb_m10 rfl ?_
    refine Ev.iload_n (q := 25) dX11_press_24 rfl rfl ?_
    refine Ev.isub (q := 26) dX11_press_25 rfl ?_
    refine rI dX11_press_26 rfl ?_
    have hw := ‹¬ whyP g l f false = 0›
    rw [if_neg hw] at y2
    exact ⟨fun z => absurd z hw, fun _ => ⟨rfl, y2, d7, d8⟩, F2⟩
set_option maxRecDepth 4000 in
theorem p_X11_pressOff {Γ : Gm} {d : Nat} {m : Mem} (g : Row) (pa n : Nat) (l f : Int) (hI : HI g) (hH : HouR g m 33) (hN : NowR g m 44) (hpa : pa < 11) (hn : n ≤ 10) (h7 : m 0 7 = pa) (h8 : m 0 8 = n) : Ci Γ (d + 3) MX11_pressOff [rv 0, iv l, iv f] m (fun r m' => (whyP g l f true = 0 → r = (pop (dif (litV g l.toNat) (2 ^ f.toNat)) : Int) ∧ DOk g (doD g 1 l.toNat f.toNat) pa n m') ∧ (¬ whyP g l f true = 0 → r = w32 (-10 - whyP g l f true) ∧ DNo g pa n m') ∧ Fr (sDd pa) m m') := by
  refine Ci.of moX11_pressOff rfl rfl (fun hA hM => ?_)
  show Em Γ (d + 3) MX11_pressOff _ 0 [rv 0, iv l, iv f, uv] [] m
  have hF12 := hI.1
  have hP8 := hI.2.2.1
  have hL3 := hI.2.1
  obtain ⟨n0, n1, n2, n3⟩ := hH.n0
  refine Ev.aload_n (q := 1) dX11_pressOff_0 rfl rfl ?_
  refine cV0v (q := 4) (d' := d + 2) dX11_pressOff_1 mlX11_204 moX11_keepBefore mvX11_keepBefore k0 rfl rfl rfl (Nat.le_refl _) rfl rfl rfl (p_X11_keepBefore pa hpa h7) (fun r1 m1 e1 => ?_)
  obtain ⟨M1, rfl⟩ : ∃ M1, M1 = m1 := ⟨_, rfl⟩
  obtain ⟨k1, f1⟩ := e1
  have hH1 : HouR g M1 33 := hH.keep (fun a h1 h2 => f1.row a (fun _ => sN_f (by omega)))
  have hN1 : NowR g M1 44 := hN.keep (fun a h1 h2 => f1.row a (fun _ => sN_f (by omega)))
  have hP1 : NowR g M1 (77 + 8 * pa) := NowR.copy hL3.2 hP8.2 hN k1
  have F1 : Fr (sDd pa) m M1 := f1.dd1
  have c7 : M1 0 7 = pa := by rw [f1 0 7 (sN_f (by omega))]; exact h7
  have c8 : M1 0 8 = n := by rw [f1 0 8 (sN_f (by omega))]; exact h8
  refine Ev.aload_n (q := 5) dX11_pressOff_4 rfl rfl ?_
  refine gR (q := 8) dX11_pressOff_5 gfX11_80 k0 r0_14 rfl rfl ?_
  refine Ev.aload_n (q := 9) dX11_pressOff_8 rfl rfl ?_
  refine gR (q := 12) dX11_pressOff_9 gfX11_34 k0 r0_4 rfl rfl ?_
  refine Ev.iload_n (q := 13) dX11_pressOff_12 rfl rfl ?_
  refine Ev.iload_n (q := 14) dX11_pressOff_13 rfl rfl ?_
  refine cV3i (q := 17) (d' := d + 2) dX11_pressOff_14 mlX11_219 moX0_lightOff mvX0_lightOff k66 rfl rfl rfl (Nat.le_refl _) rfl rfl rfl (p_X0_lightOff g 44 l f (by decide) hI hH1 hN1) (fun r2 m2 e2 => ?_)
  obtain ⟨M2, rfl⟩ : ∃ M2, M2 = m2 := ⟨_, rfl⟩
  obtain ⟨y1, y2, f2⟩ := e2
  subst y1
  have F2 : Fr (sDd pa) m M2 := F1.tr f2.dd2
  have d7 : M2 0 7 = pa := by rw [f2 0 7 (sDe_f (by omega) (by omega))]; exact c7
  have d8 : M2 0 8 = n := by rw [f2 0 8 (sDe_f (by omega) (by omega))]; exact c8
  have hP2 : NowR g M2 (77 + 8 * pa) := hP1.keep (fun a h1 h2 => f2.row a (fun _ => sDe_f (by omega) (by omega)))
  refine istore_n_3 (q := 18) dX11_pressOff_17 rfl rfl rfl ?_
  refine Ev.iload_n (q := 19) dX11_pressOff_18 rfl rfl ?_
  refine Ev.if_eq (tgt := 27) (q := 22) dX11_pressOff_19 (by decide) rfl (fun h3 => ?_) (fun h3 => ?_)
  · skip
    have hw := ‹whyP g l f true = 0›
    rw [if_pos hw] at y2
    obtain ⟨r1, r2⟩ := whyP_c0 hw
    obtain ⟨ln, rfl⟩ : ∃ ln : Nat, l = ln := ⟨l.toNat, by omega⟩
    obtain ⟨fn, rfl⟩ : ∃ fn : Nat, f = fn := ⟨f.toNat, by omega⟩
    refine Ev.aload_n (q := 28) dX11_pressOff_27 rfl rfl ?_
    refine cV0v (q := 31) (d' := d + 2) dX11_pressOff_28 mlX11_211 moX11_countBefore mvX11_countBefore k0 rfl rfl rfl (Nat.le_refl _) rfl rfl rfl (p_X11_countBefore pa n hpa hn d7 d8) (fun r4 m4 e4 => ?_)
    obtain ⟨M3, rfl⟩ : ∃ M3, M3 = m4 := ⟨_, rfl⟩
    have hE : M3 = up (up M2 0 7 (((pa + 1) % 11 : Nat) : Int)) 0 8 ((if n < 10 then n + 1 else 10 : Nat) : Int) := e4
    have R3 : NowR (doD g 1 ln fn) M3 44 := by rw [hE]; exact y2.keep (fun a h1 h2 => by rw [up_na _ _ (by omega), up_na _ _ (by omega)])
    have DK : DOk g (doD g 1 ln fn) pa n M3 := ⟨R3, by rw [hE]; exact hP2.keep (fun a h1 h2 => by rw [up_na _ _ (by omega), up_na _ _ (by omega)]), by rw [hE, up_k _ _ (by decide), up_eq], by rw [hE, up_eq]⟩
    have F3 : Fr (sDd pa) m M3 := by rw [hE]; exact (F2.up (sDd_7 pa)).up (sDd_8 pa)
    refine Ev.aload_n (q := 32) dX11_pressOff_31 rfl rfl ?_
    refine gR (q := 35) dX11_pressOff_32 gfX11_34 k0 r0_4 rfl rfl ?_
    refine gR (q := 38) dX11_pressOff_35 gfX11_146 k44 r44_2 rfl rfl ?_
    refine Ev.iload_n (q := 39) dX11_pressOff_38 rfl rfl ?_
    refine aI (q := 40) (k := ln) dX11_pressOff_39 k47 (by first | rfl | omega | (simp (disch := omega) only [w32_of]; omega)) (by omega) rfl ?_
    have hs : litV g ln < 2 ^ 12 := (hI.litOk r1.2).lt hI
    have e47 : M3 47 ln = ((dif (litV g ln) (2 ^ fn) : Nat) : Int) := by
      have h2' : (ln : Int) < doD g 1 ln fn 2 := by show (ln : Int) < upg g _ _ 2; rw [upg_ne _ _ (by omega)]; exact r1.2
      have := (R3.1 ln h2').2.2.1
      rw [show doD g 1 ln fn (66 + ln) = ((dif (litV g ln) (2 ^ fn) : Nat) : Int) from upg_eq _ _ _] at this
      exact this
    rw [e47]
    refine cS1i (q := 43) (d' := d + 2) dX11_pressOff_40 mlX11_214 moJ6_bitCount_0f7a4 msJ6_bitCount_0f7a4 rfl rfl (Nat.le_refl _) rfl rfl rfl (p_J6_bitCount_0f7a4 (dif (litV g ln) (2 ^ fn)) (Nat.lt_of_le_of_lt (dif_le _ _) hs)) (fun r5 m5 e5 => ?_)
    obtain ⟨rfl, e5⟩ := e5
    obtain rfl := e5.symm
    refine rI dX11_pressOff_43 rfl ?_
    exact ⟨fun _ => ⟨rfl, DK⟩, fun z => absurd hw z, F3⟩
  · skip
    refine Ev.bipush (q := 24) dX11_pressOff_22 kb_m10 rfl ?_
    refine Ev.iload_n (q := 25) dX11_pressOff_24 rfl rfl ?_
    refine Ev.isub (q := 26) dX11_pressOff_25 rfl ?_
    refine rI dX11_pressOff_26 rfl ?_
    have hw := ‹¬ whyP g l f true = 0›
    rw [if_neg hw] at y2
    exact ⟨fun z => absurd z hw, fun _ => ⟨rfl, y2, d7, d8⟩, F2⟩
set_option maxRecDepth 4000 in
theorem p_X11_rides {Γ : Gm} {d : Nat} {m : Mem} (g : Row) (pa n : Nat) (l : Int) (hI : HI g) (hH : HouR g m 33) (hN : NowR g m 44) (hpa : pa < 11) (hn : n ≤ 10) (h7 : m 0 7 = pa) (h8 : m 0 8 = n) : Ci Γ (d + 4) MX11_rides [rv 0, iv l] m (fun r m' => (whyR g l = 0 → r = ridG g l.toNat (60 + l.toNat) ∧ DOk g (doD g 2 l.toNat 0) pa n m') ∧ (¬ whyR g l = 0 → r = w32 (-10 - whyR g l) ∧ DNo g pa n m') ∧ Fr (sDd pa) m m') := by
  refine Ci.of moX11_rides rfl rfl (fun hA hM => ?_)
  show Em Γ (d + 4) MX11_rides _ 0 [rv 0, iv l, uv] [] m
  have hF12 := hI.1
  have hP8 := hI.2.2.1
  have hL3 := hI.2.1
  obtain ⟨n0, n1, n2, n3⟩ := hH.n0
  refine Ev.aload_n (q := 1) dX11_rides_0 rfl rfl ?_
  refine cV0v (q := 4) (d' := d + 3) dX11_rides_1 mlX11_204 moX11_keepBefore mvX11_keepBefore k0 rfl rfl rfl (Nat.le_refl _) rfl rfl rfl (p_X11_keepBefore pa hpa h7) (fun r1 m1 e1 => ?_)
  obtain ⟨M1, rfl⟩ : ∃ M1, M1 = m1 := ⟨_, rfl⟩
  obtain ⟨k1, f1⟩ := e1
  have hH1 : HouR g M1 33 := hH.keep (fun a h1 h2 => f1.row a (fun _ => sN_f (by omega)))
  have hN1 : NowR g M1 44 := hN.keep (fun a h1 h2 => f1.row a (fun _ => sN_f (by omega)))
  have hP1 : NowR g M1 (77 + 8 * pa) := NowR.copy hL3.2 hP8.2 hN k1
  have F1 : Fr (sDd pa) m M1 := f1.dd1
  have c7 : M1 0 7 = pa := by rw [f1 0 7 (sN_f (by omega))]; exact h7
  have c8 : M1 0 8 = n := by rw [f1 0 8 (sN_f (by omega))]; exact h8
  refine Ev.aload_n (q := 5) dX11_rides_4 rfl rfl ?_
  refine gR (q := 8) dX11_rides_5 gfX11_80 k0 r0_14 rfl rfl ?_
  refine Ev.aload_n (q := 9) dX11_rides_8 rfl rfl ?_
  refine gR (q := 12) dX11_rides_9 gfX11_34 k0 r0_4 rfl rfl ?_
  refine Ev.iload_n (q := 13) dX11_rides_12 rfl rfl ?_
  refine cV2i (q := 16) (d' := d + 3) dX11_rides_13 mlX11_222 moX0_rideOnce mvX0_rideOnce k66 rfl rfl rfl (Nat.le_refl _) rfl rfl rfl (p_X0_rideOnce g 44 l (by decide) hI hH1 hN1) (fun r2 m2 e2 => ?_)
  obtain ⟨M2, rfl⟩ : ∃ M2, M2 = m2 := ⟨_, rfl⟩
  obtain ⟨y1, y2, f2⟩ := e2
  subst y1
  have F2 : Fr (sDd pa) m M2 := F1.tr f2.dd2
  have d7 : M2 0 7 = pa := by rw [f2 0 7 (sDe_f (by omega) (by omega))]; exact c7
  have d8 : M2 0 8 = n := by rw [f2 0 8 (sDe_f (by omega) (by omega))]; exact c8
  have hP2 : NowR g M2 (77 + 8 * pa) := hP1.keep (fun a h1 h2 => f2.row a (fun _ => sDe_f (by omega) (by omega)))
  refine istore_n_2 (q := 17) dX11_rides_16 rfl rfl rfl ?_
  refine Ev.iload_n (q := 18) dX11_rides_17 rfl rfl ?_
  refine Ev.if_eq (tgt := 26) (q := 21) dX11_rides_18 (by decide) rfl (fun h3 => ?_) (fun h3 => ?_)
  · skip
    have hw := ‹whyR g l = 0›
    rw [if_pos hw] at y2
    have r1 := whyR_c0 hw
    obtain ⟨ln, rfl⟩ : ∃ ln : Nat, l = ln := ⟨l.toNat, by omega⟩
    refine Ev.aload_n (q := 27) dX11_rides_26 rfl rfl ?_
    refine cV0v (q := 30) (d' := d + 3) dX11_rides_27 mlX11_211 moX11_countBefore mvX11_countBefore k0 rfl rfl rfl (Nat.le_refl _) rfl rfl rfl (p_X11_countBefore pa n hpa hn d7 d8) (fun r4 m4 e4 => ?_)
    obtain ⟨M3, rfl⟩ : ∃ M3, M3 = m4 := ⟨_, rfl⟩
    have hE : M3 = up (up M2 0 7 (((pa + 1) % 11 : Nat) : Int)) 0 8 ((if n < 10 then n + 1 else 10 : Nat) : Int) := e4
    have R3 : NowR (doD g 2 ln 0) M3 44 := by rw [hE]; exact y2.keep (fun a h1 h2 => by rw [up_na _ _ (by omega), up_na _ _ (by omega)])
    have DK : DOk g (doD g 2 ln 0) pa n M3 := ⟨R3, by rw [hE]; exact hP2.keep (fun a h1 h2 => by rw [up_na _ _ (by omega), up_na _ _ (by omega)]), by rw [hE, up_k _ _ (by decide), up_eq], by rw [hE, up_eq]⟩
    have F3 : Fr (sDd pa) m M3 := by rw [hE]; exact (F2.up (sDd_7 pa)).up (sDd_8 pa)
    refine Ev.aload_n (q := 31) dX11_rides_30 rfl rfl ?_
    refine gR (q := 34) dX11_rides_31 gfX11_34 k0 r0_4 rfl rfl ?_
    refine gR (q := 37) dX11_rides_34 gfX11_139 k44 r44_0 rfl rfl ?_
    refine Ev.iload_n (q := 38) dX11_rides_37 rfl rfl ?_
    refine aI (q := 39) (k := ln) dX11_rides_38 k45 (by first | rfl | omega | (simp (disch := omega) only [w32_of]; omega)) (by omega) rfl ?_
    refine rI dX11_rides_39 rfl ?_
    have hK := (HI_D hI (k := 2) (a := ln) (b := 0) hw).2
    exact ⟨fun _ => ⟨(R3.1 ln (by rw [show doD g 2 ln 0 2 = g 2 from hK 2 (by omega)]; exact r1.2)).1, DK⟩, fun z => absurd hw z, F3⟩
  · skip
    refine Ev.bipush (q := 23) dX11_rides_21 kb_m10 rfl ?_
    refine Ev.iload_n (q := 24) dX11_rides_23 rfl rfl ?_
    refine Ev.isub (q := 25) dX11_rides_24 rfl ?_
    refine rI dX11_rides_25 rfl ?_
    have hw := ‹¬ whyR g l = 0›
    rw [if_neg hw] at y2
    exact ⟨fun z => absurd z hw, fun _ => ⟨rfl, y2, d7, d8⟩, F2⟩
set_option maxRecDepth 4000 in
theorem p_X11_out {Γ : Gm} {d : Nat} {m : Mem} (g : Row) (pa n : Nat) (p : Int) (hI : HI g) (hH : HouR g m 33) (hN : NowR g m 44) (hpa : pa < 11) (hn : n ≤ 10) (h7 : m 0 7 = pa) (h8 : m 0 8 = n) : Ci Γ (d + 3) MX11_out [rv 0, iv p] m (fun r m' => (whyO g p = 0 → r = g (72 + p.toNat) ∧ DOk g (doD g 3 p.toNat 0) pa n m') ∧ (¬ whyO g p = 0 → r = w32 (-10 - whyO g p) ∧ DNo g pa n m') ∧ Fr (sDd pa) m m') := by
  refine Ci.of moX11_out rfl rfl (fun hA hM => ?_)
  show Em Γ (d + 3) MX11_out _ 0 [rv 0, iv p, uv] [] m
  have hF12 := hI.1
  have hP8 := hI.2.2.1
  have hL3 := hI.2.1
  obtain ⟨n0, n1, n2, n3⟩ := hH.n0
  refine Ev.aload_n (q := 1) dX11_out_0 rfl rfl ?_
  refine cV0v (q := 4) (d' := d + 2) dX11_out_1 mlX11_204 moX11_keepBefore mvX11_keepBefore k0 rfl rfl rfl (Nat.le_refl _) rfl rfl rfl (p_X11_keepBefore pa hpa h7) (fun r1 m1 e1 => ?_)
  obtain ⟨M1, rfl⟩ : ∃ M1, M1 = m1 := ⟨_, rfl⟩
  obtain ⟨k1, f1⟩ := e1
  have hH1 : HouR g M1 33 := hH.keep (fun a h1 h2 => f1.row a (fun _ => sN_f (by omega)))
  have hN1 : NowR g M1 44 := hN.keep (fun a h1 h2 => f1.row a (fun _ => sN_f (by omega)))
  have hP1 : NowR g M1 (77 + 8 * pa) := NowR.copy hL3.2 hP8.2 hN k1
  have F1 : Fr (sDd pa) m M1 := f1.dd1
  have c7 : M1 0 7 = pa := by rw [f1 0 7 (sN_f (by omega))]; exact h7
  have c8 : M1 0 8 = n := by rw [f1 0 8 (sN_f (by omega))]; exact h8
  refine Ev.aload_n (q := 5) dX11_out_4 rfl rfl ?_
  refine gR (q := 8) dX11_out_5 gfX11_80 k0 r0_14 rfl rfl ?_
  refine Ev.aload_n (q := 9) dX11_out_8 rfl rfl ?_
  refine gR (q := 12) dX11_out_9 gfX11_34 k0 r0_4 rfl rfl ?_
  refine Ev.iload_n (q := 13) dX11_out_12 rfl rfl ?_
  refine cV2i (q := 16) (d' := d + 2) dX11_out_13 mlX11_226 moX0_getOut mvX0_getOut k66 rfl rfl rfl (Nat.le_refl _) rfl rfl rfl (p_X0_getOut g 44 p (by decide) hI hH1 hN1) (fun r2 m2 e2 => ?_)
  obtain ⟨M2, rfl⟩ : ∃ M2, M2 = m2 := ⟨_, rfl⟩
  obtain ⟨y1, y2, f2⟩ := e2
  subst y1
  have F2 : Fr (sDd pa) m M2 := F1.tr f2.dd2
  have d7 : M2 0 7 = pa := by rw [f2 0 7 (sDe_f (by omega) (by omega))]; exact c7
  have d8 : M2 0 8 = n := by rw [f2 0 8 (sDe_f (by omega) (by omega))]; exact c8
  have hP2 : NowR g M2 (77 + 8 * pa) := hP1.keep (fun a h1 h2 => f2.row a (fun _ => sDe_f (by omega) (by omega)))
  refine istore_n_2 (q := 17) dX11_out_16 rfl rfl rfl ?_
  refine Ev.iload_n (q := 18) dX11_out_17 rfl rfl ?_
  refine Ev.if_eq (tgt := 26) (q := 21) dX11_out_18 (by decide) rfl (fun h3 => ?_) (fun h3 => ?_)
  · skip
    have hw := ‹whyO g p = 0›
    rw [if_pos hw] at y2
    have r1 := whyO_c0 hw
    obtain ⟨pn, rfl⟩ : ∃ pn : Nat, p = pn := ⟨p.toNat, by omega⟩
    refine Ev.aload_n (q := 27) dX11_out_26 rfl rfl ?_
    refine cV0v (q := 30) (d' := d + 2) dX11_out_27 mlX11_211 moX11_countBefore mvX11_countBefore k0 rfl rfl rfl (Nat.le_refl _) rfl rfl rfl (p_X11_countBefore pa n hpa hn d7 d8) (fun r4 m4 e4 => ?_)
    obtain ⟨M3, rfl⟩ : ∃ M3, M3 = m4 := ⟨_, rfl⟩
    have hE : M3 = up (up M2 0 7 (((pa + 1) % 11 : Nat) : Int)) 0 8 ((if n < 10 then n + 1 else 10 : Nat) : Int) := e4
    have R3 : NowR (doD g 3 pn 0) M3 44 := by rw [hE]; exact y2.keep (fun a h1 h2 => by rw [up_na _ _ (by omega), up_na _ _ (by omega)])
    have DK : DOk g (doD g 3 pn 0) pa n M3 := ⟨R3, by rw [hE]; exact hP2.keep (fun a h1 h2 => by rw [up_na _ _ (by omega), up_na _ _ (by omega)]), by rw [hE, up_k _ _ (by decide), up_eq], by rw [hE, up_eq]⟩
    have F3 : Fr (sDd pa) m M3 := by rw [hE]; exact (F2.up (sDd_7 pa)).up (sDd_8 pa)
    refine Ev.aload_n (q := 31) dX11_out_30 rfl rfl ?_
    refine gR (q := 34) dX11_out_31 gfX11_34 k0 r0_4 rfl rfl ?_
    refine gR (q := 37) dX11_out_34 gfX11_170 k44 r44_4 rfl rfl ?_
    refine Ev.iload_n (q := 38) dX11_out_37 rfl rfl ?_
    refine aI (q := 39) (k := pn) dX11_out_38 k49 (by first | rfl | omega | (simp (disch := omega) only [w32_of]; omega)) (by omega) rfl ?_
    refine rI dX11_out_39 rfl ?_
    have hz : (pn : Int) < doD g 3 pn 0 3 := by show (pn : Int) < upg g _ _ 3; rw [upg_ne _ _ (by omega)]; exact r1.2
    have hv : doD g 3 pn 0 (72 + pn) = g (72 + pn) := upg_ne _ _ (by omega)
    exact ⟨fun _ => ⟨((R3.2 pn hz).1).trans hv, DK⟩, fun z => absurd hw z, F3⟩
  · skip
    refine Ev.bipush (q := 23) dX11_out_21 kb_m10 rfl ?_
    refine Ev.iload_n (q := 24) dX11_out_23 rfl rfl ?_
    refine Ev.isub (q := 25) dX11_out_24 rfl ?_
    refine rI dX11_out_25 rfl ?_
    have hw := ‹¬ whyO g p = 0›
    rw [if_neg hw] at y2
    exact ⟨fun z => absurd z hw, fun _ => ⟨rfl, y2, d7, d8⟩, F2⟩
set_option maxRecDepth 4000 in
theorem p_X11_in {Γ : Gm} {d : Nat} {m : Mem} (g : Row) (pa n : Nat) (p l : Int) (hI : HI g) (hH : HouR g m 33) (hN : NowR g m 44) (hpa : pa < 11) (hn : n ≤ 10) (h7 : m 0 7 = pa) (h8 : m 0 8 = n) : Ci Γ (d + 3) MX11_in [rv 0, iv p, iv l] m (fun r m' => (whyI g p l = 0 → r = getG g p.toNat l.toNat (63 + l.toNat) ∧ DOk g (doD g 4 p.toNat l.toNat) pa n m') ∧ (¬ whyI g p l = 0 → r = w32 (-10 - whyI g p l) ∧ DNo g pa n m') ∧ Fr (sDd pa) m m') := by
  refine Ci.of moX11_in rfl rfl (fun hA hM => ?_)
  show Em Γ (d + 3) MX11_in _ 0 [rv 0, iv p, iv l, uv] [] m
  have hF12 := hI.1
  have hP8 := hI.2.2.1
  have hL3 := hI.2.1
  obtain ⟨n0, n1, n2, n3⟩ := hH.n0
  refine Ev.aload_n (q := 1) dX11_in_0 rfl rfl ?_
  refine cV0v (q := 4) (d' := d + 2) dX11_in_1 mlX11_204 moX11_keepBefore mvX11_keepBefore k0 rfl rfl rfl (Nat.le_refl _) rfl rfl rfl (p_X11_keepBefore pa hpa h7) (fun r1 m1 e1 => ?_)
  obtain ⟨M1, rfl⟩ : ∃ M1, M1 = m1 := ⟨_, rfl⟩
  obtain ⟨k1, f1⟩ := e1
  have hH1 : HouR g M1 33 := hH.keep (fun a h1 h2 => f1.row a (fun _ => sN_f (by omega)))
  have hN1 : NowR g M1 44 := hN.keep (fun a h1 h2 => f1.row a (fun _ => sN_f (by omega)))
  have hP1 : NowR g M1 (77 + 8 * pa) := NowR.copy hL3.2 hP8.2 hN k1
  have F1 : Fr (sDd pa) m M1 := f1.dd1
  have c7 : M1 0 7 = pa := by rw [f1 0 7 (sN_f (by omega))]; exact h7
  have c8 : M1 0 8 = n := by rw [f1 0 8 (sN_f (by omega))]; exact h8
  refine Ev.aload_n (q := 5) dX11_in_4 rfl rfl ?_
  refine gR (q := 8) dX11_in_5 gfX11_80 k0 r0_14 rfl rfl ?_
  refine Ev.aload_n (q := 9) dX11_in_8 rfl rfl ?_
  refine gR (q := 12) dX11_in_9 gfX11_34 k0 r0_4 rfl rfl ?_
  refine Ev.iload_n (q := 13) dX11_in_12 rfl rfl ?_
  refine Ev.iload_n (q := 14) dX11_in_13 rfl rfl ?_
  refine cV3i (q := 17) (d' := d + 2) dX11_in_14 mlX11_229 moX0_getIn mvX0_getIn k66 rfl rfl rfl (Nat.le_refl _) rfl rfl rfl (p_X0_getIn g 44 p l (by decide) hI hH1 hN1) (fun r2 m2 e2 => ?_)
  obtain ⟨M2, rfl⟩ : ∃ M2, M2 = m2 := ⟨_, rfl⟩
  obtain ⟨y1, y2, f2⟩ := e2
  subst y1
  have F2 : Fr (sDd pa) m M2 := F1.tr f2.dd2
  have d7 : M2 0 7 = pa := by rw [f2 0 7 (sDe_f (by omega) (by omega))]; exact c7
  have d8 : M2 0 8 = n := by rw [f2 0 8 (sDe_f (by omega) (by omega))]; exact c8
  have hP2 : NowR g M2 (77 + 8 * pa) := hP1.keep (fun a h1 h2 => f2.row a (fun _ => sDe_f (by omega) (by omega)))
  refine istore_n_3 (q := 18) dX11_in_17 rfl rfl rfl ?_
  refine Ev.iload_n (q := 19) dX11_in_18 rfl rfl ?_
  refine Ev.if_eq (tgt := 27) (q := 22) dX11_in_19 (by decide) rfl (fun h3 => ?_) (fun h3 => ?_)
  · skip
    have hw := ‹whyI g p l = 0›
    rw [if_pos hw] at y2
    obtain ⟨r1, r2⟩ := whyI_c0 hw
    obtain ⟨pn, rfl⟩ : ∃ pn : Nat, p = pn := ⟨p.toNat, by omega⟩
    obtain ⟨ln, rfl⟩ : ∃ ln : Nat, l = ln := ⟨l.toNat, by omega⟩
    refine Ev.aload_n (q := 28) dX11_in_27 rfl rfl ?_
    refine cV0v (q := 31) (d' := d + 2) dX11_in_28 mlX11_211 moX11_countBefore mvX11_countBefore k0 rfl rfl rfl (Nat.le_refl _) rfl rfl rfl (p_X11_countBefore pa n hpa hn d7 d8) (fun r4 m4 e4 => ?_)
    obtain ⟨M3, rfl⟩ : ∃ M3, M3 = m4 := ⟨_, rfl⟩
    have hE : M3 = up (up M2 0 7 (((pa + 1) % 11 : Nat) : Int)) 0 8 ((if n < 10 then n + 1 else 10 : Nat) : Int) := e4
    have R3 : NowR (doD g 4 pn ln) M3 44 := by rw [hE]; exact y2.keep (fun a h1 h2 => by rw [up_na _ _ (by omega), up_na _ _ (by omega)])
    have DK : DOk g (doD g 4 pn ln) pa n M3 := ⟨R3, by rw [hE]; exact hP2.keep (fun a h1 h2 => by rw [up_na _ _ (by omega), up_na _ _ (by omega)]), by rw [hE, up_k _ _ (by decide), up_eq], by rw [hE, up_eq]⟩
    have F3 : Fr (sDd pa) m M3 := by rw [hE]; exact (F2.up (sDd_7 pa)).up (sDd_8 pa)
    refine Ev.aload_n (q := 32) dX11_in_31 rfl rfl ?_
    refine gR (q := 35) dX11_in_32 gfX11_34 k0 r0_4 rfl rfl ?_
    refine gR (q := 38) dX11_in_35 gfX11_143 k44 r44_1 rfl rfl ?_
    refine Ev.iload_n (q := 39) dX11_in_38 rfl rfl ?_
    refine aI (q := 40) (k := ln) dX11_in_39 k46 (by first | rfl | omega | (simp (disch := omega) only [w32_of]; omega)) (by omega) rfl ?_
    refine rI dX11_in_40 rfl ?_
    have hK := (HI_D hI (k := 4) (a := pn) (b := ln) hw).2
    exact ⟨fun _ => ⟨(R3.1 ln (by rw [show doD g 4 pn ln 2 = g 2 from hK 2 (by omega)]; exact r2.2)).2.1, DK⟩, fun z => absurd hw z, F3⟩
  · skip
    refine Ev.bipush (q := 24) dX11_in_22 kb_m10 rfl ?_
    refine Ev.iload_n (q := 25) dX11_in_24 rfl rfl ?_
    refine Ev.isub (q := 26) dX11_in_25 rfl ?_
    refine rI dX11_in_26 rfl ?_
    have hw := ‹¬ whyI g p l = 0›
    rw [if_neg hw] at y2
    exact ⟨fun z => absurd z hw, fun _ => ⟨rfl, y2, d7, d8⟩, F2⟩
set_option maxRecDepth 4000 in
theorem p_X11_walks {Γ : Gm} {d : Nat} {m : Mem} (g : Row) (pa n : Nat) (p f : Int) (hI : HI g) (hH : HouR g m 33) (hN : NowR g m 44) (hpa : pa < 11) (hn : n ≤ 10) (h7 : m 0 7 = pa) (h8 : m 0 8 = n) : Ci Γ (d + 3) MX11_walks [rv 0, iv p, iv f] m (fun r m' => (whyW g p f = 0 → r = walG g p.toNat f.toNat (80 + p.toNat) ∧ DOk g (doD g 5 p.toNat f.toNat) pa n m') ∧ (¬ whyW g p f = 0 → r = w32 (-10 - whyW g p f) ∧ DNo g pa n m') ∧ Fr (sDd pa) m m') := by
  refine Ci.of moX11_walks rfl rfl (fun hA hM => ?_)
  show Em Γ (d + 3) MX11_walks _ 0 [rv 0, iv p, iv f, uv] [] m
  have hF12 := hI.1
  have hP8 := hI.2.2.1
  have hL3 := hI.2.1
  obtain ⟨n0, n1, n2, n3⟩ := hH.n0
  refine Ev.aload_n (q := 1) dX11_walks_0 rfl rfl ?_
  refine cV0v (q := 4) (d' := d + 2) dX11_walks_1 mlX11_204 moX11_keepBefore mvX11_keepBefore k0 rfl rfl rfl (Nat.le_refl _) rfl rfl rfl (p_X11_keepBefore pa hpa h7) (fun r1 m1 e1 => ?_)
  obtain ⟨M1, rfl⟩ : ∃ M1, M1 = m1 := ⟨_, rfl⟩
  obtain ⟨k1, f1⟩ := e1
  have hH1 : HouR g M1 33 := hH.keep (fun a h1 h2 => f1.row a (fun _ => sN_f (by omega)))
  have hN1 : NowR g M1 44 := hN.keep (fun a h1 h2 => f1.row a (fun _ => sN_f (by omega)))
  have hP1 : NowR g M1 (77 + 8 * pa) := NowR.copy hL3.2 hP8.2 hN k1
  have F1 : Fr (sDd pa) m M1 := f1.dd1
  have c7 : M1 0 7 = pa := by rw [f1 0 7 (sN_f (by omega))]; exact h7
  have c8 : M1 0 8 = n := by rw [f1 0 8 (sN_f (by omega))]; exact h8
  refine Ev.aload_n (q := 5) dX11_walks_4 rfl rfl ?_
  refine gR (q := 8) dX11_walks_5 gfX11_80 k0 r0_14 rfl rfl ?_
  refine Ev.aload_n (q := 9) dX11_walks_8 rfl rfl ?_
  refine gR (q := 12) dX11_walks_9 gfX11_34 k0 r0_4 rfl rfl ?_
  refine Ev.iload_n (q := 13) dX11_walks_12 rfl rfl ?_
  refine Ev.iload_n (q := 14) dX11_walks_13 rfl rfl ?_
  refine cV3i (q := 17) (d' := d + 2) dX11_walks_14 mlX11_232 moX0_walkTo mvX0_walkTo k66 rfl rfl rfl (Nat.le_refl _) rfl rfl rfl (p_X0_walkTo g 44 p f (by decide) hI hH1 hN1) (fun r2 m2 e2 => ?_)
  obtain ⟨M2, rfl⟩ : ∃ M2, M2 = m2 := ⟨_, rfl⟩
  obtain ⟨y1, y2, f2⟩ := e2
  subst y1
  have F2 : Fr (sDd pa) m M2 := F1.tr f2.dd2
  have d7 : M2 0 7 = pa := by rw [f2 0 7 (sDe_f (by omega) (by omega))]; exact c7
  have d8 : M2 0 8 = n := by rw [f2 0 8 (sDe_f (by omega) (by omega))]; exact c8
  have hP2 : NowR g M2 (77 + 8 * pa) := hP1.keep (fun a h1 h2 => f2.row a (fun _ => sDe_f (by omega) (by omega)))
  refine istore_n_3 (q := 18) dX11_walks_17 rfl rfl rfl ?_
  refine Ev.iload_n (q := 19) dX11_walks_18 rfl rfl ?_
  refine Ev.if_eq (tgt := 27) (q := 22) dX11_walks_19 (by decide) rfl (fun h3 => ?_) (fun h3 => ?_)
  · skip
    have hw := ‹whyW g p f = 0›
    rw [if_pos hw] at y2
    obtain ⟨r1, r2⟩ := whyW_c0 hw
    obtain ⟨pn, rfl⟩ : ∃ pn : Nat, p = pn := ⟨p.toNat, by omega⟩
    obtain ⟨fn, rfl⟩ : ∃ fn : Nat, f = fn := ⟨f.toNat, by omega⟩
    refine Ev.aload_n (q := 28) dX11_walks_27 rfl rfl ?_
    refine cV0v (q := 31) (d' := d + 2) dX11_walks_28 mlX11_211 moX11_countBefore mvX11_countBefore k0 rfl rfl rfl (Nat.le_refl _) rfl rfl rfl (p_X11_countBefore pa n hpa hn d7 d8) (fun r4 m4 e4 => ?_)
    obtain ⟨M3, rfl⟩ : ∃ M3, M3 = m4 := ⟨_, rfl⟩
    have hE : M3 = up (up M2 0 7 (((pa + 1) % 11 : Nat) : Int)) 0 8 ((if n < 10 then n + 1 else 10 : Nat) : Int) := e4
    have R3 : NowR (doD g 5 pn fn) M3 44 := by rw [hE]; exact y2.keep (fun a h1 h2 => by rw [up_na _ _ (by omega), up_na _ _ (by omega)])
    have DK : DOk g (doD g 5 pn fn) pa n M3 := ⟨R3, by rw [hE]; exact hP2.keep (fun a h1 h2 => by rw [up_na _ _ (by omega), up_na _ _ (by omega)]), by rw [hE, up_k _ _ (by decide), up_eq], by rw [hE, up_eq]⟩
    have F3 : Fr (sDd pa) m M3 := by rw [hE]; exact (F2.up (sDd_7 pa)).up (sDd_8 pa)
    refine Ev.aload_n (q := 32) dX11_walks_31 rfl rfl ?_
    refine gR (q := 35) dX11_walks_32 gfX11_34 k0 r0_4 rfl rfl ?_
    refine gR (q := 38) dX11_walks_35 gfX11_173 k44 r44_5 rfl rfl ?_
    refine Ev.iload_n (q := 39) dX11_walks_38 rfl rfl ?_
    refine aI (q := 40) (k := pn) dX11_walks_39 k50 (by first | rfl | omega | (simp (disch := omega) only [w32_of]; omega)) (by omega) rfl ?_
    refine rI dX11_walks_40 rfl ?_
    have hK := (HI_D hI (k := 5) (a := pn) (b := fn) hw).2
    exact ⟨fun _ => ⟨(R3.2 pn (by rw [show doD g 5 pn fn 3 = g 3 from hK 3 (by omega)]; exact r1.2)).2.1, DK⟩, fun z => absurd hw z, F3⟩
  · skip
    refine Ev.bipush (q := 24) dX11_walks_22 kb_m10 rfl ?_
    refine Ev.iload_n (q := 25) dX11_walks_24 rfl rfl ?_
    refine Ev.isub (q := 26) dX11_walks_25 rfl ?_
    refine rI dX11_walks_26 rfl ?_
    have hw := ‹¬ whyW g p f = 0›
    rw [if_neg hw] at y2
    exact ⟨fun z => absurd z hw, fun _ => ⟨rfl, y2, d7, d8⟩, F2⟩
