/-! ===== the class: its answers, further ===== -/
set_option maxRecDepth 4000 in
theorem lc_walkers {Γ : Gm} {d : Nat} {m : Mem} (g : Row) (hI : HI g) (hH : HouR g m 33) (hN : NowR g m 44) (l : Nat) (hB : inB g l (litV g l) m) : ∀ (n p : Nat), p + n = (g 3).toNat → Em Γ d MX11_walkers (fun r m' => r = (setN (wkQ g l) (g 3).toNat : Int) ∧ m' = m) 35 [rv 0, iv l, iv (setN (wkQ g l) p : Nat), iv p] [] m := by
  have hF12 := hI.1
  have hP8 := hI.2.2.1
  have hL3 := hI.2.1
  have e33 : m 33 3 = g 3 := hH.n0.2.2.2
  intro n
  induction n with
  | zero =>
    intro p hp
    refine Ev.iload_n (q := 36) dX11_walkers_35 rfl rfl ?_
    refine Ev.aload_n (q := 37) dX11_walkers_36 rfl rfl ?_
    refine gR (q := 40) dX11_walkers_37 gfX11_27 k0 r0_3 rfl rfl ?_
    refine gI (q := 43) dX11_walkers_40 gfX11_265 k33 rfl rfl ?_
    rw [e33]
    refine Ev.icmp_ge (tgt := 92) (q := 46) dX11_walkers_43 (by decide) rfl (fun h1 => ?_) (fun h1 => ?_)
    · skip
      refine Ev.iload_n (q := 93) dX11_walkers_92 rfl rfl ?_
      refine rI dX11_walkers_93 rfl ?_
      obtain rfl : p = (g 3).toNat := by omega
      exact ⟨rfl, rfl⟩
    · skip
      omega
  | succ n ih =>
    intro p hp
    have h12 := setN_12 (wkQ g l) (show p ≤ 8 by omega)
    have e51 : m 51 p = g (88 + p) := (hN.2 p (by omega)).2.2
    have e36 : m 36 p = g (28 + p) := (hH.ho (by omega)).1
    refine Ev.iload_n (q := 36) dX11_walkers_35 rfl rfl ?_
    refine Ev.aload_n (q := 37) dX11_walkers_36 rfl rfl ?_
    refine gR (q := 40) dX11_walkers_37 gfX11_27 k0 r0_3 rfl rfl ?_
    refine gI (q := 43) dX11_walkers_40 gfX11_265 k33 rfl rfl ?_
    rw [e33]
    refine Ev.icmp_ge (tgt := 92) (q := 46) dX11_walkers_43 (by decide) rfl (fun h1 => ?_) (fun h1 => ?_)
    · skip
      omega
    · skip
      refine Ev.aload_n (q := 47) dX11_walkers_46 rfl rfl ?_
      refine gR (q := 50) dX11_walkers_47 gfX11_34 k0 r0_4 rfl rfl ?_
      refine gR (q := 53) dX11_walkers_50 gfX11_176 k44 r44_6 rfl rfl ?_
      refine Ev.iload_n (q := 54) dX11_walkers_53 rfl rfl ?_
      refine aI (q := 55) (k := p) dX11_walkers_54 k51 (by first | rfl | omega | (simp (disch := omega) only [w32_of]; omega)) (by omega) rfl ?_
      rw [e51]
      refine Ev.iload_n (q := 56) dX11_walkers_55 rfl rfl ?_
      refine Ev.icmp_ne (tgt := 86) (q := 59) dX11_walkers_56 (by decide) rfl (fun h2 => ?_) (fun h2 => ?_)
      · skip
        refine iinc_3 (q := 89) dX11_walkers_86 rfl rfl rfl ?_
        refine Ev.goto (q := 35) dX11_walkers_89 (by decide) ?_
        have hq : ¬ wkQ g l p = true := by unfold wkQ; intro z; have z := of_decide_eq_true z; omega
        rw [w32_of (by omega) (by omega)]
        have hk9 := ih (p + 1) (by omega)
        rw [show setN (wkQ g l) (p + 1) = setN (wkQ g l) p by conv => lhs; unfold setN; rw [if_neg hq]] at hk9
        exact hk9
      · skip
        have hin : g (88 + p) = l := by omega
        have e70 : m 70 p = (bestN g p).2 := by rw [bestN_in hin]; exact congrArg Prod.snd (hB p (by omega) hin)
        refine Ev.aload_n (q := 60) dX11_walkers_59 rfl rfl ?_
        refine gR (q := 63) dX11_walkers_60 gfX11_89 k0 r0_15 rfl rfl ?_
        refine gR (q := 66) dX11_walkers_63 gfX11_296 k68 r68_4 rfl rfl ?_
        refine Ev.iload_n (q := 67) dX11_walkers_66 rfl rfl ?_
        refine aI (q := 68) (k := p) dX11_walkers_67 k70 (by first | rfl | omega | (simp (disch := omega) only [w32_of]; omega)) (by omega) rfl ?_
        rw [e70]
        refine Ev.aload_n (q := 69) dX11_walkers_68 rfl rfl ?_
        refine gR (q := 72) dX11_walkers_69 gfX11_27 k0 r0_3 rfl rfl ?_
        refine gR (q := 75) dX11_walkers_72 gfX11_179 k33 r33_6 rfl rfl ?_
        refine Ev.iload_n (q := 76) dX11_walkers_75 rfl rfl ?_
        refine aI (q := 77) (k := p) dX11_walkers_76 k36 (by first | rfl | omega | (simp (disch := omega) only [w32_of]; omega)) (by omega) rfl ?_
        rw [e36]
        refine Ev.icmp_eq (tgt := 86) (q := 80) dX11_walkers_77 (by decide) rfl (fun h3 => ?_) (fun h3 => ?_)
        · skip
          refine iinc_3 (q := 89) dX11_walkers_86 rfl rfl rfl ?_
          refine Ev.goto (q := 35) dX11_walkers_89 (by decide) ?_
          have hq : ¬ wkQ g l p = true := by unfold wkQ; intro z; have z := of_decide_eq_true z; omega
          rw [w32_of (by omega) (by omega)]
          have hk9 := ih (p + 1) (by omega)
          rw [show setN (wkQ g l) (p + 1) = setN (wkQ g l) p by conv => lhs; unfold setN; rw [if_neg hq]] at hk9
          exact hk9
        · skip
          refine Ev.iload_n (q := 81) dX11_walkers_80 rfl rfl ?_
          refine Ev.iconst (q := 82) dX11_walkers_81 ki_1 rfl ?_
          refine Ev.iload_n (q := 83) dX11_walkers_82 rfl rfl ?_
          refine Ev.ishl (q := 84) dX11_walkers_83 rfl ?_
          refine Ev.ior (q := 85) dX11_walkers_84 rfl ?_
          refine istore_n_2 (q := 86) dX11_walkers_85 rfl rfl rfl ?_
          refine iinc_3 (q := 89) dX11_walkers_86 rfl rfl rfl ?_
          refine Ev.goto (q := 35) dX11_walkers_89 (by decide) ?_
          have hq : wkQ g l p = true := by unfold wkQ; exact decide_eq_true ⟨by omega, by omega⟩
          rw [ishl_1 p (by omega), ior_n (k := 12) h12 (two_lt (by omega)) (by decide), w32_of (by omega) (by omega)]
          have hk9 := ih (p + 1) (by omega)
          rw [show setN (wkQ g l) (p + 1) = setN (wkQ g l) p ||| 2 ^ p by conv => lhs; unfold setN; rw [if_pos hq]] at hk9
          exact hk9
set_option maxRecDepth 4000 in
theorem p_X11_walkers {Γ : Gm} {d : Nat} {m : Mem} (g : Row) (l : Int) (hI : HI g) (hH : HouR g m 33) (hN : NowR g m 44) : Ci Γ (d + 5) MX11_walkers [rv 0, iv l] m (fun r m' => r = q_walkers g l ∧ Fr sC m m') := by
  refine Ci.of moX11_walkers rfl rfl (fun hA hM => ?_)
  show Em Γ (d + 5) MX11_walkers _ 0 [rv 0, iv l, uv, uv] [] m
  have hF12 := hI.1
  have hP8 := hI.2.2.1
  have hL3 := hI.2.1
  obtain ⟨n0, n1, n2, n3⟩ := hH.n0
  refine Ev.aload_n (q := 1) dX11_walkers_0 rfl rfl ?_
  refine gR (q := 4) dX11_walkers_1 gfX11_27 k0 r0_3 rfl rfl ?_
  refine Ev.iload_n (q := 5) dX11_walkers_4 rfl rfl ?_
  refine cV1i (q := 8) (d' := d + 4) dX11_walkers_5 mlX11_135 moX1_hasLift mvX1_hasLift k33 rfl rfl rfl (Nat.le_refl _) rfl rfl rfl (p_X1_hasLift l) (fun r1 m1 e1 => ?_)
  obtain ⟨rfl, e1⟩ := e1
  obtain rfl := e1.symm
  rw [n2]
  refine Ev.if_ne (tgt := 14) (q := 11) dX11_walkers_8 (by decide) rfl (fun h2 => ?_) (fun h2 => ?_)
  · skip
    have hLLln : 0 ≤ l ∧ l < g 2 := by split at h2 <;> omega
    obtain ⟨ln, rfl⟩ : ∃ ln : Nat, l = ln := ⟨l.toNat, by omega⟩
    have hlln : (ln : Int) < g 2 := hLLln.2
    have qlln := hI.lift hlln
    have hlokln := hI.litOk hlln
    have hsln := hlokln.lt hI
    have a1ln : m 45 ln = g (60 + ln) := (hN.1 ln hlln).1
    have a2ln : m 46 ln = g (63 + ln) := (hN.1 ln hlln).2.1
    have a3ln : m 47 ln = ((litV g ln : Nat) : Int) := E47 hI hlln hN
    have a4ln : m 48 ln = g (69 + ln) := (hN.1 ln hlln).2.2.2
    refine Ev.aload_n (q := 15) dX11_walkers_14 rfl rfl ?_
    refine gR (q := 18) dX11_walkers_15 gfX11_89 k0 r0_15 rfl rfl ?_
    refine Ev.iload_n (q := 19) dX11_walkers_18 rfl rfl ?_
    refine Ev.aload_n (q := 20) dX11_walkers_19 rfl rfl ?_
    refine gR (q := 23) dX11_walkers_20 gfX11_34 k0 r0_4 rfl rfl ?_
    refine gR (q := 26) dX11_walkers_23 gfX11_146 k44 r44_2 rfl rfl ?_
    refine Ev.iload_n (q := 27) dX11_walkers_26 rfl rfl ?_
    refine aI (q := 28) (k := ln) dX11_walkers_27 k47 (by first | rfl | omega | (simp (disch := omega) only [w32_of]; omega)) (by omega) rfl ?_
    rw [a3ln]
    refine cV2v (q := 31) (d' := d + 4) dX11_walkers_28 mlX11_289 moX3_weigh mvX3_weigh k68 rfl rfl rfl (Nat.le_refl _) rfl rfl rfl (p_X3_weigh g ln (litV g ln) hI hlln hH hN hlokln) (fun r3 m3 e3 => ?_)
    obtain ⟨y1, y2, y3, y4⟩ := e3
    obtain ⟨M9, rfl⟩ : ∃ M9, M9 = m3 := ⟨_, rfl⟩
    refine Ev.iconst (q := 32) dX11_walkers_31 ki_0 rfl ?_
    refine istore_n_2 (q := 33) dX11_walkers_32 rfl rfl rfl ?_
    refine Ev.iconst (q := 34) dX11_walkers_33 ki_0 rfl ?_
    refine istore_n_3 (q := 35) dX11_walkers_34 rfl rfl rfl ?_
    refine (lc_walkers g hI (hH.c y4.CLi) (hN.c y4.CLi) ln y3 (g 3).toNat 0 (by omega)).imp ?_
    intro r9 m9 h9
    exact ⟨by rw [h9.1]; unfold q_walkers; rw [if_pos (by omega)]; rfl, by rw [h9.2]; exact y4.CLi⟩
  · skip
    have hLL : ¬ (0 ≤ l ∧ l < g 2) := by split at h2 <;> omega
    refine Ev.bipush (q := 13) dX11_walkers_11 kb_m2 rfl ?_
    refine rI dX11_walkers_13 rfl ?_
    exact ⟨by unfold q_walkers; rw [if_neg (by omega)], Fr.rf _ _⟩
set_option maxRecDepth 4000 in
theorem p_X11_waits {Γ : Gm} {d : Nat} {m : Mem} (g : Row) (p l : Int) (hI : HI g) (hH : HouR g m 33) (hN : NowR g m 44) : Ci Γ (d + 5) MX11_waits [rv 0, iv p, iv l] m (fun r m' => r = q_waits g p l ∧ Fr sC m m') := by
  refine Ci.of moX11_waits rfl rfl (fun hA hM => ?_)
  show Em Γ (d + 5) MX11_waits _ 0 [rv 0, iv p, iv l] [] m
  have hF12 := hI.1
  have hP8 := hI.2.2.1
  have hL3 := hI.2.1
  obtain ⟨n0, n1, n2, n3⟩ := hH.n0
  refine Ev.aload_n (q := 1) dX11_waits_0 rfl rfl ?_
  refine gR (q := 4) dX11_waits_1 gfX11_27 k0 r0_3 rfl rfl ?_
  refine Ev.iload_n (q := 5) dX11_waits_4 rfl rfl ?_
  refine cV1i (q := 8) (d' := d + 4) dX11_waits_5 mlX11_167 moX1_hasPerson mvX1_hasPerson k33 rfl rfl rfl (Nat.le_refl _) rfl rfl rfl (p_X1_hasPerson p) (fun r1 m1 e1 => ?_)
  obtain ⟨rfl, e1⟩ := e1
  obtain rfl := e1.symm
  rw [n3]
  refine Ev.if_eq (tgt := 22) (q := 11) dX11_waits_8 (by decide) rfl (fun h2 => ?_) (fun h2 => ?_)
  · skip
    have hPP : ¬ (0 ≤ p ∧ p < g 3) := by split at h2 <;> omega
    refine Ev.bipush (q := 24) dX11_waits_22 kb_m2 rfl ?_
    refine rI dX11_waits_24 rfl ?_
    exact ⟨by unfold q_waits; rw [if_neg (by omega)], Fr.rf _ _⟩
  · skip
    have hPP : 0 ≤ p ∧ p < g 3 := by split at h2 <;> omega
    obtain ⟨pn, rfl⟩ : ∃ pn : Nat, p = pn := ⟨p.toNat, by omega⟩
    have hppn : (pn : Int) < g 3 := hPP.2
    have qppn := hI.pers hppn
    have a5pn : m 49 pn = g (72 + pn) := (hN.2 pn hppn).1
    have a6pn : m 50 pn = g (80 + pn) := (hN.2 pn hppn).2.1
    have a7pn : m 51 pn = g (88 + pn) := (hN.2 pn hppn).2.2
    obtain ⟨b0pn, b1pn, b2pn, b3pn⟩ := hH.ho hppn
    refine Ev.aload_n (q := 12) dX11_waits_11 rfl rfl ?_
    refine gR (q := 15) dX11_waits_12 gfX11_27 k0 r0_3 rfl rfl ?_
    refine Ev.iload_n (q := 16) dX11_waits_15 rfl rfl ?_
    refine cV1i (q := 19) (d' := d + 4) dX11_waits_16 mlX11_135 moX1_hasLift mvX1_hasLift k33 rfl rfl rfl (Nat.le_refl _) rfl rfl rfl (p_X1_hasLift l) (fun r3 m3 e3 => ?_)
    obtain ⟨rfl, e3⟩ := e3
    obtain rfl := e3.symm
    rw [n2]
    refine Ev.if_ne (tgt := 25) (q := 22) dX11_waits_19 (by decide) rfl (fun h4 => ?_) (fun h4 => ?_)
    · skip
      have hLLln : 0 ≤ l ∧ l < g 2 := by split at h4 <;> omega
      obtain ⟨ln, rfl⟩ : ∃ ln : Nat, l = ln := ⟨l.toNat, by omega⟩
      have hlln : (ln : Int) < g 2 := hLLln.2
      have qlln := hI.lift hlln
      have hlokln := hI.litOk hlln
      have hsln := hlokln.lt hI
      have a1ln : m 45 ln = g (60 + ln) := (hN.1 ln hlln).1
      have a2ln : m 46 ln = g (63 + ln) := (hN.1 ln hlln).2.1
      have a3ln : m 47 ln = ((litV g ln : Nat) : Int) := E47 hI hlln hN
      have a4ln : m 48 ln = g (69 + ln) := (hN.1 ln hlln).2.2.2
      refine Ev.aload_n (q := 26) dX11_waits_25 rfl rfl ?_
      refine gR (q := 29) dX11_waits_26 gfX11_34 k0 r0_4 rfl rfl ?_
      refine gR (q := 32) dX11_waits_29 gfX11_176 k44 r44_6 rfl rfl ?_
      refine Ev.iload_n (q := 33) dX11_waits_32 rfl rfl ?_
      refine aI (q := 34) (k := pn) dX11_waits_33 k51 (by first | rfl | omega | (simp (disch := omega) only [w32_of]; omega)) (by omega) rfl ?_
      rw [a7pn]
      refine Ev.iconst (q := 35) dX11_waits_34 ki_m1 rfl ?_
      refine Ev.icmp_eq (tgt := 41) (q := 38) dX11_waits_35 (by decide) rfl (fun h5 => ?_) (fun h5 => ?_)
      · skip
        refine Ev.aload_n (q := 42) dX11_waits_41 rfl rfl ?_
        refine gR (q := 45) dX11_waits_42 gfX11_96 k0 r0_16 rfl rfl ?_
        refine Ev.iload_n (q := 46) dX11_waits_45 rfl rfl ?_
        refine Ev.iload_n (q := 47) dX11_waits_46 rfl rfl ?_
        refine cV2i (q := 50) (d' := d + 4) dX11_waits_47 mlX11_311 moX5_waitFor mvX5_waitFor k72 rfl rfl rfl (Nat.le_refl _) rfl rfl rfl (p_X5_waitFor g pn ln hI hppn hlln hH hN) (fun r6 m6 e6 => ?_)
        obtain ⟨e6, hfr⟩ := e6
        subst e6
        refine rI dX11_waits_50 rfl ?_
        exact ⟨by unfold q_waits; simp only [Int.toNat_natCast]; rw [if_pos (by omega), if_pos (by assumption)], hfr.CPl⟩
      · skip
        refine Ev.bipush (q := 40) dX11_waits_38 kb_m5 rfl ?_
        refine rI dX11_waits_40 rfl ?_
        exact ⟨by unfold q_waits; rw [if_pos (by omega), Int.toNat_natCast, if_neg (by assumption)], Fr.rf _ _⟩
    · skip
      have hLL : ¬ (0 ≤ l ∧ l < g 2) := by split at h4 <;> omega
      refine Ev.bipush (q := 24) dX11_waits_22 kb_m2 rfl ?_
      refine rI dX11_waits_24 rfl ?_
      exact ⟨by unfold q_waits; rw [if_neg (by omega)], Fr.rf _ _⟩
theorem chN_y {val : Nat → Int} {n l : Nat} {b s : Int} (h : val l < s) : chN val (n + 1) l b s = chN val n (l + 1) l (val l) := by conv => lhs; unfold chN; rw [if_pos h]
theorem chN_n {val : Nat → Int} {n l : Nat} {b s : Int} (h : ¬ val l < s) : chN val (n + 1) l b s = chN val n (l + 1) b s := by conv => lhs; unfold chN; rw [if_neg h]
set_option maxRecDepth 4000 in
theorem lc_choice {Γ : Gm} {d : Nat} {m0 : Mem} (g : Row) (hI : HI g) (hH : HouR g m0 33) (hN : NowR g m0 44) (p : Nat) (T : Int) (hp : (p : Int) < g 3) : ∀ (n l : Nat) (M : Mem) (b s : Int) (v5 : Vl), l + n = (g 2).toNat → Fr sPl m0 M → T = chN (waitV g p) n l b s → Em Γ (d + 5) MX11_choice (fun r m' => r = T ∧ Fr sC m0 m') 41 [rv 0, iv p, iv b, iv s, iv l, v5] [] M := by
  have hF12 := hI.1
  have hP8 := hI.2.2.1
  have hL3 := hI.2.1

  intro n
  induction n with
  | zero =>
    intro l M b s v5 hl hF hT
    have e33 : M 33 2 = g 2 := (hH.pl hF).n0.2.2.1
    refine Ev.iload (q := 43) dX11_choice_41 rfl rfl ?_
    refine Ev.aload_n (q := 44) dX11_choice_43 rfl rfl ?_
    refine gR (q := 47) dX11_choice_44 gfX11_27 k0 r0_3 rfl rfl ?_
    refine gI (q := 50) dX11_choice_47 gfX11_262 k33 rfl rfl ?_
    rw [e33]
    refine Ev.icmp_ge (tgt := 83) (q := 53) dX11_choice_50 (by decide) rfl (fun h1 => ?_) (fun h1 => ?_)
    · skip
      refine Ev.iload_n (q := 84) dX11_choice_83 rfl rfl ?_
      refine rI dX11_choice_84 rfl ?_
      exact ⟨by rw [hT]; rfl, hF.CPl⟩
    · skip
      omega
  | succ n ih =>
    intro l M b s v5 hl hF hT

    have e33 : M 33 2 = g 2 := (hH.pl hF).n0.2.2.1
    refine Ev.iload (q := 43) dX11_choice_41 rfl rfl ?_
    refine Ev.aload_n (q := 44) dX11_choice_43 rfl rfl ?_
    refine gR (q := 47) dX11_choice_44 gfX11_27 k0 r0_3 rfl rfl ?_
    refine gI (q := 50) dX11_choice_47 gfX11_262 k33 rfl rfl ?_
    rw [e33]
    refine Ev.icmp_ge (tgt := 83) (q := 53) dX11_choice_50 (by decide) rfl (fun h1 => ?_) (fun h1 => ?_)
    · skip
      omega
    · skip
      refine Ev.aload_n (q := 54) dX11_choice_53 rfl rfl ?_
      refine gR (q := 57) dX11_choice_54 gfX11_96 k0 r0_16 rfl rfl ?_
      refine Ev.iload_n (q := 58) dX11_choice_57 rfl rfl ?_
      refine Ev.iload (q := 60) dX11_choice_58 rfl rfl ?_
      refine cV2i (q := 63) (d' := d + 4) dX11_choice_60 mlX11_311 moX5_waitFor mvX5_waitFor k72 rfl rfl rfl (Nat.le_refl _) rfl rfl rfl (p_X5_waitFor g p l hI hp (by omega) (hH.pl hF) (hN.pl hF)) (fun r2 m2 e2 => ?_)
      obtain ⟨M9, rfl⟩ : ∃ M9, M9 = m2 := ⟨_, rfl⟩
      obtain ⟨y1, f9⟩ := e2
      subst y1
      refine istore_5 (q := 65) dX11_choice_63 rfl rfl rfl ?_
      refine Ev.iload (q := 67) dX11_choice_65 rfl rfl ?_
      refine Ev.iload_n (q := 68) dX11_choice_67 rfl rfl ?_
      refine Ev.icmp_ge (tgt := 77) (q := 71) dX11_choice_68 (by decide) rfl (fun h3 => ?_) (fun h3 => ?_)
      · skip
        refine iinc_4 (q := 80) dX11_choice_77 rfl rfl rfl ?_
        refine Ev.goto (q := 41) dX11_choice_80 (by decide) ?_
        rw [w32_of (by omega) (by omega)]
        exact ih (l + 1) M9 b s _ (by omega) (hF.tr f9) (by rw [hT, chN_n (by omega)])
      · skip
        refine Ev.iload (q := 73) dX11_choice_71 rfl rfl ?_
        refine istore_n_3 (q := 74) dX11_choice_73 rfl rfl rfl ?_
        refine Ev.iload (q := 76) dX11_choice_74 rfl rfl ?_
        refine istore_n_2 (q := 77) dX11_choice_76 rfl rfl rfl ?_
        refine iinc_4 (q := 80) dX11_choice_77 rfl rfl rfl ?_
        refine Ev.goto (q := 41) dX11_choice_80 (by decide) ?_
        rw [w32_of (by omega) (by omega)]
        exact ih (l + 1) M9 l _ _ (by omega) (hF.tr f9) (by rw [hT, chN_y (by omega)])
set_option maxRecDepth 4000 in
theorem p_X11_choice {Γ : Gm} {d : Nat} {m : Mem} (g : Row) (p : Int) (hI : HI g) (hH : HouR g m 33) (hN : NowR g m 44) : Ci Γ (d + 5) MX11_choice [rv 0, iv p] m (fun r m' => r = q_choice g p ∧ Fr sC m m') := by
  refine Ci.of moX11_choice rfl rfl (fun hA hM => ?_)
  show Em Γ (d + 5) MX11_choice _ 0 [rv 0, iv p, uv, uv, uv, uv] [] m
  have hF12 := hI.1
  have hP8 := hI.2.2.1
  have hL3 := hI.2.1
  obtain ⟨n0, n1, n2, n3⟩ := hH.n0
  refine Ev.aload_n (q := 1) dX11_choice_0 rfl rfl ?_
  refine gR (q := 4) dX11_choice_1 gfX11_27 k0 r0_3 rfl rfl ?_
  refine Ev.iload_n (q := 5) dX11_choice_4 rfl rfl ?_
  refine cV1i (q := 8) (d' := d + 4) dX11_choice_5 mlX11_167 moX1_hasPerson mvX1_hasPerson k33 rfl rfl rfl (Nat.le_refl _) rfl rfl rfl (p_X1_hasPerson p) (fun r1 m1 e1 => ?_)
  obtain ⟨rfl, e1⟩ := e1
  obtain rfl := e1.symm
  rw [n3]
  refine Ev.if_ne (tgt := 14) (q := 11) dX11_choice_8 (by decide) rfl (fun h2 => ?_) (fun h2 => ?_)
  · skip
    have hPP : 0 ≤ p ∧ p < g 3 := by split at h2 <;> omega
    obtain ⟨pn, rfl⟩ : ∃ pn : Nat, p = pn := ⟨p.toNat, by omega⟩
    have hppn : (pn : Int) < g 3 := hPP.2
    have qppn := hI.pers hppn
    have a5pn : m 49 pn = g (72 + pn) := (hN.2 pn hppn).1
    have a6pn : m 50 pn = g (80 + pn) := (hN.2 pn hppn).2.1
    have a7pn : m 51 pn = g (88 + pn) := (hN.2 pn hppn).2.2
    obtain ⟨b0pn, b1pn, b2pn, b3pn⟩ := hH.ho hppn
    refine Ev.aload_n (q := 15) dX11_choice_14 rfl rfl ?_
    refine gR (q := 18) dX11_choice_15 gfX11_34 k0 r0_4 rfl rfl ?_
    refine gR (q := 21) dX11_choice_18 gfX11_176 k44 r44_6 rfl rfl ?_
    refine Ev.iload_n (q := 22) dX11_choice_21 rfl rfl ?_
    refine aI (q := 23) (k := pn) dX11_choice_22 k51 (by first | rfl | omega | (simp (disch := omega) only [w32_of]; omega)) (by omega) rfl ?_
    rw [a7pn]
    refine Ev.iconst (q := 24) dX11_choice_23 ki_m1 rfl ?_
    refine Ev.icmp_eq (tgt := 30) (q := 27) dX11_choice_24 (by decide) rfl (fun h3 => ?_) (fun h3 => ?_)
    · skip
      refine Ev.iconst (q := 31) dX11_choice_30 ki_m1 rfl ?_
      refine istore_n_2 (q := 32) dX11_choice_31 rfl rfl rfl ?_
      refine Ev.aload_n (q := 33) dX11_choice_32 rfl rfl ?_
      refine Ev.iload_n (q := 34) dX11_choice_33 rfl rfl ?_
      refine cV1i (q := 37) (d' := d + 4) dX11_choice_34 mlX11_286 moX11_walkingHome mvX11_walkingHome k0 rfl rfl rfl (Nat.le_refl _) rfl rfl rfl (p_X11_walkingHome g pn hI hH hN hppn) (fun r4 m4 e4 => ?_)
      obtain ⟨rfl, e4⟩ := e4
      obtain rfl := e4.symm
      refine istore_n_3 (q := 38) dX11_choice_37 rfl rfl rfl ?_
      refine Ev.iconst (q := 39) dX11_choice_38 ki_0 rfl ?_
      refine istore_4 (q := 41) dX11_choice_39 rfl rfl rfl ?_
      refine lc_choice (m0 := m) g hI hH hN pn _ hppn (g 2).toNat 0 m _ _ uv (by omega) (Fr.rf _ _) ?_
      unfold q_choice
      simp only [Int.toNat_natCast]
      rw [if_pos (by omega), if_pos (by assumption), bestN_out (by assumption)]
    · skip
      refine Ev.bipush (q := 29) dX11_choice_27 kb_m5 rfl ?_
      refine rI dX11_choice_29 rfl ?_
      exact ⟨by unfold q_choice; rw [if_pos (by omega), Int.toNat_natCast, if_neg (by assumption)], Fr.rf _ _⟩
  · skip
    have hPP : ¬ (0 ≤ p ∧ p < g 3) := by split at h2 <;> omega
    refine Ev.bipush (q := 13) dX11_choice_11 kb_m2 rfl ?_
    refine rI dX11_choice_13 rfl ?_
    exact ⟨by unfold q_choice; rw [if_neg (by omega)], Fr.rf _ _⟩
set_option maxRecDepth 4000 in
theorem p_X11_least {Γ : Gm} {d : Nat} {m : Mem} (g : Row) (l what : Int) (hI : HI g) (hH : HouR g m 33) (hN : NowR g m 44) : Ci Γ (d + 7) MX11_least [rv 0, iv l, iv what] m (fun r m' => r = q_least g l what ∧ Fr sC m m') := by
  refine Ci.of moX11_least rfl rfl (fun hA hM => ?_)
  show Em Γ (d + 7) MX11_least _ 0 [rv 0, iv l, iv what, uv] [] m
  have hF12 := hI.1
  have hP8 := hI.2.2.1
  have hL3 := hI.2.1
  obtain ⟨n0, n1, n2, n3⟩ := hH.n0
  refine Ev.aload_n (q := 1) dX11_least_0 rfl rfl ?_
  refine gR (q := 4) dX11_least_1 gfX11_27 k0 r0_3 rfl rfl ?_
  refine Ev.iload_n (q := 5) dX11_least_4 rfl rfl ?_
  refine cV1i (q := 8) (d' := d + 6) dX11_least_5 mlX11_135 moX1_hasLift mvX1_hasLift k33 rfl rfl rfl (Nat.le_refl _) rfl rfl rfl (p_X1_hasLift l) (fun r1 m1 e1 => ?_)
  obtain ⟨rfl, e1⟩ := e1
  obtain rfl := e1.symm
  rw [n2]
  refine Ev.if_eq (tgt := 20) (q := 11) dX11_least_8 (by decide) rfl (fun h2 => ?_) (fun h2 => ?_)
  · skip
    have hLL : ¬ (0 ≤ l ∧ l < g 2) := by split at h2 <;> omega
    refine Ev.ldc2 (q := 23) dX11_least_20 klX11_306 klvX11_306 rfl ?_
    refine rJ dX11_least_23 rfl ?_
    exact ⟨by unfold q_least; rw [if_neg (by omega)], Fr.rf _ _⟩
  · skip
    have hLLln : 0 ≤ l ∧ l < g 2 := by split at h2 <;> omega
    obtain ⟨ln, rfl⟩ : ∃ ln : Nat, l = ln := ⟨l.toNat, by omega⟩
    have hlln : (ln : Int) < g 2 := hLLln.2
    have qlln := hI.lift hlln
    have hlokln := hI.litOk hlln
    have hsln := hlokln.lt hI
    have a1ln : m 45 ln = g (60 + ln) := (hN.1 ln hlln).1
    have a2ln : m 46 ln = g (63 + ln) := (hN.1 ln hlln).2.1
    have a3ln : m 47 ln = ((litV g ln : Nat) : Int) := E47 hI hlln hN
    have a4ln : m 48 ln = g (69 + ln) := (hN.1 ln hlln).2.2.2
    refine Ev.iload_n (q := 12) dX11_least_11 rfl rfl ?_
    refine Ev.if_lt (tgt := 20) (q := 15) dX11_least_12 (by decide) rfl (fun h3 => ?_) (fun h3 => ?_)
    · skip
      refine Ev.ldc2 (q := 23) dX11_least_20 klX11_306 klvX11_306 rfl ?_
      refine rJ dX11_least_23 rfl ?_
      exact ⟨by unfold q_least; rw [if_neg (by omega)], Fr.rf _ _⟩
    · skip
      refine Ev.iload_n (q := 16) dX11_least_15 rfl rfl ?_
      refine Ev.iconst (q := 17) dX11_least_16 ki_1 rfl ?_
      refine Ev.icmp_le (tgt := 24) (q := 20) dX11_least_17 (by decide) rfl (fun h4 => ?_) (fun h4 => ?_)
      · skip
        refine Ev.aload_n (q := 25) dX11_least_24 rfl rfl ?_
        refine gR (q := 28) dX11_least_25 gfX11_89 k0 r0_15 rfl rfl ?_
        refine Ev.iload_n (q := 29) dX11_least_28 rfl rfl ?_
        refine Ev.iconst (q := 30) dX11_least_29 ki_0 rfl ?_
        refine cV2i (q := 33) (d' := d + 6) dX11_least_30 mlX11_314 moX3_keptFor mvX3_keptFor k68 rfl rfl rfl (Nat.le_refl _) rfl rfl rfl (p_X3_keptFor_false g ln hI hlln hH hN) (fun r5 m5 e5 => ?_)
        obtain ⟨M9, rfl⟩ : ∃ M9, M9 = m5 := ⟨_, rfl⟩
        obtain ⟨y1, f9⟩ := e5
        subst y1
        refine istore_n_3 (q := 34) dX11_least_33 rfl rfl rfl ?_
        refine Ev.iload_n (q := 35) dX11_least_34 rfl rfl ?_
        refine Ev.iconst (q := 36) dX11_least_35 ki_1 rfl ?_
        refine Ev.icmp_ne (tgt := 44) (q := 39) dX11_least_36 (by decide) rfl (fun h6 => ?_) (fun h6 => ?_)
        · skip
          refine Ev.aload_n (q := 45) dX11_least_44 rfl rfl ?_
          refine gR (q := 48) dX11_least_45 gfX11_89 k0 r0_15 rfl rfl ?_
          refine Ev.iload_n (q := 49) dX11_least_48 rfl rfl ?_
          refine Ev.iload_n (q := 50) dX11_least_49 rfl rfl ?_
          refine cV2j (q := 53) (d' := d + 6) dX11_least_50 mlX11_302 moX3_sumWith mvX3_sumWith k68 rfl rfl rfl (Nat.le_refl _) rfl rfl rfl (p_X3_sumWith g ln (keptV g ln false) hI hlln (hH.c f9.CLi) (hN.c f9.CLi) (keptV_ok hI hlln false)) (fun r7 m7 e7 => ?_)
          obtain ⟨y1, y8, y9⟩ := e7
          subst y1
          refine rJ dX11_least_53 rfl ?_
          exact ⟨by unfold q_least; simp only [Int.toNat_natCast]; rw [if_pos (by omega), if_pos (by omega)], (f9.tr y9).CLi⟩
        · skip
          refine Ev.iload_n (q := 40) dX11_least_39 rfl rfl ?_
          refine Ev.i2l (q := 41) dX11_least_40 rfl ?_
          refine Ev.goto (q := 53) dX11_least_41 (by decide) ?_
          refine rJ dX11_least_53 rfl ?_
          exact ⟨by unfold q_least; simp only [Int.toNat_natCast]; rw [if_pos (by omega), if_neg (by omega)], f9.CLi⟩
      · skip
        refine Ev.ldc2 (q := 23) dX11_least_20 klX11_306 klvX11_306 rfl ?_
        refine rJ dX11_least_23 rfl ?_
        exact ⟨by unfold q_least; rw [if_neg (by omega)], Fr.rf _ _⟩
set_option maxRecDepth 4000 in
theorem p_X11_fairest {Γ : Gm} {d : Nat} {m : Mem} (g : Row) (l what : Int) (hI : HI g) (hH : HouR g m 33) (hN : NowR g m 44) : Ci Γ (d + 7) MX11_fairest [rv 0, iv l, iv what] m (fun r m' => r = q_fairest g l what ∧ Fr sC m m') := by
  refine Ci.of moX11_fairest rfl rfl (fun hA hM => ?_)
  show Em Γ (d + 7) MX11_fairest _ 0 [rv 0, iv l, iv what, uv] [] m
  have hF12 := hI.1
  have hP8 := hI.2.2.1
  have hL3 := hI.2.1
  obtain ⟨n0, n1, n2, n3⟩ := hH.n0
  refine Ev.aload_n (q := 1) dX11_fairest_0 rfl rfl ?_
  refine gR (q := 4) dX11_fairest_1 gfX11_27 k0 r0_3 rfl rfl ?_
  refine Ev.iload_n (q := 5) dX11_fairest_4 rfl rfl ?_
  refine cV1i (q := 8) (d' := d + 6) dX11_fairest_5 mlX11_135 moX1_hasLift mvX1_hasLift k33 rfl rfl rfl (Nat.le_refl _) rfl rfl rfl (p_X1_hasLift l) (fun r1 m1 e1 => ?_)
  obtain ⟨rfl, e1⟩ := e1
  obtain rfl := e1.symm
  rw [n2]
  refine Ev.if_eq (tgt := 20) (q := 11) dX11_fairest_8 (by decide) rfl (fun h2 => ?_) (fun h2 => ?_)
  · skip
    have hLL : ¬ (0 ≤ l ∧ l < g 2) := by split at h2 <;> omega
    refine Ev.bipush (q := 22) dX11_fairest_20 kb_m2 rfl ?_
    refine rI dX11_fairest_22 rfl ?_
    exact ⟨by unfold q_fairest; rw [if_neg (by omega)], Fr.rf _ _⟩
  · skip
    have hLLln : 0 ≤ l ∧ l < g 2 := by split at h2 <;> omega
    obtain ⟨ln, rfl⟩ : ∃ ln : Nat, l = ln := ⟨l.toNat, by omega⟩
    have hlln : (ln : Int) < g 2 := hLLln.2
    have qlln := hI.lift hlln
    have hlokln := hI.litOk hlln
    have hsln := hlokln.lt hI
    have a1ln : m 45 ln = g (60 + ln) := (hN.1 ln hlln).1
    have a2ln : m 46 ln = g (63 + ln) := (hN.1 ln hlln).2.1
    have a3ln : m 47 ln = ((litV g ln : Nat) : Int) := E47 hI hlln hN
    have a4ln : m 48 ln = g (69 + ln) := (hN.1 ln hlln).2.2.2
    refine Ev.iload_n (q := 12) dX11_fairest_11 rfl rfl ?_
    refine Ev.if_lt (tgt := 20) (q := 15) dX11_fairest_12 (by decide) rfl (fun h3 => ?_) (fun h3 => ?_)
    · skip
      refine Ev.bipush (q := 22) dX11_fairest_20 kb_m2 rfl ?_
      refine rI dX11_fairest_22 rfl ?_
      exact ⟨by unfold q_fairest; rw [if_neg (by omega)], Fr.rf _ _⟩
    · skip
      refine Ev.iload_n (q := 16) dX11_fairest_15 rfl rfl ?_
      refine Ev.iconst (q := 17) dX11_fairest_16 ki_1 rfl ?_
      refine Ev.icmp_le (tgt := 23) (q := 20) dX11_fairest_17 (by decide) rfl (fun h4 => ?_) (fun h4 => ?_)
      · skip
        refine Ev.aload_n (q := 24) dX11_fairest_23 rfl rfl ?_
        refine gR (q := 27) dX11_fairest_24 gfX11_89 k0 r0_15 rfl rfl ?_
        refine Ev.iload_n (q := 28) dX11_fairest_27 rfl rfl ?_
        refine Ev.iconst (q := 29) dX11_fairest_28 ki_1 rfl ?_
        refine cV2i (q := 32) (d' := d + 6) dX11_fairest_29 mlX11_314 moX3_keptFor mvX3_keptFor k68 rfl rfl rfl (Nat.le_refl _) rfl rfl rfl (p_X3_keptFor_true g ln hI hlln hH hN) (fun r5 m5 e5 => ?_)
        obtain ⟨M9, rfl⟩ : ∃ M9, M9 = m5 := ⟨_, rfl⟩
        obtain ⟨y1, f9⟩ := e5
        subst y1
        refine istore_n_3 (q := 33) dX11_fairest_32 rfl rfl rfl ?_
        refine Ev.iload_n (q := 34) dX11_fairest_33 rfl rfl ?_
        refine Ev.iconst (q := 35) dX11_fairest_34 ki_1 rfl ?_
        refine Ev.icmp_ne (tgt := 42) (q := 38) dX11_fairest_35 (by decide) rfl (fun h6 => ?_) (fun h6 => ?_)
        · skip
          refine Ev.aload_n (q := 43) dX11_fairest_42 rfl rfl ?_
          refine gR (q := 46) dX11_fairest_43 gfX11_89 k0 r0_15 rfl rfl ?_
          refine Ev.iload_n (q := 47) dX11_fairest_46 rfl rfl ?_
          refine Ev.iload_n (q := 48) dX11_fairest_47 rfl rfl ?_
          refine cV2i (q := 51) (d' := d + 6) dX11_fairest_48 mlX11_308 moX3_lastWith mvX3_lastWith k68 rfl rfl rfl (Nat.le_refl _) rfl rfl rfl (p_X3_lastWith g ln (keptV g ln true) hI hlln (hH.c f9.CLi) (hN.c f9.CLi) (keptV_ok hI hlln true)) (fun r7 m7 e7 => ?_)
          obtain ⟨y1, y8, y9⟩ := e7
          subst y1
          refine rI dX11_fairest_51 rfl ?_
          exact ⟨by unfold q_fairest; simp only [Int.toNat_natCast]; rw [if_pos (by omega), if_pos (by omega)], (f9.tr y9).CLi⟩
        · skip
          refine Ev.iload_n (q := 39) dX11_fairest_38 rfl rfl ?_
          refine Ev.goto (q := 51) dX11_fairest_39 (by decide) ?_
          refine rI dX11_fairest_51 rfl ?_
          exact ⟨by unfold q_fairest; simp only [Int.toNat_natCast]; rw [if_pos (by omega), if_neg (by omega)], f9.CLi⟩
      · skip
        refine Ev.bipush (q := 22) dX11_fairest_20 kb_m2 rfl ?_
        refine rI dX11_fairest_22 rfl ?_
        exact ⟨by unfold q_fairest; rw [if_neg (by omega)], Fr.rf _ _⟩
set_option maxRecDepth 4000 in
theorem p_X11_costs {Γ : Gm} {d : Nat} {m : Mem} (g : Row) (l f : Int) (hI : HI g) (hH : HouR g m 33) (hN : NowR g m 44) : Ci Γ (d + 6) MX11_costs [rv 0, iv l, iv f] m (fun r m' => r = q_costs g l f ∧ Fr sC m m') := by
  refine Ci.of moX11_costs rfl rfl (fun hA hM => ?_)
  show Em Γ (d + 6) MX11_costs _ 0 [rv 0, iv l, iv f] [] m
  have hF12 := hI.1
  have hP8 := hI.2.2.1
  have hL3 := hI.2.1
  obtain ⟨n0, n1, n2, n3⟩ := hH.n0
  refine Ev.aload_n (q := 1) dX11_costs_0 rfl rfl ?_
  refine gR (q := 4) dX11_costs_1 gfX11_27 k0 r0_3 rfl rfl ?_
  refine Ev.iload_n (q := 5) dX11_costs_4 rfl rfl ?_
  refine cV1i (q := 8) (d' := d + 5) dX11_costs_5 mlX11_135 moX1_hasLift mvX1_hasLift k33 rfl rfl rfl (Nat.le_refl _) rfl rfl rfl (p_X1_hasLift l) (fun r1 m1 e1 => ?_)
  obtain ⟨rfl, e1⟩ := e1
  obtain rfl := e1.symm
  rw [n2]
  refine Ev.if_eq (tgt := 34) (q := 11) dX11_costs_8 (by decide) rfl (fun h2 => ?_) (fun h2 => ?_)
  · skip
    have hLL : ¬ (0 ≤ l ∧ l < g 2) := by split at h2 <;> omega
    refine Ev.ldc2 (q := 37) dX11_costs_34 klX11_322 klvX11_322 rfl ?_
    refine rJ dX11_costs_37 rfl ?_
    exact ⟨by unfold q_costs; rw [if_neg (by omega)], Fr.rf _ _⟩
  · skip
    have hLLln : 0 ≤ l ∧ l < g 2 := by split at h2 <;> omega
    obtain ⟨ln, rfl⟩ : ∃ ln : Nat, l = ln := ⟨l.toNat, by omega⟩
    have hlln : (ln : Int) < g 2 := hLLln.2
    have qlln := hI.lift hlln
    have hlokln := hI.litOk hlln
    have hsln := hlokln.lt hI
    have a1ln : m 45 ln = g (60 + ln) := (hN.1 ln hlln).1
    have a2ln : m 46 ln = g (63 + ln) := (hN.1 ln hlln).2.1
    have a3ln : m 47 ln = ((litV g ln : Nat) : Int) := E47 hI hlln hN
    have a4ln : m 48 ln = g (69 + ln) := (hN.1 ln hlln).2.2.2
    refine Ev.aload_n (q := 12) dX11_costs_11 rfl rfl ?_
    refine gR (q := 15) dX11_costs_12 gfX11_27 k0 r0_3 rfl rfl ?_
    refine Ev.iload_n (q := 16) dX11_costs_15 rfl rfl ?_
    refine cV1i (q := 19) (d' := d + 5) dX11_costs_16 mlX11_191 moX1_hasFloor mvX1_hasFloor k33 rfl rfl rfl (Nat.le_refl _) rfl rfl rfl (p_X1_hasFloor f) (fun r3 m3 e3 => ?_)
    obtain ⟨rfl, e3⟩ := e3
    obtain rfl := e3.symm
    rw [n0]
    refine Ev.if_eq (tgt := 34) (q := 22) dX11_costs_19 (by decide) rfl (fun h4 => ?_) (fun h4 => ?_)
    · skip
      have hFF : ¬ (0 ≤ f ∧ f < g 1) := by split at h4 <;> omega
      refine Ev.ldc2 (q := 37) dX11_costs_34 klX11_322 klvX11_322 rfl ?_
      refine rJ dX11_costs_37 rfl ?_
      exact ⟨by unfold q_costs; rw [if_neg (by omega)], Fr.rf _ _⟩
    · skip
      have hFFfn : 0 ≤ f ∧ f < g 1 := by split at h4 <;> omega
      obtain ⟨fn, rfl⟩ : ∃ fn : Nat, f = fn := ⟨f.toNat, by omega⟩
      have hffn : (fn : Int) < g 1 := hFFfn.2
      refine Ev.aload_n (q := 23) dX11_costs_22 rfl rfl ?_
      refine gR (q := 26) dX11_costs_23 gfX11_34 k0 r0_4 rfl rfl ?_
      refine Ev.iload_n (q := 27) dX11_costs_26 rfl rfl ?_
      refine Ev.iload_n (q := 28) dX11_costs_27 rfl rfl ?_
      refine cV2i (q := 31) (d' := d + 5) dX11_costs_28 mlX11_318 moX4_isLit mvX4_isLit k44 rfl rfl rfl (Nat.le_refl _) rfl rfl rfl (p_X4_isLit 44 ln fn (litV g ln) (by decide) (by omega) (by omega) a3ln hsln) (fun r5 m5 e5 => ?_)
      obtain ⟨rfl, e5⟩ := e5
      obtain rfl := e5.symm
      refine Ev.if_ne (tgt := 38) (q := 34) dX11_costs_31 (by decide) rfl (fun h6 => ?_) (fun h6 => ?_)
      · skip
        have hb : (litV g ln).testBit fn = true := by split at h6 <;> first | assumption | omega
        refine Ev.aload_n (q := 39) dX11_costs_38 rfl rfl ?_
        refine gR (q := 42) dX11_costs_39 gfX11_89 k0 r0_15 rfl rfl ?_
        refine Ev.iload_n (q := 43) dX11_costs_42 rfl rfl ?_
        refine Ev.aload_n (q := 44) dX11_costs_43 rfl rfl ?_
        refine gR (q := 47) dX11_costs_44 gfX11_34 k0 r0_4 rfl rfl ?_
        refine gR (q := 50) dX11_costs_47 gfX11_146 k44 r44_2 rfl rfl ?_
        refine Ev.iload_n (q := 51) dX11_costs_50 rfl rfl ?_
        refine aI (q := 52) (k := ln) dX11_costs_51 k47 (by first | rfl | omega | (simp (disch := omega) only [w32_of]; omega)) (by omega) rfl ?_
        rw [a3ln]
        refine cV2j (q := 55) (d' := d + 5) dX11_costs_52 mlX11_302 moX3_sumWith mvX3_sumWith k68 rfl rfl rfl (Nat.le_refl _) rfl rfl rfl (p_X3_sumWith g ln (litV g ln) hI hlln hH hN hlokln) (fun r7 m7 e7 => ?_)
        obtain ⟨M9, rfl⟩ : ∃ M9, M9 = m7 := ⟨_, rfl⟩
        obtain ⟨y1, y8, y9⟩ := e7
        subst y1
        refine Ev.aload_n (q := 56) dX11_costs_55 rfl rfl ?_
        refine gR (q := 59) dX11_costs_56 gfX11_89 k0 r0_15 rfl rfl ?_
        refine Ev.iload_n (q := 60) dX11_costs_59 rfl rfl ?_
        refine Ev.aload_n (q := 61) dX11_costs_60 rfl rfl ?_
        refine gR (q := 64) dX11_costs_61 gfX11_34 k0 r0_4 rfl rfl ?_
        refine gR (q := 67) dX11_costs_64 gfX11_146 k44 r44_2 rfl rfl ?_
        refine Ev.iload_n (q := 68) dX11_costs_67 rfl rfl ?_
        refine aI (q := 69) (k := ln) dX11_costs_68 k47 (by first | rfl | omega | (simp (disch := omega) only [w32_of]; omega)) (by omega) rfl ?_
        rw [show M9 47 ln = ((litV g ln : Nat) : Int) by rw [y9 47 ln rfl]; exact a3ln]
        refine Ev.iconst (q := 70) dX11_costs_69 ki_1 rfl ?_
        refine Ev.iload_n (q := 71) dX11_costs_70 rfl rfl ?_
        refine Ev.ishl (q := 72) dX11_costs_71 rfl ?_
        refine Ev.ixor (q := 73) dX11_costs_72 rfl ?_
        rw [xor_lit hsln (by omega) hb]
        refine cV2j (q := 76) (d' := d + 5) dX11_costs_73 mlX11_302 moX3_sumWith mvX3_sumWith k68 rfl rfl rfl (Nat.le_refl _) rfl rfl rfl (p_X3_sumWith g ln (dif (litV g ln) (2 ^ fn)) hI hlln (hH.c y9.CLi) (hN.c y9.CLi) (litOk_dif hlokln)) (fun r8 m8 e8 => ?_)
        obtain ⟨z1, z8, z9⟩ := e8
        subst z1
        refine Ev.lsub (q := 77) dX11_costs_76 rfl ?_
        refine rJ dX11_costs_77 rfl ?_
        exact ⟨by unfold q_costs; simp only [Int.toNat_natCast]; rw [if_pos ⟨by omega, by omega, hb⟩], (y9.tr z9).CLi⟩
      · skip
        have hb : ¬ (litV g ln).testBit fn = true := by split at h6 <;> first | omega | assumption
        refine Ev.ldc2 (q := 37) dX11_costs_34 klX11_322 klvX11_322 rfl ?_
        refine rJ dX11_costs_37 rfl ?_
        exact ⟨by unfold q_costs; rw [if_neg (fun z => hb z.2.2)], Fr.rf _ _⟩
theorem fs_true {g : Row} {l : Nat} (h : litOk g l (litV g l)) (f : Nat) : ((litV g l).testBit f = true ↔ ¬ ((litV g l).testBit f ≠ true ∨ f = (g (60 + l)).toNat)) := by
  refine ⟨fun z y => ?_, fun z => Classical.byContradiction (fun y => z (Or.inl y))⟩
  rcases y with y | y
  · exact y z
  · rw [y, h.2] at z; cases z
theorem freS_bit {g : Row} {l : Nat} {f : Nat} (hf : f < (g 1).toNat) : ((freS g l).testBit f = true ↔ ¬ ((litV g l).testBit f ≠ false ∨ f = (g (60 + l)).toNat)) := by
  unfold freS
  rw [dif_bit, dif_bit, Nat.testBit_two_pow_sub_one, Nat.testBit_two_pow, decide_eq_true hf]
  cases (litV g l).testBit f
  · by_cases e : (g (60 + l)).toNat = f
    · simp [e]
    · simp [e, fun z : f = (g (60 + l)).toNat => e z.symm]
      exact fun z => e z.symm
  · simp
set_option maxRecDepth 4000 in
theorem p_X11_worstLight {Γ : Gm} {d : Nat} {m : Mem} (g : Row) (l : Int) (hI : HI g) (hH : HouR g m 33) (hN : NowR g m 44) : Ci Γ (d + 7) MX11_worstLight [rv 0, iv l] m (fun r m' => r = q_worst g l ∧ Fr sC m m') := by
  refine Ci.of moX11_worstLight rfl rfl (fun hA hM => ?_)
  show Em Γ (d + 7) MX11_worstLight _ 0 [rv 0, iv l] [] m
  have hF12 := hI.1
  have hP8 := hI.2.2.1
  have hL3 := hI.2.1
  obtain ⟨n0, n1, n2, n3⟩ := hH.n0
  refine Ev.aload_n (q := 1) dX11_worstLight_0 rfl rfl ?_
  refine gR (q := 4) dX11_worstLight_1 gfX11_27 k0 r0_3 rfl rfl ?_
  refine Ev.iload_n (q := 5) dX11_worstLight_4 rfl rfl ?_
  refine cV1i (q := 8) (d' := d + 6) dX11_worstLight_5 mlX11_135 moX1_hasLift mvX1_hasLift k33 rfl rfl rfl (Nat.le_refl _) rfl rfl rfl (p_X1_hasLift l) (fun r1 m1 e1 => ?_)
  obtain ⟨rfl, e1⟩ := e1
  obtain rfl := e1.symm
  rw [n2]
  refine Ev.if_eq (tgt := 31) (q := 11) dX11_worstLight_8 (by decide) rfl (fun h2 => ?_) (fun h2 => ?_)
  · skip
    have hLL : ¬ (0 ≤ l ∧ l < g 2) := by split at h2 <;> omega
    refine Ev.bipush (q := 33) dX11_worstLight_31 kb_m2 rfl ?_
    refine rI dX11_worstLight_33 rfl ?_
    exact ⟨by unfold q_worst; rw [if_neg (by omega)], Fr.rf _ _⟩
  · skip
    have hLLln : 0 ≤ l ∧ l < g 2 := by split at h2 <;> omega
    obtain ⟨ln, rfl⟩ : ∃ ln : Nat, l = ln := ⟨l.toNat, by omega⟩
    have hlln : (ln : Int) < g 2 := hLLln.2
    have qlln := hI.lift hlln
    have hlokln := hI.litOk hlln
    have hsln := hlokln.lt hI
    have a1ln : m 45 ln = g (60 + ln) := (hN.1 ln hlln).1
    have a2ln : m 46 ln = g (63 + ln) := (hN.1 ln hlln).2.1
    have a3ln : m 47 ln = ((litV g ln : Nat) : Int) := E47 hI hlln hN
    have a4ln : m 48 ln = g (69 + ln) := (hN.1 ln hlln).2.2.2
    refine Ev.aload_n (q := 12) dX11_worstLight_11 rfl rfl ?_
    refine gR (q := 15) dX11_worstLight_12 gfX11_89 k0 r0_15 rfl rfl ?_
    refine Ev.iload_n (q := 16) dX11_worstLight_15 rfl rfl ?_
    refine Ev.aload_n (q := 17) dX11_worstLight_16 rfl rfl ?_
    refine gR (q := 20) dX11_worstLight_17 gfX11_34 k0 r0_4 rfl rfl ?_
    refine gR (q := 23) dX11_worstLight_20 gfX11_146 k44 r44_2 rfl rfl ?_
    refine Ev.iload_n (q := 24) dX11_worstLight_23 rfl rfl ?_
    refine aI (q := 25) (k := ln) dX11_worstLight_24 k47 (by first | rfl | omega | (simp (disch := omega) only [w32_of]; omega)) (by omega) rfl ?_
    rw [a3ln]
    refine cV2i (q := 28) (d' := d + 6) dX11_worstLight_25 mlX11_324 moX3_toTurn mvX3_toTurn k68 rfl rfl rfl (Nat.le_refl _) rfl rfl rfl (p_X3_toTurn g ln (litV g ln) true hI hlln hH hN hsln (fun f _ => fs_true hlokln f)) (fun r3 m3 e3 => ?_)
    obtain ⟨y1, y9⟩ := e3
    subst y1
    refine Ev.goto (q := 33) dX11_worstLight_28 (by decide) ?_
    refine rI dX11_worstLight_33 rfl ?_
    exact ⟨by unfold q_worst; rw [if_pos (by omega)]; rfl, y9.CLi⟩
set_option maxRecDepth 4000 in
theorem p_X11_bestLight {Γ : Gm} {d : Nat} {m : Mem} (g : Row) (l : Int) (hI : HI g) (hH : HouR g m 33) (hN : NowR g m 44) : Ci Γ (d + 7) MX11_bestLight [rv 0, iv l] m (fun r m' => r = q_bestL g l ∧ Fr sC m m') := by
  refine Ci.of moX11_bestLight rfl rfl (fun hA hM => ?_)
  show Em Γ (d + 7) MX11_bestLight _ 0 [rv 0, iv l] [] m
  have hF12 := hI.1
  have hP8 := hI.2.2.1
  have hL3 := hI.2.1
  obtain ⟨n0, n1, n2, n3⟩ := hH.n0
  refine Ev.aload_n (q := 1) dX11_bestLight_0 rfl rfl ?_
  refine gR (q := 4) dX11_bestLight_1 gfX11_27 k0 r0_3 rfl rfl ?_
  refine Ev.iload_n (q := 5) dX11_bestLight_4 rfl rfl ?_
  refine cV1i (q := 8) (d' := d + 6) dX11_bestLight_5 mlX11_135 moX1_hasLift mvX1_hasLift k33 rfl rfl rfl (Nat.le_refl _) rfl rfl rfl (p_X1_hasLift l) (fun r1 m1 e1 => ?_)
  obtain ⟨rfl, e1⟩ := e1
  obtain rfl := e1.symm
  rw [n2]
  refine Ev.if_eq (tgt := 30) (q := 11) dX11_bestLight_8 (by decide) rfl (fun h2 => ?_) (fun h2 => ?_)
  · skip
    have hLL : ¬ (0 ≤ l ∧ l < g 2) := by split at h2 <;> omega
    refine Ev.bipush (q := 32) dX11_bestLight_30 kb_m2 rfl ?_
    refine rI dX11_bestLight_32 rfl ?_
    exact ⟨by unfold q_bestL; rw [if_neg (by omega)], Fr.rf _ _⟩
  · skip
    have hLLln : 0 ≤ l ∧ l < g 2 := by split at h2 <;> omega
    obtain ⟨ln, rfl⟩ : ∃ ln : Nat, l = ln := ⟨l.toNat, by omega⟩
    have hlln : (ln : Int) < g 2 := hLLln.2
    have qlln := hI.lift hlln
    have hlokln := hI.litOk hlln
    have hsln := hlokln.lt hI
    have a1ln : m 45 ln = g (60 + ln) := (hN.1 ln hlln).1
    have a2ln : m 46 ln = g (63 + ln) := (hN.1 ln hlln).2.1
    have a3ln : m 47 ln = ((litV g ln : Nat) : Int) := E47 hI hlln hN
    have a4ln : m 48 ln = g (69 + ln) := (hN.1 ln hlln).2.2.2
    refine Ev.aload_n (q := 12) dX11_bestLight_11 rfl rfl ?_
    refine gR (q := 15) dX11_bestLight_12 gfX11_89 k0 r0_15 rfl rfl ?_
    refine Ev.iload_n (q := 16) dX11_bestLight_15 rfl rfl ?_
    refine Ev.aload_n (q := 17) dX11_bestLight_16 rfl rfl ?_
    refine gR (q := 20) dX11_bestLight_17 gfX11_89 k0 r0_15 rfl rfl ?_
    refine Ev.iload_n (q := 21) dX11_bestLight_20 rfl rfl ?_
    refine cV1i (q := 24) (d' := d + 6) dX11_bestLight_21 mlX11_327 moX3_unlit mvX3_unlit k68 rfl rfl rfl (Nat.le_refl _) rfl rfl rfl (p_X3_unlit g ln hI hlln hH hN) (fun r3 m3 e3 => ?_)
    obtain ⟨rfl, e3⟩ := e3
    obtain rfl := e3.symm
    refine cV2i (q := 27) (d' := d + 6) dX11_bestLight_24 mlX11_324 moX3_toTurn mvX3_toTurn k68 rfl rfl rfl (Nat.le_refl _) rfl rfl rfl (p_X3_toTurn g ln (freS g ln) false hI hlln hH hN (litOk.lt hI (show litOk g ln (freS g ln) from freS_ok hI hlln)) (fun f hf => freS_bit (by omega))) (fun r4 m4 e4 => ?_)
    obtain ⟨y1, y9⟩ := e4
    subst y1
    refine Ev.goto (q := 32) dX11_bestLight_27 (by decide) ?_
    refine rI dX11_bestLight_32 rfl ?_
    exact ⟨by unfold q_bestL; rw [if_pos (by omega)]; rfl, y9.CLi⟩
set_option maxRecDepth 4000 in
theorem p_X11_boy {Γ : Gm} {d : Nat} {m : Mem} (g : Row) (l n what : Int) (hI : HI g) (hH : HouR g m 33) (hN : NowR g m 44) : Ci Γ (d + 7) MX11_boy [rv 0, iv l, iv n, iv what] m (fun r m' => r = q_boy g l n what ∧ Fr sC m m') := by
  refine Ci.of moX11_boy rfl rfl (fun hA hM => ?_)
  show Em Γ (d + 7) MX11_boy _ 0 [rv 0, iv l, iv n, iv what] [] m
  have hF12 := hI.1
  have hP8 := hI.2.2.1
  have hL3 := hI.2.1
  obtain ⟨n0, n1, n2, n3⟩ := hH.n0
  refine Ev.aload_n (q := 1) dX11_boy_0 rfl rfl ?_
  refine gR (q := 4) dX11_boy_1 gfX11_27 k0 r0_3 rfl rfl ?_
  refine Ev.iload_n (q := 5) dX11_boy_4 rfl rfl ?_
  refine cV1i (q := 8) (d' := d + 6) dX11_boy_5 mlX11_135 moX1_hasLift mvX1_hasLift k33 rfl rfl rfl (Nat.le_refl _) rfl rfl rfl (p_X1_hasLift l) (fun r1 m1 e1 => ?_)
  obtain ⟨rfl, e1⟩ := e1
  obtain rfl := e1.symm
  rw [n2]
  refine Ev.if_eq (tgt := 20) (q := 11) dX11_boy_8 (by decide) rfl (fun h2 => ?_) (fun h2 => ?_)
  · skip
    have hLL : ¬ (0 ≤ l ∧ l < g 2) := by split at h2 <;> omega
    refine Ev.ldc2 (q := 23) dX11_boy_20 klX11_322 klvX11_322 rfl ?_
    refine rJ dX11_boy_23 rfl ?_
    exact ⟨by unfold q_boy; rw [if_neg (by omega)], Fr.rf _ _⟩
  · skip
    have hLLln : 0 ≤ l ∧ l < g 2 := by split at h2 <;> omega
    obtain ⟨ln, rfl⟩ : ∃ ln : Nat, l = ln := ⟨l.toNat, by omega⟩
    have hlln : (ln : Int) < g 2 := hLLln.2
    have qlln := hI.lift hlln
    have hlokln := hI.litOk hlln
    have hsln := hlokln.lt hI
    have a1ln : m 45 ln = g (60 + ln) := (hN.1 ln hlln).1
    have a2ln : m 46 ln = g (63 + ln) := (hN.1 ln hlln).2.1
    have a3ln : m 47 ln = ((litV g ln : Nat) : Int) := E47 hI hlln hN
    have a4ln : m 48 ln = g (69 + ln) := (hN.1 ln hlln).2.2.2
    have hfr : litOk g ln (freS g ln) := freS_ok hI hlln
    have hpf := pop_lt hfr.2 (by omega)
    refine Ev.iload_n (q := 12) dX11_boy_11 rfl rfl ?_
    refine Ev.if_lt (tgt := 20) (q := 15) dX11_boy_12 (by decide) rfl (fun h3 => ?_) (fun h3 => ?_)
    · skip
      refine Ev.ldc2 (q := 23) dX11_boy_20 klX11_322 klvX11_322 rfl ?_
      refine rJ dX11_boy_23 rfl ?_
      exact ⟨by unfold q_boy; rw [if_neg (by omega)], Fr.rf _ _⟩
    · skip
      refine Ev.iload_n (q := 16) dX11_boy_15 rfl rfl ?_
      refine Ev.iconst (q := 17) dX11_boy_16 ki_1 rfl ?_
      refine Ev.icmp_le (tgt := 24) (q := 20) dX11_boy_17 (by decide) rfl (fun h4 => ?_) (fun h4 => ?_)
      · skip
        refine Ev.iload_n (q := 25) dX11_boy_24 rfl rfl ?_
        refine Ev.if_lt (tgt := 43) (q := 28) dX11_boy_25 (by decide) rfl (fun h5 => ?_) (fun h5 => ?_)
        · skip
          refine Ev.ldc2 (q := 46) dX11_boy_43 klX11_322 klvX11_322 rfl ?_
          refine rJ dX11_boy_46 rfl ?_
          exact ⟨by unfold q_boy; simp only [Int.toNat_natCast]; rw [if_neg (by omega)], Fr.rf _ _⟩
        · skip
          refine Ev.iload_n (q := 29) dX11_boy_28 rfl rfl ?_
          refine Ev.aload_n (q := 30) dX11_boy_29 rfl rfl ?_
          refine gR (q := 33) dX11_boy_30 gfX11_89 k0 r0_15 rfl rfl ?_
          refine Ev.iload_n (q := 34) dX11_boy_33 rfl rfl ?_
          refine cV1i (q := 37) (d' := d + 6) dX11_boy_34 mlX11_327 moX3_unlit mvX3_unlit k68 rfl rfl rfl (Nat.le_refl _) rfl rfl rfl (p_X3_unlit g ln hI hlln hH hN) (fun r6 m6 e6 => ?_)
          obtain ⟨rfl, e6⟩ := e6
          obtain rfl := e6.symm
          refine cS1i (q := 40) (d' := d + 6) dX11_boy_37 mlX11_214 moJ6_bitCount_0f7a4 msJ6_bitCount_0f7a4 rfl rfl (Nat.le_refl _) rfl rfl rfl (p_J6_bitCount_0f7a4 (freS g ln) (hfr.lt hI)) (fun r7 m7 e7 => ?_)
          obtain ⟨rfl, e7⟩ := e7
          obtain rfl := e7.symm
          refine Ev.icmp_le (tgt := 47) (q := 43) dX11_boy_40 (by decide) rfl (fun h8 => ?_) (fun h8 => ?_)
          · skip
            obtain ⟨nn, rfl⟩ : ∃ nn : Nat, n = nn := ⟨n.toNat, by omega⟩
            refine Ev.aload_n (q := 48) dX11_boy_47 rfl rfl ?_
            refine gR (q := 51) dX11_boy_48 gfX11_89 k0 r0_15 rfl rfl ?_
            refine Ev.iload_n (q := 52) dX11_boy_51 rfl rfl ?_
            refine Ev.iload_n (q := 53) dX11_boy_52 rfl rfl ?_
            refine cV2v (q := 56) (d' := d + 6) dX11_boy_53 mlX11_330 moX3_letBoyPress mvX3_letBoyPress k68 rfl rfl rfl (Nat.le_refl _) rfl rfl rfl (p_X3_letBoyPress g ln nn hI hlln hH hN (by omega)) (fun r9 m9 e9 => ?_)
            obtain ⟨y7, y8, y9⟩ := e9
            refine Ev.iload_n (q := 57) dX11_boy_56 rfl rfl ?_
            refine Ev.if_ne (tgt := 70) (q := 60) dX11_boy_57 (by decide) rfl (fun h10 => ?_) (fun h10 => ?_)
            · skip
              refine Ev.aload_n (q := 71) dX11_boy_70 rfl rfl ?_
              refine gR (q := 74) dX11_boy_71 gfX11_89 k0 r0_15 rfl rfl ?_
              refine gJ (q := 77) dX11_boy_74 gfX11_337 k68 rfl rfl ?_
              refine rJ dX11_boy_77 rfl ?_
              rw [y8]
              exact ⟨by unfold q_boy; simp only [Int.toNat_natCast]; rw [if_pos (by omega), if_neg (by omega)], y9.CLi⟩
            · skip
              refine Ev.aload_n (q := 61) dX11_boy_60 rfl rfl ?_
              refine gR (q := 64) dX11_boy_61 gfX11_89 k0 r0_15 rfl rfl ?_
              refine gJ (q := 67) dX11_boy_64 gfX11_333 k68 rfl rfl ?_
              refine Ev.goto (q := 77) dX11_boy_67 (by decide) ?_
              refine rJ dX11_boy_77 rfl ?_
              rw [y7]
              exact ⟨by unfold q_boy; simp only [Int.toNat_natCast]; rw [if_pos (by omega), if_pos (by omega)], y9.CLi⟩
          · skip
            refine Ev.ldc2 (q := 46) dX11_boy_43 klX11_322 klvX11_322 rfl ?_
            refine rJ dX11_boy_46 rfl ?_
            exact ⟨by unfold q_boy; simp only [Int.toNat_natCast]; rw [if_neg (by omega)], Fr.rf _ _⟩
      · skip
        refine Ev.ldc2 (q := 23) dX11_boy_20 klX11_322 klvX11_322 rfl ?_
        refine rJ dX11_boy_23 rfl ?_
        exact ⟨by unfold q_boy; rw [if_neg (by omega)], Fr.rf _ _⟩
set_option maxRecDepth 4000 in
theorem p_X11_parting {Γ : Gm} {d : Nat} {m : Mem} (g : Row) (l k what : Int) (hI : HI g) (hH : HouR g m 33) (hN : NowR g m 44) : Ci Γ (d + 5) MX11_parting [rv 0, iv l, iv k, iv what] m (fun r m' => r = q_parting g l k what ∧ Fr sC m m') := by
  refine Ci.of moX11_parting rfl rfl (fun hA hM => ?_)
  show Em Γ (d + 5) MX11_parting _ 0 [rv 0, iv l, iv k, iv what] [] m
  have hF12 := hI.1
  have hP8 := hI.2.2.1
  have hL3 := hI.2.1
  obtain ⟨n0, n1, n2, n3⟩ := hH.n0
  refine Ev.aload_n (q := 1) dX11_parting_0 rfl rfl ?_
  refine gR (q := 4) dX11_parting_1 gfX11_27 k0 r0_3 rfl rfl ?_
  refine Ev.iload_n (q := 5) dX11_parting_4 rfl rfl ?_
  refine cV1i (q := 8) (d' := d + 4) dX11_parting_5 mlX11_135 moX1_hasLift mvX1_hasLift k33 rfl rfl rfl (Nat.le_refl _) rfl rfl rfl (p_X1_hasLift l) (fun r1 m1 e1 => ?_)
  obtain ⟨rfl, e1⟩ := e1
  obtain rfl := e1.symm
  rw [n2]
  refine Ev.if_eq (tgt := 36) (q := 11) dX11_parting_8 (by decide) rfl (fun h2 => ?_) (fun h2 => ?_)
  · skip
    have hLL : ¬ (0 ≤ l ∧ l < g 2) := by split at h2 <;> omega
    refine Ev.ldc2 (q := 39) dX11_parting_36 klX11_306 klvX11_306 rfl ?_
    refine rJ dX11_parting_39 rfl ?_
    exact ⟨by unfold q_parting; rw [if_neg (by omega)], Fr.rf _ _⟩
  · skip
    have hLLln : 0 ≤ l ∧ l < g 2 := by split at h2 <;> omega
    obtain ⟨ln, rfl⟩ : ∃ ln : Nat, l = ln := ⟨l.toNat, by omega⟩
    have hlln : (ln : Int) < g 2 := hLLln.2
    have qlln := hI.lift hlln
    have hlokln := hI.litOk hlln
    have hsln := hlokln.lt hI
    have a1ln : m 45 ln = g (60 + ln) := (hN.1 ln hlln).1
    have a2ln : m 46 ln = g (63 + ln) := (hN.1 ln hlln).2.1
    have a3ln : m 47 ln = ((litV g ln : Nat) : Int) := E47 hI hlln hN
    have a4ln : m 48 ln = g (69 + ln) := (hN.1 ln hlln).2.2.2
    refine Ev.aload_n (q := 12) dX11_parting_11 rfl rfl ?_
    refine gR (q := 15) dX11_parting_12 gfX11_27 k0 r0_3 rfl rfl ?_
    refine Ev.iload_n (q := 16) dX11_parting_15 rfl rfl ?_
    refine cV1i (q := 19) (d' := d + 4) dX11_parting_16 mlX11_135 moX1_hasLift mvX1_hasLift k33 rfl rfl rfl (Nat.le_refl _) rfl rfl rfl (p_X1_hasLift k) (fun r3 m3 e3 => ?_)
    obtain ⟨rfl, e3⟩ := e3
    obtain rfl := e3.symm
    rw [n2]
    refine Ev.if_eq (tgt := 36) (q := 22) dX11_parting_19 (by decide) rfl (fun h4 => ?_) (fun h4 => ?_)
    · skip
      have hLL : ¬ (0 ≤ k ∧ k < g 2) := by split at h4 <;> omega
      refine Ev.ldc2 (q := 39) dX11_parting_36 klX11_306 klvX11_306 rfl ?_
      refine rJ dX11_parting_39 rfl ?_
      exact ⟨by unfold q_parting; rw [if_neg (by omega)], Fr.rf _ _⟩
    · skip
      have hLLkn : 0 ≤ k ∧ k < g 2 := by split at h4 <;> omega
      obtain ⟨kn, rfl⟩ : ∃ kn : Nat, k = kn := ⟨k.toNat, by omega⟩
      have hlkn : (kn : Int) < g 2 := hLLkn.2
      have qlkn := hI.lift hlkn
      have hlokkn := hI.litOk hlkn
      have hskn := hlokkn.lt hI
      have a1kn : m 45 kn = g (60 + kn) := (hN.1 kn hlkn).1
      have a2kn : m 46 kn = g (63 + kn) := (hN.1 kn hlkn).2.1
      have a3kn : m 47 kn = ((litV g kn : Nat) : Int) := E47 hI hlkn hN
      have a4kn : m 48 kn = g (69 + kn) := (hN.1 kn hlkn).2.2.2
      refine Ev.iload_n (q := 23) dX11_parting_22 rfl rfl ?_
      refine Ev.iload_n (q := 24) dX11_parting_23 rfl rfl ?_
      refine Ev.icmp_eq (tgt := 36) (q := 27) dX11_parting_24 (by decide) rfl (fun h5 => ?_) (fun h5 => ?_)
      · skip
        refine Ev.ldc2 (q := 39) dX11_parting_36 klX11_306 klvX11_306 rfl ?_
        refine rJ dX11_parting_39 rfl ?_
        exact ⟨by unfold q_parting; rw [if_neg (by omega)], Fr.rf _ _⟩
      · skip
        refine Ev.iload_n (q := 28) dX11_parting_27 rfl rfl ?_
        refine Ev.if_lt (tgt := 36) (q := 31) dX11_parting_28 (by decide) rfl (fun h6 => ?_) (fun h6 => ?_)
        · skip
          refine Ev.ldc2 (q := 39) dX11_parting_36 klX11_306 klvX11_306 rfl ?_
          refine rJ dX11_parting_39 rfl ?_
          exact ⟨by unfold q_parting; rw [if_neg (by omega)], Fr.rf _ _⟩
        · skip
          refine Ev.iload_n (q := 32) dX11_parting_31 rfl rfl ?_
          refine Ev.iconst (q := 33) dX11_parting_32 ki_1 rfl ?_
          refine Ev.icmp_le (tgt := 40) (q := 36) dX11_parting_33 (by decide) rfl (fun h7 => ?_) (fun h7 => ?_)
          · skip
            refine Ev.aload_n (q := 41) dX11_parting_40 rfl rfl ?_
            refine gR (q := 44) dX11_parting_41 gfX11_34 k0 r0_4 rfl rfl ?_
            refine gR (q := 47) dX11_parting_44 gfX11_139 k44 r44_0 rfl rfl ?_
            refine Ev.iload_n (q := 48) dX11_parting_47 rfl rfl ?_
            refine aI (q := 49) (k := ln) dX11_parting_48 k45 (by first | rfl | omega | (simp (disch := omega) only [w32_of]; omega)) (by omega) rfl ?_
            rw [a1ln]
            refine Ev.aload_n (q := 50) dX11_parting_49 rfl rfl ?_
            refine gR (q := 53) dX11_parting_50 gfX11_34 k0 r0_4 rfl rfl ?_
            refine gR (q := 56) dX11_parting_53 gfX11_139 k44 r44_0 rfl rfl ?_
            refine Ev.iload_n (q := 57) dX11_parting_56 rfl rfl ?_
            refine aI (q := 58) (k := kn) dX11_parting_57 k45 (by first | rfl | omega | (simp (disch := omega) only [w32_of]; omega)) (by omega) rfl ?_
            rw [a1kn]
            refine Ev.icmp_eq (tgt := 65) (q := 61) dX11_parting_58 (by decide) rfl (fun h8 => ?_) (fun h8 => ?_)
            · skip
              refine Ev.aload_n (q := 66) dX11_parting_65 rfl rfl ?_
              refine gR (q := 69) dX11_parting_66 gfX11_96 k0 r0_16 rfl rfl ?_
              refine Ev.iload_n (q := 70) dX11_parting_69 rfl rfl ?_
              refine Ev.iload_n (q := 71) dX11_parting_70 rfl rfl ?_
              refine cV2v (q := 74) (d' := d + 4) dX11_parting_71 mlX11_342 moX5_part mvX5_part k72 rfl rfl rfl (Nat.le_refl _) rfl rfl rfl (p_X5_part g ln kn 0 hI hH hN hlln hlkn (by omega)) (fun r9 m9 e9 => ?_)
              obtain ⟨y3, y4, y9⟩ := e9
              refine Ev.iload_n (q := 75) dX11_parting_74 rfl rfl ?_
              refine Ev.if_ne (tgt := 88) (q := 78) dX11_parting_75 (by decide) rfl (fun h10 => ?_) (fun h10 => ?_)
              · skip
                refine Ev.aload_n (q := 89) dX11_parting_88 rfl rfl ?_
                refine gR (q := 92) dX11_parting_89 gfX11_96 k0 r0_16 rfl rfl ?_
                refine gI (q := 95) dX11_parting_92 gfX11_348 k72 rfl rfl ?_
                refine Ev.i2l (q := 96) dX11_parting_95 rfl ?_
                refine rJ dX11_parting_96 rfl ?_
                rw [y4]
                exact ⟨by unfold q_parting; simp only [Int.toNat_natCast]; rw [if_pos (by omega), if_pos (by omega), if_neg (by omega)], y9.CPl⟩
              · skip
                refine Ev.aload_n (q := 79) dX11_parting_78 rfl rfl ?_
                refine gR (q := 82) dX11_parting_79 gfX11_96 k0 r0_16 rfl rfl ?_
                refine gJ (q := 85) dX11_parting_82 gfX11_345 k72 rfl rfl ?_
                refine Ev.goto (q := 96) dX11_parting_85 (by decide) ?_
                refine rJ dX11_parting_96 rfl ?_
                rw [y3]
                exact ⟨by unfold q_parting; simp only [Int.toNat_natCast]; rw [if_pos (by omega), if_pos (by omega), if_pos (by omega)], y9.CPl⟩
            · skip
              refine Ev.ldc2 (q := 64) dX11_parting_61 klX11_340 klvX11_340 rfl ?_
              refine rJ dX11_parting_64 rfl ?_
              exact ⟨by unfold q_parting; simp only [Int.toNat_natCast]; rw [if_pos (by omega), if_neg (by omega)], Fr.rf _ _⟩
          · skip
            refine Ev.ldc2 (q := 39) dX11_parting_36 klX11_306 klvX11_306 rfl ?_
            refine rJ dX11_parting_39 rfl ?_
            exact ⟨by unfold q_parting; rw [if_neg (by omega)], Fr.rf _ _⟩
set_option maxRecDepth 4000 in
theorem p_X11_away {Γ : Gm} {d : Nat} {m : Mem} (g : Row) (f : Int) (hI : HI g) (hH : HouR g m 33) (hN : NowR g m 44) : Ci Γ (d + 2) MX11_away [rv 0, iv f] m (fun r m' => r = q_away g f ∧ Fr sC m m') := by
  refine Ci.of moX11_away rfl rfl (fun hA hM => ?_)
  show Em Γ (d + 2) MX11_away _ 0 [rv 0, iv f] [] m
  have hF12 := hI.1
  have hP8 := hI.2.2.1
  have hL3 := hI.2.1
  obtain ⟨n0, n1, n2, n3⟩ := hH.n0
  refine Ev.aload_n (q := 1) dX11_away_0 rfl rfl ?_
  refine gR (q := 4) dX11_away_1 gfX11_27 k0 r0_3 rfl rfl ?_
  refine Ev.iload_n (q := 5) dX11_away_4 rfl rfl ?_
  refine cV1i (q := 8) (d' := d + 1) dX11_away_5 mlX11_191 moX1_hasFloor mvX1_hasFloor k33 rfl rfl rfl (Nat.le_refl _) rfl rfl rfl (p_X1_hasFloor f) (fun r1 m1 e1 => ?_)
  obtain ⟨rfl, e1⟩ := e1
  obtain rfl := e1.symm
  rw [n0]
  refine Ev.if_eq (tgt := 22) (q := 11) dX11_away_8 (by decide) rfl (fun h2 => ?_) (fun h2 => ?_)
  · skip
    have hFF : ¬ (0 ≤ f ∧ f < g 1) := by split at h2 <;> omega
    refine Ev.bipush (q := 24) dX11_away_22 kb_m2 rfl ?_
    refine rI dX11_away_24 rfl ?_
    exact ⟨by unfold q_away; rw [if_neg (by omega)], Fr.rf _ _⟩
  · skip
    have hFFfn : 0 ≤ f ∧ f < g 1 := by split at h2 <;> omega
    obtain ⟨fn, rfl⟩ : ∃ fn : Nat, f = fn := ⟨f.toNat, by omega⟩
    have hffn : (fn : Int) < g 1 := hFFfn.2
    refine Ev.aload_n (q := 12) dX11_away_11 rfl rfl ?_
    refine gR (q := 15) dX11_away_12 gfX11_27 k0 r0_3 rfl rfl ?_
    refine Ev.iload_n (q := 16) dX11_away_15 rfl rfl ?_
    refine cV1i (q := 19) (d' := d + 1) dX11_away_16 mlX11_354 moX1_floorsAway mvX1_floorsAway k33 rfl rfl rfl (Nat.le_refl _) rfl rfl rfl (p_X1_floorsAway g fn (by omega) hI hH) (fun r3 m3 e3 => ?_)
    obtain ⟨rfl, e3⟩ := e3
    obtain rfl := e3.symm
    refine Ev.goto (q := 24) dX11_away_19 (by decide) ?_
    refine rI dX11_away_24 rfl ?_
    exact ⟨by unfold q_away; rw [if_pos (by omega)]; rfl, Fr.rf _ _⟩
theorem rsN_y {g : Row} {n f b : Nat} (h : awyV g f < awyV g b) : rsN g (n + 1) f b = rsN g n (f + 1) f := by conv => lhs; unfold rsN; rw [if_pos h]
theorem rsN_n {g : Row} {n f b : Nat} (h : ¬ awyV g f < awyV g b) : rsN g (n + 1) f b = rsN g n (f + 1) b := by conv => lhs; unfold rsN; rw [if_neg h]
theorem dst_c (a b : Nat) : dst a b = dst b a := by unfold dst; repeat (first | omega | split)
def nrD (g : Row) (f : Nat) (b : Option Nat) : Int := match b with
  | none => 12
  | some c => (dst (g (60 + c)).toNat f : Int)
theorem nrN_y {g : Row} {n f l : Nat} {b : Option Nat} (h : (dst (g (60 + l)).toNat f : Int) < nrD g f b) : nrN g f (n + 1) l b = nrN g f n (l + 1) (some l) := by
  conv => lhs; unfold nrN
  cases b with
  | none => rfl
  | some c =>
    have h : (dst (g (60 + l)).toNat f : Int) < (dst (g (60 + c)).toNat f : Int) := h
    dsimp only
    rw [if_pos (by omega)]
theorem nrN_n {g : Row} {n f l : Nat} {b : Option Nat} (h : ¬ (dst (g (60 + l)).toNat f : Int) < nrD g f b) (h12 : dst (g (60 + l)).toNat f < 12) : nrN g f (n + 1) l b = nrN g f n (l + 1) b := by
  conv => lhs; unfold nrN
  cases b with
  | none =>
    have h : ¬ (dst (g (60 + l)).toNat f : Int) < 12 := h
    omega
  | some c =>
    have h : ¬ (dst (g (60 + l)).toNat f : Int) < (dst (g (60 + c)).toNat f : Int) := h
    dsimp only
    rw [if_neg (by omega)]
theorem dst_lt {a b : Nat} (h1 : a < 12) (h2 : b < 12) : dst a b < 12 := by unfold dst; repeat (first | omega | split)
set_option maxRecDepth 4000 in
theorem lc_rest {Γ : Gm} {d : Nat} {m : Mem} (g : Row) (hI : HI g) (hH : HouR g m 33) (hN : NowR g m 44) (T : Int) : ∀ (n f b : Nat), f + n = (g 1).toNat → b < f → T = (rsN g n f b : Int) → Em Γ (d + 2) MX11_rest (fun r m' => r = T ∧ Fr sC m m') 4 [rv 0, iv b, iv f] [] m := by
  have hF12 := hI.1
  have hP8 := hI.2.2.1
  have hL3 := hI.2.1
  have e33 : m 33 0 = g 1 := hH.n0.1
  intro n
  induction n with
  | zero =>
    intro f b hf hb hT
    refine Ev.iload_n (q := 5) dX11_rest_4 rfl rfl ?_
    refine Ev.aload_n (q := 6) dX11_rest_5 rfl rfl ?_
    refine gR (q := 9) dX11_rest_6 gfX11_27 k0 r0_3 rfl rfl ?_
    refine gI (q := 12) dX11_rest_9 gfX11_351 k33 rfl rfl ?_
    rw [e33]
    refine Ev.icmp_ge (tgt := 42) (q := 15) dX11_rest_12 (by decide) rfl (fun h1 => ?_) (fun h1 => ?_)
    · skip
      refine Ev.iload_n (q := 43) dX11_rest_42 rfl rfl ?_
      refine rI dX11_rest_43 rfl ?_
      exact ⟨by rw [hT]; rfl, Fr.rf _ _⟩
    · skip
      omega
  | succ n ih =>
    intro f b hf hb hT

    refine Ev.iload_n (q := 5) dX11_rest_4 rfl rfl ?_
    refine Ev.aload_n (q := 6) dX11_rest_5 rfl rfl ?_
    refine gR (q := 9) dX11_rest_6 gfX11_27 k0 r0_3 rfl rfl ?_
    refine gI (q := 12) dX11_rest_9 gfX11_351 k33 rfl rfl ?_
    rw [e33]
    refine Ev.icmp_ge (tgt := 42) (q := 15) dX11_rest_12 (by decide) rfl (fun h1 => ?_) (fun h1 => ?_)
    · skip
      omega
    · skip
      refine Ev.aload_n (q := 16) dX11_rest_15 rfl rfl ?_
      refine gR (q := 19) dX11_rest_16 gfX11_27 k0 r0_3 rfl rfl ?_
      refine Ev.iload_n (q := 20) dX11_rest_19 rfl rfl ?_
      refine cV1i (q := 23) (d' := d + 1) dX11_rest_20 mlX11_354 moX1_floorsAway mvX1_floorsAway k33 rfl rfl rfl (Nat.le_refl _) rfl rfl rfl (p_X1_floorsAway g f (by omega) hI hH) (fun r2 m2 e2 => ?_)
      obtain ⟨rfl, e2⟩ := e2
      obtain rfl := e2.symm
      refine Ev.aload_n (q := 24) dX11_rest_23 rfl rfl ?_
      refine gR (q := 27) dX11_rest_24 gfX11_27 k0 r0_3 rfl rfl ?_
      refine Ev.iload_n (q := 28) dX11_rest_27 rfl rfl ?_
      refine cV1i (q := 31) (d' := d + 1) dX11_rest_28 mlX11_354 moX1_floorsAway mvX1_floorsAway k33 rfl rfl rfl (Nat.le_refl _) rfl rfl rfl (p_X1_floorsAway g b (by omega) hI hH) (fun r3 m3 e3 => ?_)
      obtain ⟨rfl, e3⟩ := e3
      obtain rfl := e3.symm
      refine Ev.icmp_ge (tgt := 36) (q := 34) dX11_rest_31 (by decide) rfl (fun h4 => ?_) (fun h4 => ?_)
      · skip
        refine iinc_2 (q := 39) dX11_rest_36 rfl rfl rfl ?_
        refine Ev.goto (q := 4) dX11_rest_39 (by decide) ?_
        rw [w32_of (by omega) (by omega)]
        exact ih (f + 1) b (by omega) (by omega) (by rw [hT, rsN_n (by omega)])
      · skip
        refine Ev.iload_n (q := 35) dX11_rest_34 rfl rfl ?_
        refine istore_n_1 (q := 36) dX11_rest_35 rfl rfl rfl ?_
        refine iinc_2 (q := 39) dX11_rest_36 rfl rfl rfl ?_
        refine Ev.goto (q := 4) dX11_rest_39 (by decide) ?_
        rw [w32_of (by omega) (by omega)]
        exact ih (f + 1) f (by omega) (by omega) (by rw [hT, rsN_y (by omega)])
set_option maxRecDepth 4000 in
theorem p_X11_rest {Γ : Gm} {d : Nat} {m : Mem} (g : Row) (hI : HI g) (hH : HouR g m 33) (hN : NowR g m 44) : Ci Γ (d + 2) MX11_rest [rv 0] m (fun r m' => r = q_rest g ∧ Fr sC m m') := by
  refine Ci.of moX11_rest rfl rfl (fun hA hM => ?_)
  show Em Γ (d + 2) MX11_rest _ 0 [rv 0, uv, uv] [] m
  have hF12 := hI.1
  have hP8 := hI.2.2.1
  have hL3 := hI.2.1
  obtain ⟨n0, n1, n2, n3⟩ := hH.n0
  refine Ev.iconst (q := 1) dX11_rest_0 ki_0 rfl ?_
  refine istore_n_1 (q := 2) dX11_rest_1 rfl rfl rfl ?_
  refine Ev.iconst (q := 3) dX11_rest_2 ki_1 rfl ?_
  refine istore_n_2 (q := 4) dX11_rest_3 rfl rfl rfl ?_
  exact lc_rest g hI hH hN _ ((g 1).toNat - 1) 1 0 (by omega) (by omega) rfl
set_option maxRecDepth 4000 in
theorem lc_nearest {Γ : Gm} {d : Nat} {m : Mem} (g : Row) (hI : HI g) (hH : HouR g m 33) (hN : NowR g m 44) (T : Int) (f : Nat) (hf : (f : Int) < g 1) : ∀ (n l : Nat) (b : Option Nat) (v5 : Vl), l + n = (g 2).toNat → T = optI (nrN g f n l b) → Em Γ (d + 1) MX11_nearest (fun r m' => r = T ∧ Fr sC m m') 22 [rv 0, iv f, iv (optI b), iv (nrD g f b), iv l, v5] [] m := by
  have hF12 := hI.1
  have hP8 := hI.2.2.1
  have hL3 := hI.2.1
  have e33 : m 33 2 = g 2 := hH.n0.2.2.1
  intro n
  induction n with
  | zero =>
    intro l b v5 hl hT
    refine Ev.iload (q := 24) dX11_nearest_22 rfl rfl ?_
    refine Ev.aload_n (q := 25) dX11_nearest_24 rfl rfl ?_
    refine gR (q := 28) dX11_nearest_25 gfX11_27 k0 r0_3 rfl rfl ?_
    refine gI (q := 31) dX11_nearest_28 gfX11_262 k33 rfl rfl ?_
    rw [e33]
    refine Ev.icmp_ge (tgt := 69) (q := 34) dX11_nearest_31 (by decide) rfl (fun h1 => ?_) (fun h1 => ?_)
    · skip
      refine Ev.iload_n (q := 70) dX11_nearest_69 rfl rfl ?_
      refine rI dX11_nearest_70 rfl ?_
      exact ⟨by rw [hT]; rfl, Fr.rf _ _⟩
    · skip
      omega
  | succ n ih =>
    intro l b v5 hl hT
    have e45 : m 45 l = ((g (60 + l)).toNat : Int) := E45 hI (by omega) hN
    have ql := (hI.lift (l := l) (by omega)).1
    refine Ev.iload (q := 24) dX11_nearest_22 rfl rfl ?_
    refine Ev.aload_n (q := 25) dX11_nearest_24 rfl rfl ?_
    refine gR (q := 28) dX11_nearest_25 gfX11_27 k0 r0_3 rfl rfl ?_
    refine gI (q := 31) dX11_nearest_28 gfX11_262 k33 rfl rfl ?_
    rw [e33]
    refine Ev.icmp_ge (tgt := 69) (q := 34) dX11_nearest_31 (by decide) rfl (fun h1 => ?_) (fun h1 => ?_)
    · skip
      omega
    · skip
      refine Ev.aload_n (q := 35) dX11_nearest_34 rfl rfl ?_
      refine gR (q := 38) dX11_nearest_35 gfX11_34 k0 r0_4 rfl rfl ?_
      refine gR (q := 41) dX11_nearest_38 gfX11_139 k44 r44_0 rfl rfl ?_
      refine Ev.iload (q := 43) dX11_nearest_41 rfl rfl ?_
      refine aI (q := 44) (k := l) dX11_nearest_43 k45 (by first | rfl | omega | (simp (disch := omega) only [w32_of]; omega)) (by omega) rfl ?_
      rw [e45]
      refine Ev.iload_n (q := 45) dX11_nearest_44 rfl rfl ?_
      refine Ev.isub (q := 46) dX11_nearest_45 rfl ?_
      refine cS1i (q := 49) (d' := d + 0) dX11_nearest_46 mlX11_357 moJ9_abs_0f7a4 msJ9_abs_0f7a4 rfl rfl (Nat.le_refl _) rfl rfl rfl (p_J9_abs_0f7a4 _) (fun r2 m2 e2 => ?_)
      obtain ⟨rfl, e2⟩ := e2
      obtain rfl := e2.symm
      rw [dabs (h := f) (f := (g (60 + l)).toNat) (by omega) (by omega), dst_c]
      refine istore_5 (q := 51) dX11_nearest_49 rfl rfl rfl ?_
      refine Ev.iload (q := 53) dX11_nearest_51 rfl rfl ?_
      refine Ev.iload_n (q := 54) dX11_nearest_53 rfl rfl ?_
      refine Ev.icmp_ge (tgt := 63) (q := 57) dX11_nearest_54 (by decide) rfl (fun h3 => ?_) (fun h3 => ?_)
      · skip
        refine iinc_4 (q := 66) dX11_nearest_63 rfl rfl rfl ?_
        refine Ev.goto (q := 22) dX11_nearest_66 (by decide) ?_
        rw [w32_of (by omega) (by omega)]
        exact ih (l + 1) b _ (by omega) (by rw [hT, nrN_n (by omega) (dst_lt (by omega) (by omega))])
      · skip
        refine Ev.iload (q := 59) dX11_nearest_57 rfl rfl ?_
        refine istore_n_3 (q := 60) dX11_nearest_59 rfl rfl rfl ?_
        refine Ev.iload (q := 62) dX11_nearest_60 rfl rfl ?_
        refine istore_n_2 (q := 63) dX11_nearest_62 rfl rfl rfl ?_
        refine iinc_4 (q := 66) dX11_nearest_63 rfl rfl rfl ?_
        refine Ev.goto (q := 22) dX11_nearest_66 (by decide) ?_
        rw [w32_of (by omega) (by omega)]
        exact ih (l + 1) (some l) _ (by omega) (by rw [hT, nrN_y (by omega)])
set_option maxRecDepth 4000 in
theorem p_X11_nearest {Γ : Gm} {d : Nat} {m : Mem} (g : Row) (f : Int) (hI : HI g) (hH : HouR g m 33) (hN : NowR g m 44) : Ci Γ (d + 1) MX11_nearest [rv 0, iv f] m (fun r m' => r = q_nearest g f ∧ Fr sC m m') := by
  refine Ci.of moX11_nearest rfl rfl (fun hA hM => ?_)
  show Em Γ (d + 1) MX11_nearest _ 0 [rv 0, iv f, uv, uv, uv, uv] [] m
  have hF12 := hI.1
  have hP8 := hI.2.2.1
  have hL3 := hI.2.1
  obtain ⟨n0, n1, n2, n3⟩ := hH.n0
  refine Ev.aload_n (q := 1) dX11_nearest_0 rfl rfl ?_
  refine gR (q := 4) dX11_nearest_1 gfX11_27 k0 r0_3 rfl rfl ?_
  refine Ev.iload_n (q := 5) dX11_nearest_4 rfl rfl ?_
  refine cV1i (q := 8) (d' := d + 0) dX11_nearest_5 mlX11_191 moX1_hasFloor mvX1_hasFloor k33 rfl rfl rfl (Nat.le_refl _) rfl rfl rfl (p_X1_hasFloor f) (fun r1 m1 e1 => ?_)
  obtain ⟨rfl, e1⟩ := e1
  obtain rfl := e1.symm
  rw [n0]
  refine Ev.if_ne (tgt := 14) (q := 11) dX11_nearest_8 (by decide) rfl (fun h2 => ?_) (fun h2 => ?_)
  · skip
    have hFFfn : 0 ≤ f ∧ f < g 1 := by split at h2 <;> omega
    obtain ⟨fn, rfl⟩ : ∃ fn : Nat, f = fn := ⟨f.toNat, by omega⟩
    have hffn : (fn : Int) < g 1 := hFFfn.2
    refine Ev.iconst (q := 15) dX11_nearest_14 ki_m1 rfl ?_
    refine istore_n_2 (q := 16) dX11_nearest_15 rfl rfl rfl ?_
    refine Ev.bipush (q := 18) dX11_nearest_16 kb_12 rfl ?_
    refine istore_n_3 (q := 19) dX11_nearest_18 rfl rfl rfl ?_
    refine Ev.iconst (q := 20) dX11_nearest_19 ki_0 rfl ?_
    refine istore_4 (q := 22) dX11_nearest_20 rfl rfl rfl ?_
    exact lc_nearest g hI hH hN _ fn hffn (g 2).toNat 0 none uv (by omega) (by unfold q_nearest; rw [if_pos (by omega)]; rfl)
  · skip
    have hFF : ¬ (0 ≤ f ∧ f < g 1) := by split at h2 <;> omega
    refine Ev.bipush (q := 13) dX11_nearest_11 kb_m2 rfl ?_
    refine rI dX11_nearest_13 rfl ?_
    exact ⟨by unfold q_nearest; rw [if_neg (by omega)], Fr.rf _ _⟩
set_option maxRecDepth 4000 in
theorem p_X11_count {Γ : Gm} {d : Nat} {m : Mem} (g : Row) (what : Int) (hI : HI g) (hH : HouR g m 33) (hN : NowR g m 44) (h8 : m 0 8 = g 96) : Ci Γ (d + 2) MX11_count [rv 0, iv what] m (fun r m' => r = q_count g (m 0 1) what ∧ Fr sC m m') := by
  refine Ci.of moX11_count rfl rfl (fun hA hM => ?_)
  show Em Γ (d + 2) MX11_count _ 0 [rv 0, iv what] [] m
  have hF12 := hI.1
  have hP8 := hI.2.2.1
  have hL3 := hI.2.1
  obtain ⟨n0, n1, n2, n3⟩ := hH.n0
  refine Ev.iload_n (q := 1) dX11_count_0 rfl rfl ?_
  by_cases w0 : what = 0
  · subst w0
    refine Ev.tabIn (q := 52) dX11_count_1 (by decide) (by decide) rfl rfl ?_
    refine Ev.aload_n (q := 53) dX11_count_52 rfl rfl ?_
    refine gR (q := 56) dX11_count_53 gfX11_27 k0 r0_3 rfl rfl ?_
    refine gI (q := 59) dX11_count_56 gfX11_351 k33 rfl rfl ?_
    refine rI dX11_count_59 rfl ?_
    rw [n0]
    exact ⟨rfl, Fr.rf _ _⟩
  by_cases w1 : what = 1
  · subst w1
    refine Ev.tabIn (q := 60) dX11_count_1 (by decide) (by decide) rfl rfl ?_
    refine Ev.aload_n (q := 61) dX11_count_60 rfl rfl ?_
    refine gR (q := 64) dX11_count_61 gfX11_27 k0 r0_3 rfl rfl ?_
    refine gI (q := 67) dX11_count_64 gfX11_262 k33 rfl rfl ?_
    refine rI dX11_count_67 rfl ?_
    rw [n2]
    exact ⟨rfl, Fr.rf _ _⟩
  by_cases w2 : what = 2
  · subst w2
    refine Ev.tabIn (q := 68) dX11_count_1 (by decide) (by decide) rfl rfl ?_
    refine Ev.aload_n (q := 69) dX11_count_68 rfl rfl ?_
    refine gR (q := 72) dX11_count_69 gfX11_27 k0 r0_3 rfl rfl ?_
    refine gI (q := 75) dX11_count_72 gfX11_265 k33 rfl rfl ?_
    refine rI dX11_count_75 rfl ?_
    rw [n3]
    exact ⟨rfl, Fr.rf _ _⟩
  by_cases w3 : what = 3
  · subst w3
    refine Ev.tabIn (q := 76) dX11_count_1 (by decide) (by decide) rfl rfl ?_
    refine Ev.aload_n (q := 77) dX11_count_76 rfl rfl ?_
    refine cV0i (q := 80) (d' := d + 1) dX11_count_77 mlX11_392 moX11_riders mvX11_riders k0 rfl rfl rfl (Nat.le_refl _) rfl rfl rfl (p_X11_riders g hI hH hN) (fun r1 m1 e1 => ?_)
    obtain ⟨rfl, e1⟩ := e1
    obtain rfl := e1.symm
    refine rI dX11_count_80 rfl ?_
    exact ⟨rfl, Fr.rf _ _⟩
  by_cases w4 : what = 4
  · subst w4
    refine Ev.tabIn (q := 81) dX11_count_1 (by decide) (by decide) rfl rfl ?_
    refine Ev.aload_n (q := 82) dX11_count_81 rfl rfl ?_
    refine Ev.aload_n (q := 83) dX11_count_82 rfl rfl ?_
    refine gR (q := 86) dX11_count_83 gfX11_34 k0 r0_4 rfl rfl ?_
    refine cV1i (q := 89) (d' := d + 1) dX11_count_86 mlX11_255 moX11_peopleAtHome mvX11_peopleAtHome k0 rfl rfl rfl (Nat.le_refl _) rfl rfl rfl (p_X11_peopleAtHome g 44 (by decide) hI hH hN) (fun r2 m2 e2 => ?_)
    obtain ⟨rfl, e2⟩ := e2
    obtain rfl := e2.symm
    refine cS1i (q := 92) (d' := d + 1) dX11_count_89 mlX11_214 moJ6_bitCount_0f7a4 msJ6_bitCount_0f7a4 rfl rfl (Nat.le_refl _) rfl rfl rfl (p_J6_bitCount_0f7a4 (homS g) (setN_12 _ (by omega))) (fun r3 m3 e3 => ?_)
    obtain ⟨rfl, e3⟩ := e3
    obtain rfl := e3.symm
    refine rI dX11_count_92 rfl ?_
    exact ⟨rfl, Fr.rf _ _⟩
  by_cases w5 : what = 5
  · subst w5
    refine Ev.tabIn (q := 93) dX11_count_1 (by decide) (by decide) rfl rfl ?_
    refine Ev.aload_n (q := 94) dX11_count_93 rfl rfl ?_
    refine Ev.aload_n (q := 95) dX11_count_94 rfl rfl ?_
    refine gR (q := 98) dX11_count_95 gfX11_34 k0 r0_4 rfl rfl ?_
    refine cV1i (q := 101) (d' := d + 1) dX11_count_98 mlX11_259 moX11_lightsOf mvX11_lightsOf k0 rfl rfl rfl (Nat.le_refl _) rfl rfl rfl (p_X11_lightsOf g 44 (by decide) hI hH hN) (fun r4 m4 e4 => ?_)
    obtain ⟨rfl, e4⟩ := e4
    obtain rfl := e4.symm
    refine rI dX11_count_101 rfl ?_
    exact ⟨rfl, Fr.rf _ _⟩
  by_cases w6 : what = 6
  · subst w6
    refine Ev.tabIn (q := 102) dX11_count_1 (by decide) (by decide) rfl rfl ?_
    refine Ev.aload_n (q := 103) dX11_count_102 rfl rfl ?_
    refine gI (q := 106) dX11_count_103 gfX11_48 k0 rfl rfl ?_
    refine rI dX11_count_106 rfl ?_
    rw [h8]
    exact ⟨rfl, Fr.rf _ _⟩
  by_cases w7 : what = 7
  · subst w7
    refine Ev.tabIn (q := 107) dX11_count_1 (by decide) (by decide) rfl rfl ?_
    refine Ev.aload_n (q := 108) dX11_count_107 rfl rfl ?_
    refine gI (q := 111) dX11_count_108 gfX11_13 k0 rfl rfl ?_
    refine rI dX11_count_111 rfl ?_
    exact ⟨rfl, Fr.rf _ _⟩
  by_cases w8 : what = 8
  · subst w8
    refine Ev.tabIn (q := 112) dX11_count_1 (by decide) (by decide) rfl rfl ?_
    refine Ev.aload_n (q := 113) dX11_count_112 rfl rfl ?_
    refine gR (q := 116) dX11_count_113 gfX11_27 k0 r0_3 rfl rfl ?_
    refine gI (q := 119) dX11_count_116 gfX11_129 k33 rfl rfl ?_
    refine rI dX11_count_119 rfl ?_
    rw [n1]
    exact ⟨rfl, Fr.rf _ _⟩
  refine Ev.tabOut (q := 120) dX11_count_1 (by omega) rfl ?_
  refine Ev.iconst (q := 121) dX11_count_120 ki_m1 rfl ?_
  refine rI dX11_count_121 rfl ?_
  exact ⟨by unfold q_count; rw [if_neg w0, if_neg w1, if_neg w2, if_neg w3, if_neg w4, if_neg w5, if_neg w6, if_neg w7, if_neg w8], Fr.rf _ _⟩
set_option maxRecDepth 4000 in
theorem p_X11_fault {Γ : Gm} {d : Nat} {m : Mem} (what : Int) : Ci Γ (d + 0) MX11_fault [rv 0, iv what] m (fun r m' => r = (if what = 0 then m 2 2 else if what = 1 then m 2 3 else -1) ∧ m' = m) := by
  refine Ci.of moX11_fault rfl rfl (fun hA hM => ?_)
  show Em Γ (d + 0) MX11_fault _ 0 [rv 0, iv what] [] m
  refine Ev.iload_n (q := 1) dX11_fault_0 rfl rfl ?_
  by_cases w0 : what = 0
  · subst w0
    refine Ev.look (q := 28) (off := 27) dX11_fault_1 (by decide) (by decide) rfl ?_
    refine Ev.aload_n (q := 29) dX11_fault_28 rfl rfl ?_
    refine gR (q := 32) dX11_fault_29 gfX11_20 k0 r0_2 rfl rfl ?_
    refine gI (q := 35) dX11_fault_32 gfX11_116 k2 rfl rfl ?_
    refine rI dX11_fault_35 rfl ?_
    exact ⟨rfl, rfl⟩
  by_cases w1 : what = 1
  · subst w1
    refine Ev.look (q := 36) (off := 35) dX11_fault_1 (by decide) (by decide) rfl ?_
    refine Ev.aload_n (q := 37) dX11_fault_36 rfl rfl ?_
    refine gR (q := 40) dX11_fault_37 gfX11_20 k0 r0_2 rfl rfl ?_
    refine gI (q := 43) dX11_fault_40 gfX11_132 k2 rfl rfl ?_
    refine rI dX11_fault_43 rfl ?_
    exact ⟨rfl, rfl⟩
  refine Ev.look (q := 44) (off := 43) dX11_fault_1 (by decide) (by simp [Op.lookupswitch.offset, w0, w1, Ne.symm w0, Ne.symm w1]) rfl ?_
  refine Ev.iconst (q := 45) dX11_fault_44 ki_m1 rfl ?_
  refine rI dX11_fault_45 rfl ?_
  exact ⟨by rw [if_neg w0, if_neg w1], rfl⟩
