/-! ===== the class: its answers, one by one ===== -/
set_option maxRecDepth 4000 in
theorem p_X11_lift {Γ : Gm} {d : Nat} {m : Mem} (g : Row) (l what : Int) (hI : HI g) (hH : HouR g m 33) (hN : NowR g m 44) : Ci Γ (d + 2) MX11_lift [rv 0, iv l, iv what] m (fun r m' => r = q_lift g l what ∧ Fr sC m m') := by
  refine Ci.of moX11_lift rfl rfl (fun hA hM => ?_)
  show Em Γ (d + 2) MX11_lift _ 0 [rv 0, iv l, iv what] [] m
  have hF12 := hI.1
  have hP8 := hI.2.2.1
  have hL3 := hI.2.1
  obtain ⟨n0, n1, n2, n3⟩ := hH.n0
  refine Ev.aload_n (q := 1) dX11_lift_0 rfl rfl ?_
  refine gR (q := 4) dX11_lift_1 gfX11_27 k0 r0_3 rfl rfl ?_
  refine Ev.iload_n (q := 5) dX11_lift_4 rfl rfl ?_
  refine cV1i (q := 8) (d' := d + 1) dX11_lift_5 mlX11_135 moX1_hasLift mvX1_hasLift k33 rfl rfl rfl (Nat.le_refl _) rfl rfl rfl (p_X1_hasLift l) (fun r1 m1 e1 => ?_)
  obtain ⟨rfl, e1⟩ := e1
  obtain rfl := e1.symm
  rw [n2]
  refine Ev.if_ne (tgt := 14) (q := 11) dX11_lift_8 (by decide) rfl (fun h2 => ?_) (fun h2 => ?_)
  · skip
    have hLLln : 0 ≤ l ∧ l < g 2 := by split at h2 <;> omega
    obtain ⟨ln, rfl⟩ : ∃ ln : Nat, l = ln := ⟨l.toNat, by omega⟩
    have hlln : (ln : Int) < g 2 := hLLln.2
    have qlln := hI.lift hlln
    have hlokln := hI.litOk hlln
    have hsln := hlokln.lt hI
    have a1ln : m 45 ln = g (60 + ln) := (hN.1 ln hlln).1
    have a2ln : m 46 ln = g (63 + ln) := (hN.1 ln hlln).2.1
    have a3ln : m 47 ln = ((litV g ln : Nat) : Int) := E47 hI hlln hN
    have a4ln : m 48 ln = g (69 + ln) := (hN.1 ln hlln).2.2.2
    refine Ev.iload_n (q := 15) dX11_lift_14 rfl rfl ?_
    by_cases w0 : what = 0
    · subst w0
      refine Ev.tabIn (q := 56) dX11_lift_15 (by decide) (by decide) rfl rfl ?_
      refine Ev.aload_n (q := 57) dX11_lift_56 rfl rfl ?_
      refine gR (q := 60) dX11_lift_57 gfX11_34 k0 r0_4 rfl rfl ?_
      refine gR (q := 63) dX11_lift_60 gfX11_139 k44 r44_0 rfl rfl ?_
      refine Ev.iload_n (q := 64) dX11_lift_63 rfl rfl ?_
      refine aI (q := 65) (k := ln) dX11_lift_64 k45 (by first | rfl | omega | (simp (disch := omega) only [w32_of]; omega)) (by omega) rfl ?_
      refine rI dX11_lift_65 rfl ?_
      rw [a1ln]
      exact ⟨by unfold q_lift; rw [if_pos (by omega)]; rfl, Fr.rf _ _⟩
    by_cases w1 : what = 1
    · subst w1
      refine Ev.tabIn (q := 66) dX11_lift_15 (by decide) (by decide) rfl rfl ?_
      refine Ev.aload_n (q := 67) dX11_lift_66 rfl rfl ?_
      refine gR (q := 70) dX11_lift_67 gfX11_34 k0 r0_4 rfl rfl ?_
      refine gR (q := 73) dX11_lift_70 gfX11_143 k44 r44_1 rfl rfl ?_
      refine Ev.iload_n (q := 74) dX11_lift_73 rfl rfl ?_
      refine aI (q := 75) (k := ln) dX11_lift_74 k46 (by first | rfl | omega | (simp (disch := omega) only [w32_of]; omega)) (by omega) rfl ?_
      refine rI dX11_lift_75 rfl ?_
      rw [a2ln]
      exact ⟨by unfold q_lift; rw [if_pos (by omega)]; rfl, Fr.rf _ _⟩
    by_cases w2 : what = 2
    · subst w2
      refine Ev.tabIn (q := 76) dX11_lift_15 (by decide) (by decide) rfl rfl ?_
      refine Ev.aload_n (q := 77) dX11_lift_76 rfl rfl ?_
      refine gR (q := 80) dX11_lift_77 gfX11_34 k0 r0_4 rfl rfl ?_
      refine gR (q := 83) dX11_lift_80 gfX11_146 k44 r44_2 rfl rfl ?_
      refine Ev.iload_n (q := 84) dX11_lift_83 rfl rfl ?_
      refine aI (q := 85) (k := ln) dX11_lift_84 k47 (by first | rfl | omega | (simp (disch := omega) only [w32_of]; omega)) (by omega) rfl ?_
      refine rI dX11_lift_85 rfl ?_
      rw [a3ln]
      exact ⟨by unfold q_lift; rw [if_pos (by omega)]; show ((litV g ln : Nat) : Int) = g (66 + ln); unfold litV; have := qlln.2.1.1; omega, Fr.rf _ _⟩
    by_cases w3 : what = 3
    · subst w3
      refine Ev.tabIn (q := 86) dX11_lift_15 (by decide) (by decide) rfl rfl ?_
      refine Ev.aload_n (q := 87) dX11_lift_86 rfl rfl ?_
      refine gR (q := 90) dX11_lift_87 gfX11_34 k0 r0_4 rfl rfl ?_
      refine gR (q := 93) dX11_lift_90 gfX11_149 k44 r44_3 rfl rfl ?_
      refine Ev.iload_n (q := 94) dX11_lift_93 rfl rfl ?_
      refine aI (q := 95) (k := ln) dX11_lift_94 k48 (by first | rfl | omega | (simp (disch := omega) only [w32_of]; omega)) (by omega) rfl ?_
      refine rI dX11_lift_95 rfl ?_
      rw [a4ln]
      exact ⟨by unfold q_lift; rw [if_pos (by omega)]; rfl, Fr.rf _ _⟩
    by_cases w4 : what = 4
    · subst w4
      refine Ev.tabIn (q := 96) dX11_lift_15 (by decide) (by decide) rfl rfl ?_
      refine Ev.aload_n (q := 97) dX11_lift_96 rfl rfl ?_
      refine Ev.iload_n (q := 98) dX11_lift_97 rfl rfl ?_
      refine cV1i (q := 101) (d' := d + 1) dX11_lift_98 mlX11_152 moX11_ridersOf mvX11_ridersOf k0 rfl rfl rfl (Nat.le_refl _) rfl rfl rfl (p_X11_ridersOf g ln hI hH hN) (fun r3 m3 e3 => ?_)
      obtain ⟨rfl, e3⟩ := e3
      obtain rfl := e3.symm
      refine rI dX11_lift_101 rfl ?_
      exact ⟨by unfold q_lift; rw [if_pos (by omega)]; rfl, Fr.rf _ _⟩
    by_cases w5 : what = 5
    · subst w5
      refine Ev.tabIn (q := 102) dX11_lift_15 (by decide) (by decide) rfl rfl ?_
      refine Ev.aload_n (q := 103) dX11_lift_102 rfl rfl ?_
      refine gR (q := 106) dX11_lift_103 gfX11_27 k0 r0_3 rfl rfl ?_
      refine gR (q := 109) dX11_lift_106 gfX11_156 k33 r33_5 rfl rfl ?_
      refine Ev.iload_n (q := 110) dX11_lift_109 rfl rfl ?_
      refine aI (q := 111) (k := ln) dX11_lift_110 k35 (by first | rfl | omega | (simp (disch := omega) only [w32_of]; omega)) (by omega) rfl ?_
      rw [hH.sp hlln]
      refine rI dX11_lift_111 rfl ?_
      exact ⟨by unfold q_lift; rw [if_pos (by omega)]; rfl, Fr.rf _ _⟩
    by_cases w6 : what = 6
    · subst w6
      refine Ev.tabIn (q := 112) dX11_lift_15 (by decide) (by decide) rfl rfl ?_
      refine Ev.aload_n (q := 113) dX11_lift_112 rfl rfl ?_
      refine gR (q := 116) dX11_lift_113 gfX11_73 k0 r0_13 rfl rfl ?_
      refine Ev.aload_n (q := 117) dX11_lift_116 rfl rfl ?_
      refine gR (q := 120) dX11_lift_117 gfX11_34 k0 r0_4 rfl rfl ?_
      refine Ev.iload_n (q := 121) dX11_lift_120 rfl rfl ?_
      refine cV2v (q := 124) (d' := d + 1) dX11_lift_121 mlX11_159 moX10_begin mvX10_begin k65 rfl rfl rfl (Nat.le_refl _) rfl rfl rfl (p_X10_begin g 65 44 ln (by decide) (by decide) hI hlln hN) (fun r4 m4 e4 => ?_)
      obtain ⟨M1, rfl⟩ : ∃ M1, M1 = m4 := ⟨_, rfl⟩
      obtain ⟨hT1, hF1⟩ := e4
      have hH1 := hH.c hF1.C65
      have hN1 := hN.c hF1.C65
      refine Ev.aload_n (q := 125) dX11_lift_124 rfl rfl ?_
      refine gR (q := 128) dX11_lift_125 gfX11_73 k0 r0_13 rfl rfl ?_
      refine cV0i (q := 131) (d' := d + 1) dX11_lift_128 mlX11_163 moX10_nextStop mvX10_nextStop k65 rfl rfl rfl (Nat.le_refl _) rfl rfl rfl (p_X10_nextStop 65 (g (66 + ln)).toNat (g (60 + ln)).toNat (decide (g (69 + ln) = 1)) (by decide) hT1.1.2.1 hT1.1.2.2.2.1 hT1.1.2.2.2.2 hsln (by omega)) (fun r5 m5 e5 => ?_)
      obtain ⟨rfl, e5⟩ := e5
      obtain rfl := e5.symm
      refine rI dX11_lift_131 rfl ?_
      exact ⟨by unfold q_lift; rw [if_pos (by omega)]; rfl, hF1.C65⟩
    refine Ev.tabOut (q := 132) dX11_lift_15 (by omega) rfl ?_
    refine Ev.bipush (q := 134) dX11_lift_132 kb_m8 rfl ?_
    refine rI dX11_lift_134 rfl ?_
    exact ⟨by unfold q_lift; rw [if_pos (by omega), if_neg w0, if_neg w1, if_neg w2, if_neg w3, if_neg w4, if_neg w5, if_neg w6], Fr.rf _ _⟩
  · skip
    have hLL : ¬ (0 ≤ l ∧ l < g 2) := by split at h2 <;> omega
    refine Ev.bipush (q := 13) dX11_lift_11 kb_m8 rfl ?_
    refine rI dX11_lift_13 rfl ?_
    exact ⟨by unfold q_lift; rw [if_neg (by omega)], Fr.rf _ _⟩
set_option maxRecDepth 4000 in
theorem p_X11_person {Γ : Gm} {d : Nat} {m : Mem} (g : Row) (p what : Int) (hI : HI g) (hH : HouR g m 33) (hN : NowR g m 44) : Ci Γ (d + 1) MX11_person [rv 0, iv p, iv what] m (fun r m' => r = q_person g p what ∧ Fr sC m m') := by
  refine Ci.of moX11_person rfl rfl (fun hA hM => ?_)
  show Em Γ (d + 1) MX11_person _ 0 [rv 0, iv p, iv what] [] m
  have hF12 := hI.1
  have hP8 := hI.2.2.1
  have hL3 := hI.2.1
  obtain ⟨n0, n1, n2, n3⟩ := hH.n0
  refine Ev.aload_n (q := 1) dX11_person_0 rfl rfl ?_
  refine gR (q := 4) dX11_person_1 gfX11_27 k0 r0_3 rfl rfl ?_
  refine Ev.iload_n (q := 5) dX11_person_4 rfl rfl ?_
  refine cV1i (q := 8) (d' := d + 0) dX11_person_5 mlX11_167 moX1_hasPerson mvX1_hasPerson k33 rfl rfl rfl (Nat.le_refl _) rfl rfl rfl (p_X1_hasPerson p) (fun r1 m1 e1 => ?_)
  obtain ⟨rfl, e1⟩ := e1
  obtain rfl := e1.symm
  rw [n3]
  refine Ev.if_ne (tgt := 14) (q := 11) dX11_person_8 (by decide) rfl (fun h2 => ?_) (fun h2 => ?_)
  · skip
    have hPP : 0 ≤ p ∧ p < g 3 := by split at h2 <;> omega
    obtain ⟨pn, rfl⟩ : ∃ pn : Nat, p = pn := ⟨p.toNat, by omega⟩
    have hppn : (pn : Int) < g 3 := hPP.2
    have qppn := hI.pers hppn
    have a5pn : m 49 pn = g (72 + pn) := (hN.2 pn hppn).1
    have a6pn : m 50 pn = g (80 + pn) := (hN.2 pn hppn).2.1
    have a7pn : m 51 pn = g (88 + pn) := (hN.2 pn hppn).2.2
    obtain ⟨b0pn, b1pn, b2pn, b3pn⟩ := hH.ho hppn
    refine Ev.iload_n (q := 15) dX11_person_14 rfl rfl ?_
    by_cases w0 : what = 0
    · subst w0
      refine Ev.tabIn (q := 56) dX11_person_15 (by decide) (by decide) rfl rfl ?_
      refine Ev.aload_n (q := 57) dX11_person_56 rfl rfl ?_
      refine gR (q := 60) dX11_person_57 gfX11_34 k0 r0_4 rfl rfl ?_
      refine gR (q := 63) dX11_person_60 gfX11_170 k44 r44_4 rfl rfl ?_
      refine Ev.iload_n (q := 64) dX11_person_63 rfl rfl ?_
      refine aI (q := 65) (k := pn) dX11_person_64 k49 (by first | rfl | omega | (simp (disch := omega) only [w32_of]; omega)) (by omega) rfl ?_
      refine rI dX11_person_65 rfl ?_
      rw [a5pn]
      exact ⟨by unfold q_person; rw [if_pos (by omega)]; rfl, Fr.rf _ _⟩
    by_cases w1 : what = 1
    · subst w1
      refine Ev.tabIn (q := 66) dX11_person_15 (by decide) (by decide) rfl rfl ?_
      refine Ev.aload_n (q := 67) dX11_person_66 rfl rfl ?_
      refine gR (q := 70) dX11_person_67 gfX11_34 k0 r0_4 rfl rfl ?_
      refine gR (q := 73) dX11_person_70 gfX11_173 k44 r44_5 rfl rfl ?_
      refine Ev.iload_n (q := 74) dX11_person_73 rfl rfl ?_
      refine aI (q := 75) (k := pn) dX11_person_74 k50 (by first | rfl | omega | (simp (disch := omega) only [w32_of]; omega)) (by omega) rfl ?_
      refine rI dX11_person_75 rfl ?_
      rw [a6pn]
      exact ⟨by unfold q_person; rw [if_pos (by omega)]; rfl, Fr.rf _ _⟩
    by_cases w2 : what = 2
    · subst w2
      refine Ev.tabIn (q := 76) dX11_person_15 (by decide) (by decide) rfl rfl ?_
      refine Ev.aload_n (q := 77) dX11_person_76 rfl rfl ?_
      refine gR (q := 80) dX11_person_77 gfX11_34 k0 r0_4 rfl rfl ?_
      refine gR (q := 83) dX11_person_80 gfX11_176 k44 r44_6 rfl rfl ?_
      refine Ev.iload_n (q := 84) dX11_person_83 rfl rfl ?_
      refine aI (q := 85) (k := pn) dX11_person_84 k51 (by first | rfl | omega | (simp (disch := omega) only [w32_of]; omega)) (by omega) rfl ?_
      refine rI dX11_person_85 rfl ?_
      rw [a7pn]
      exact ⟨by unfold q_person; rw [if_pos (by omega)]; rfl, Fr.rf _ _⟩
    by_cases w3 : what = 3
    · subst w3
      refine Ev.tabIn (q := 86) dX11_person_15 (by decide) (by decide) rfl rfl ?_
      refine Ev.aload_n (q := 87) dX11_person_86 rfl rfl ?_
      refine gR (q := 90) dX11_person_87 gfX11_27 k0 r0_3 rfl rfl ?_
      refine gR (q := 93) dX11_person_90 gfX11_179 k33 r33_6 rfl rfl ?_
      refine Ev.iload_n (q := 94) dX11_person_93 rfl rfl ?_
      refine aI (q := 95) (k := pn) dX11_person_94 k36 (by first | rfl | omega | (simp (disch := omega) only [w32_of]; omega)) (by omega) rfl ?_
      refine rI dX11_person_95 rfl ?_
      rw [b0pn]
      exact ⟨by unfold q_person; rw [if_pos (by omega)]; rfl, Fr.rf _ _⟩
    by_cases w4 : what = 4
    · subst w4
      refine Ev.tabIn (q := 96) dX11_person_15 (by decide) (by decide) rfl rfl ?_
      refine Ev.aload_n (q := 97) dX11_person_96 rfl rfl ?_
      refine gR (q := 100) dX11_person_97 gfX11_27 k0 r0_3 rfl rfl ?_
      refine gR (q := 103) dX11_person_100 gfX11_182 k33 r33_7 rfl rfl ?_
      refine Ev.iload_n (q := 104) dX11_person_103 rfl rfl ?_
      refine aI (q := 105) (k := pn) dX11_person_104 k37 (by first | rfl | omega | (simp (disch := omega) only [w32_of]; omega)) (by omega) rfl ?_
      refine rI dX11_person_105 rfl ?_
      rw [b1pn]
      exact ⟨by unfold q_person; rw [if_pos (by omega)]; rfl, Fr.rf _ _⟩
    by_cases w5 : what = 5
    · subst w5
      refine Ev.tabIn (q := 106) dX11_person_15 (by decide) (by decide) rfl rfl ?_
      refine Ev.aload_n (q := 107) dX11_person_106 rfl rfl ?_
      refine gR (q := 110) dX11_person_107 gfX11_27 k0 r0_3 rfl rfl ?_
      refine gR (q := 113) dX11_person_110 gfX11_185 k33 r33_8 rfl rfl ?_
      refine Ev.iload_n (q := 114) dX11_person_113 rfl rfl ?_
      refine aI (q := 115) (k := pn) dX11_person_114 k38 (by first | rfl | omega | (simp (disch := omega) only [w32_of]; omega)) (by omega) rfl ?_
      refine rI dX11_person_115 rfl ?_
      rw [b2pn]
      exact ⟨by unfold q_person; rw [if_pos (by omega)]; rfl, Fr.rf _ _⟩
    by_cases w6 : what = 6
    · subst w6
      refine Ev.tabIn (q := 116) dX11_person_15 (by decide) (by decide) rfl rfl ?_
      refine Ev.aload_n (q := 117) dX11_person_116 rfl rfl ?_
      refine gR (q := 120) dX11_person_117 gfX11_27 k0 r0_3 rfl rfl ?_
      refine gR (q := 123) dX11_person_120 gfX11_188 k33 r33_9 rfl rfl ?_
      refine Ev.iload_n (q := 124) dX11_person_123 rfl rfl ?_
      refine aI (q := 125) (k := pn) dX11_person_124 k39 (by first | rfl | omega | (simp (disch := omega) only [w32_of]; omega)) (by omega) rfl ?_
      refine rI dX11_person_125 rfl ?_
      rw [b3pn]
      exact ⟨by unfold q_person; rw [if_pos (by omega)]; rfl, Fr.rf _ _⟩
    refine Ev.tabOut (q := 126) dX11_person_15 (by omega) rfl ?_
    refine Ev.bipush (q := 128) dX11_person_126 kb_m8 rfl ?_
    refine rI dX11_person_128 rfl ?_
    exact ⟨by unfold q_person; rw [if_pos (by omega), if_neg w0, if_neg w1, if_neg w2, if_neg w3, if_neg w4, if_neg w5, if_neg w6], Fr.rf _ _⟩
  · skip
    have hPP : ¬ (0 ≤ p ∧ p < g 3) := by split at h2 <;> omega
    refine Ev.bipush (q := 13) dX11_person_11 kb_m8 rfl ?_
    refine rI dX11_person_13 rfl ?_
    exact ⟨by unfold q_person; rw [if_neg (by omega)], Fr.rf _ _⟩
set_option maxRecDepth 4000 in
theorem p_X11_foot {Γ : Gm} {d : Nat} {m : Mem} (g : Row) (p f t : Int) (hI : HI g) (hH : HouR g m 33) (hN : NowR g m 44) : Ci Γ (d + 1) MX11_foot [rv 0, iv p, iv f, iv t] m (fun r m' => r = q_foot g p f t ∧ Fr sC m m') := by
  refine Ci.of moX11_foot rfl rfl (fun hA hM => ?_)
  show Em Γ (d + 1) MX11_foot _ 0 [rv 0, iv p, iv f, iv t] [] m
  have hF12 := hI.1
  have hP8 := hI.2.2.1
  have hL3 := hI.2.1
  obtain ⟨n0, n1, n2, n3⟩ := hH.n0
  refine Ev.aload_n (q := 1) dX11_foot_0 rfl rfl ?_
  refine gR (q := 4) dX11_foot_1 gfX11_27 k0 r0_3 rfl rfl ?_
  refine Ev.iload_n (q := 5) dX11_foot_4 rfl rfl ?_
  refine cV1i (q := 8) (d' := d + 0) dX11_foot_5 mlX11_167 moX1_hasPerson mvX1_hasPerson k33 rfl rfl rfl (Nat.le_refl _) rfl rfl rfl (p_X1_hasPerson p) (fun r1 m1 e1 => ?_)
  obtain ⟨rfl, e1⟩ := e1
  obtain rfl := e1.symm
  rw [n3]
  refine Ev.if_eq (tgt := 33) (q := 11) dX11_foot_8 (by decide) rfl (fun h2 => ?_) (fun h2 => ?_)
  · skip
    have hPP : ¬ (0 ≤ p ∧ p < g 3) := by split at h2 <;> omega
    refine Ev.bipush (q := 35) dX11_foot_33 kb_m2 rfl ?_
    refine rI dX11_foot_35 rfl ?_
    exact ⟨by unfold q_foot; rw [if_neg (by omega)], Fr.rf _ _⟩
  · skip
    have hPP : 0 ≤ p ∧ p < g 3 := by split at h2 <;> omega
    obtain ⟨pn, rfl⟩ : ∃ pn : Nat, p = pn := ⟨p.toNat, by omega⟩
    have hppn : (pn : Int) < g 3 := hPP.2
    have qppn := hI.pers hppn
    have a5pn : m 49 pn = g (72 + pn) := (hN.2 pn hppn).1
    have a6pn : m 50 pn = g (80 + pn) := (hN.2 pn hppn).2.1
    have a7pn : m 51 pn = g (88 + pn) := (hN.2 pn hppn).2.2
    obtain ⟨b0pn, b1pn, b2pn, b3pn⟩ := hH.ho hppn
    refine Ev.aload_n (q := 12) dX11_foot_11 rfl rfl ?_
    refine gR (q := 15) dX11_foot_12 gfX11_27 k0 r0_3 rfl rfl ?_
    refine Ev.iload_n (q := 16) dX11_foot_15 rfl rfl ?_
    refine cV1i (q := 19) (d' := d + 0) dX11_foot_16 mlX11_191 moX1_hasFloor mvX1_hasFloor k33 rfl rfl rfl (Nat.le_refl _) rfl rfl rfl (p_X1_hasFloor f) (fun r3 m3 e3 => ?_)
    obtain ⟨rfl, e3⟩ := e3
    obtain rfl := e3.symm
    rw [n0]
    refine Ev.if_eq (tgt := 33) (q := 22) dX11_foot_19 (by decide) rfl (fun h4 => ?_) (fun h4 => ?_)
    · skip
      have hFF : ¬ (0 ≤ f ∧ f < g 1) := by split at h4 <;> omega
      refine Ev.bipush (q := 35) dX11_foot_33 kb_m2 rfl ?_
      refine rI dX11_foot_35 rfl ?_
      exact ⟨by unfold q_foot; rw [if_neg (by omega)], Fr.rf _ _⟩
    · skip
      have hFFfn : 0 ≤ f ∧ f < g 1 := by split at h4 <;> omega
      obtain ⟨fn, rfl⟩ : ∃ fn : Nat, f = fn := ⟨f.toNat, by omega⟩
      have hffn : (fn : Int) < g 1 := hFFfn.2
      refine Ev.aload_n (q := 23) dX11_foot_22 rfl rfl ?_
      refine gR (q := 26) dX11_foot_23 gfX11_27 k0 r0_3 rfl rfl ?_
      refine Ev.iload_n (q := 27) dX11_foot_26 rfl rfl ?_
      refine cV1i (q := 30) (d' := d + 0) dX11_foot_27 mlX11_191 moX1_hasFloor mvX1_hasFloor k33 rfl rfl rfl (Nat.le_refl _) rfl rfl rfl (p_X1_hasFloor t) (fun r5 m5 e5 => ?_)
      obtain ⟨rfl, e5⟩ := e5
      obtain rfl := e5.symm
      rw [n0]
      refine Ev.if_ne (tgt := 36) (q := 33) dX11_foot_30 (by decide) rfl (fun h6 => ?_) (fun h6 => ?_)
      · skip
        have hFFtn : 0 ≤ t ∧ t < g 1 := by split at h6 <;> omega
        obtain ⟨tn, rfl⟩ : ∃ tn : Nat, t = tn := ⟨t.toNat, by omega⟩
        have hftn : (tn : Int) < g 1 := hFFtn.2
        refine Ev.aload_n (q := 37) dX11_foot_36 rfl rfl ?_
        refine gR (q := 40) dX11_foot_37 gfX11_27 k0 r0_3 rfl rfl ?_
        refine Ev.iload_n (q := 41) dX11_foot_40 rfl rfl ?_
        refine Ev.iload_n (q := 42) dX11_foot_41 rfl rfl ?_
        refine Ev.iload_n (q := 43) dX11_foot_42 rfl rfl ?_
        refine cV3i (q := 46) (d' := d + 0) dX11_foot_43 mlX11_194 moX1_onFoot mvX1_onFoot k33 rfl rfl rfl (Nat.le_refl _) rfl rfl rfl (p_X1_onFoot g 33 pn fn tn (g 1).toNat (by decide) (by omega) (by omega) (by omega) (by omega) (fun i hi => ⟨((hH.2.2.2 pn hppn).2 i (by omega)).1, ((hH.2.2.2 pn hppn).2 i (by omega)).2.1⟩)) (fun r7 m7 e7 => ?_)
        obtain ⟨rfl, e7⟩ := e7
        obtain rfl := e7.symm
        refine rI dX11_foot_46 rfl ?_
        exact ⟨by unfold q_foot; rw [if_pos (by omega)]; rfl, Fr.rf _ _⟩
      · skip
        have hFF : ¬ (0 ≤ t ∧ t < g 1) := by split at h6 <;> omega
        refine Ev.bipush (q := 35) dX11_foot_33 kb_m2 rfl ?_
        refine rI dX11_foot_35 rfl ?_
        exact ⟨by unfold q_foot; rw [if_neg (by omega)], Fr.rf _ _⟩
set_option maxRecDepth 4000 in
theorem p_X11_stop {Γ : Gm} {d : Nat} {m : Mem} (g : Row) (l f n : Int) (hI : HI g) (hH : HouR g m 33) (hN : NowR g m 44) : Ci Γ (d + 2) MX11_stop [rv 0, iv l, iv f, iv n] m (fun r m' => r = q_stop g l f n ∧ Fr sC m m') := by
  refine Ci.of moX11_stop rfl rfl (fun hA hM => ?_)
  show Em Γ (d + 2) MX11_stop _ 0 [rv 0, iv l, iv f, iv n] [] m
  have hF12 := hI.1
  have hP8 := hI.2.2.1
  have hL3 := hI.2.1
  obtain ⟨n0, n1, n2, n3⟩ := hH.n0
  refine Ev.aload_n (q := 1) dX11_stop_0 rfl rfl ?_
  refine gR (q := 4) dX11_stop_1 gfX11_27 k0 r0_3 rfl rfl ?_
  refine Ev.iload_n (q := 5) dX11_stop_4 rfl rfl ?_
  refine cV1i (q := 8) (d' := d + 1) dX11_stop_5 mlX11_135 moX1_hasLift mvX1_hasLift k33 rfl rfl rfl (Nat.le_refl _) rfl rfl rfl (p_X1_hasLift l) (fun r1 m1 e1 => ?_)
  obtain ⟨rfl, e1⟩ := e1
  obtain rfl := e1.symm
  rw [n2]
  refine Ev.if_eq (tgt := 22) (q := 11) dX11_stop_8 (by decide) rfl (fun h2 => ?_) (fun h2 => ?_)
  · skip
    have hLL : ¬ (0 ≤ l ∧ l < g 2) := by split at h2 <;> omega
    refine Ev.bipush (q := 24) dX11_stop_22 kb_m2 rfl ?_
    refine rI dX11_stop_24 rfl ?_
    exact ⟨by unfold q_stop; rw [if_neg (by omega)], Fr.rf _ _⟩
  · skip
    have hLLln : 0 ≤ l ∧ l < g 2 := by split at h2 <;> omega
    obtain ⟨ln, rfl⟩ : ∃ ln : Nat, l = ln := ⟨l.toNat, by omega⟩
    have hlln : (ln : Int) < g 2 := hLLln.2
    have qlln := hI.lift hlln
    have hlokln := hI.litOk hlln
    have hsln := hlokln.lt hI
    have a1ln : m 45 ln = g (60 + ln) := (hN.1 ln hlln).1
    have a2ln : m 46 ln = g (63 + ln) := (hN.1 ln hlln).2.1
    have a3ln : m 47 ln = ((litV g ln : Nat) : Int) := E47 hI hlln hN
    have a4ln : m 48 ln = g (69 + ln) := (hN.1 ln hlln).2.2.2
    refine Ev.aload_n (q := 12) dX11_stop_11 rfl rfl ?_
    refine gR (q := 15) dX11_stop_12 gfX11_27 k0 r0_3 rfl rfl ?_
    refine Ev.iload_n (q := 16) dX11_stop_15 rfl rfl ?_
    refine cV1i (q := 19) (d' := d + 1) dX11_stop_16 mlX11_191 moX1_hasFloor mvX1_hasFloor k33 rfl rfl rfl (Nat.le_refl _) rfl rfl rfl (p_X1_hasFloor f) (fun r3 m3 e3 => ?_)
    obtain ⟨rfl, e3⟩ := e3
    obtain rfl := e3.symm
    rw [n0]
    refine Ev.if_ne (tgt := 25) (q := 22) dX11_stop_19 (by decide) rfl (fun h4 => ?_) (fun h4 => ?_)
    · skip
      have hFFfn : 0 ≤ f ∧ f < g 1 := by split at h4 <;> omega
      obtain ⟨fn, rfl⟩ : ∃ fn : Nat, f = fn := ⟨f.toNat, by omega⟩
      have hffn : (fn : Int) < g 1 := hFFfn.2
      refine Ev.iload_n (q := 26) dX11_stop_25 rfl rfl ?_
      refine Ev.iconst (q := 27) dX11_stop_26 ki_1 rfl ?_
      refine Ev.icmp_lt (tgt := 36) (q := 30) dX11_stop_27 (by decide) rfl (fun h5 => ?_) (fun h5 => ?_)
      · skip
        refine Ev.bipush (q := 38) dX11_stop_36 kb_m3 rfl ?_
        refine rI dX11_stop_38 rfl ?_
        exact ⟨by unfold q_stop; rw [if_pos (by omega), if_neg (by omega)], Fr.rf _ _⟩
      · skip
        refine Ev.iload_n (q := 31) dX11_stop_30 rfl rfl ?_
        refine Ev.bipush (q := 33) dX11_stop_31 kb_12 rfl ?_
        refine Ev.icmp_lt (tgt := 39) (q := 36) dX11_stop_33 (by decide) rfl (fun h6 => ?_) (fun h6 => ?_)
        · skip
          obtain ⟨nn, rfl⟩ : ∃ nn : Nat, n = nn := ⟨n.toNat, by omega⟩
          refine Ev.aload_n (q := 40) dX11_stop_39 rfl rfl ?_
          refine gR (q := 43) dX11_stop_40 gfX11_27 k0 r0_3 rfl rfl ?_
          refine Ev.iload_n (q := 44) dX11_stop_43 rfl rfl ?_
          refine Ev.iload_n (q := 45) dX11_stop_44 rfl rfl ?_
          refine Ev.iload_n (q := 46) dX11_stop_45 rfl rfl ?_
          refine cV3i (q := 49) (d' := d + 1) dX11_stop_46 mlX11_198 moX1_lasts mvX1_lasts k33 rfl rfl rfl (Nat.le_refl _) rfl rfl rfl (p_X1_lasts 33 ln fn nn (by decide) (by omega) (by omega) (by omega)) (fun r7 m7 e7 => ?_)
          obtain ⟨rfl, e7⟩ := e7
          obtain rfl := e7.symm
          rw [show (33 : Nat) + 10 = 43 from rfl, hH.st hlln (by omega) (by omega) (by omega)]
          refine rI dX11_stop_49 rfl ?_
          exact ⟨by unfold q_stop; rw [if_pos (by omega), if_pos (by omega)]; rfl, Fr.rf _ _⟩
        · skip
          refine Ev.bipush (q := 38) dX11_stop_36 kb_m3 rfl ?_
          refine rI dX11_stop_38 rfl ?_
          exact ⟨by unfold q_stop; rw [if_pos (by omega), if_neg (by omega)], Fr.rf _ _⟩
    · skip
      have hFF : ¬ (0 ≤ f ∧ f < g 1) := by split at h4 <;> omega
      refine Ev.bipush (q := 24) dX11_stop_22 kb_m2 rfl ?_
      refine rI dX11_stop_24 rfl ?_
      exact ⟨by unfold q_stop; rw [if_neg (by omega)], Fr.rf _ _⟩
set_option maxRecDepth 4000 in
theorem p_X11_calls {Γ : Gm} {d : Nat} {m : Mem} (g : Row) (f : Int) (hI : HI g) (hH : HouR g m 33) (hN : NowR g m 44) : Ci Γ (d + 1) MX11_calls [rv 0, iv f] m (fun r m' => r = q_calls g f ∧ Fr sC m m') := by
  refine Ci.of moX11_calls rfl rfl (fun hA hM => ?_)
  show Em Γ (d + 1) MX11_calls _ 0 [rv 0, iv f] [] m
  have hF12 := hI.1
  have hP8 := hI.2.2.1
  have hL3 := hI.2.1
  obtain ⟨n0, n1, n2, n3⟩ := hH.n0
  refine Ev.aload_n (q := 1) dX11_calls_0 rfl rfl ?_
  refine gR (q := 4) dX11_calls_1 gfX11_27 k0 r0_3 rfl rfl ?_
  refine Ev.iload_n (q := 5) dX11_calls_4 rfl rfl ?_
  refine cV1i (q := 8) (d' := d + 0) dX11_calls_5 mlX11_191 moX1_hasFloor mvX1_hasFloor k33 rfl rfl rfl (Nat.le_refl _) rfl rfl rfl (p_X1_hasFloor f) (fun r1 m1 e1 => ?_)
  obtain ⟨rfl, e1⟩ := e1
  obtain rfl := e1.symm
  rw [n0]
  refine Ev.if_eq (tgt := 23) (q := 11) dX11_calls_8 (by decide) rfl (fun h2 => ?_) (fun h2 => ?_)
  · skip
    have hFF : ¬ (0 ≤ f ∧ f < g 1) := by split at h2 <;> omega
    refine Ev.bipush (q := 25) dX11_calls_23 kb_m2 rfl ?_
    refine rI dX11_calls_25 rfl ?_
    exact ⟨by unfold q_calls; rw [if_neg (by omega)], Fr.rf _ _⟩
  · skip
    have hFFfn : 0 ≤ f ∧ f < g 1 := by split at h2 <;> omega
    obtain ⟨fn, rfl⟩ : ∃ fn : Nat, f = fn := ⟨f.toNat, by omega⟩
    have hffn : (fn : Int) < g 1 := hFFfn.2
    refine Ev.aload_n (q := 12) dX11_calls_11 rfl rfl ?_
    refine gR (q := 15) dX11_calls_12 gfX11_27 k0 r0_3 rfl rfl ?_
    refine gR (q := 18) dX11_calls_15 gfX11_201 k33 r33_4 rfl rfl ?_
    refine Ev.iload_n (q := 19) dX11_calls_18 rfl rfl ?_
    refine aI (q := 20) (k := fn) dX11_calls_19 k34 (by first | rfl | omega | (simp (disch := omega) only [w32_of]; omega)) (by omega) rfl ?_
    rw [show m 34 fn = g (10 + fn) from hH.2.1 fn (by omega)]
    refine Ev.goto (q := 25) dX11_calls_20 (by decide) ?_
    refine rI dX11_calls_25 rfl ?_
    exact ⟨by unfold q_calls; rw [if_pos (by omega)]; rfl, Fr.rf _ _⟩
set_option maxRecDepth 4000 in
theorem p_X11_stops {Γ : Gm} {d : Nat} {m : Mem} (g : Row) (l : Int) (hI : HI g) (hH : HouR g m 33) (hN : NowR g m 44) : Ci Γ (d + 1) MX11_stops [rv 0, iv l] m (fun r m' => r = q_stops g l ∧ Fr sC m m') := by
  refine Ci.of moX11_stops rfl rfl (fun hA hM => ?_)
  show Em Γ (d + 1) MX11_stops _ 0 [rv 0, iv l] [] m
  have hF12 := hI.1
  have hP8 := hI.2.2.1
  have hL3 := hI.2.1
  obtain ⟨n0, n1, n2, n3⟩ := hH.n0
  refine Ev.aload_n (q := 1) dX11_stops_0 rfl rfl ?_
  refine gR (q := 4) dX11_stops_1 gfX11_27 k0 r0_3 rfl rfl ?_
  refine Ev.iload_n (q := 5) dX11_stops_4 rfl rfl ?_
  refine cV1i (q := 8) (d' := d + 0) dX11_stops_5 mlX11_135 moX1_hasLift mvX1_hasLift k33 rfl rfl rfl (Nat.le_refl _) rfl rfl rfl (p_X1_hasLift l) (fun r1 m1 e1 => ?_)
  obtain ⟨rfl, e1⟩ := e1
  obtain rfl := e1.symm
  rw [n2]
  refine Ev.if_ne (tgt := 14) (q := 11) dX11_stops_8 (by decide) rfl (fun h2 => ?_) (fun h2 => ?_)
  · skip
    have hLLln : 0 ≤ l ∧ l < g 2 := by split at h2 <;> omega
    obtain ⟨ln, rfl⟩ : ∃ ln : Nat, l = ln := ⟨l.toNat, by omega⟩
    have hlln : (ln : Int) < g 2 := hLLln.2
    have qlln := hI.lift hlln
    have hlokln := hI.litOk hlln
    have hsln := hlokln.lt hI
    have a1ln : m 45 ln = g (60 + ln) := (hN.1 ln hlln).1
    have a2ln : m 46 ln = g (63 + ln) := (hN.1 ln hlln).2.1
    have a3ln : m 47 ln = ((litV g ln : Nat) : Int) := E47 hI hlln hN
    have a4ln : m 48 ln = g (69 + ln) := (hN.1 ln hlln).2.2.2
    refine Ev.aload_n (q := 15) dX11_stops_14 rfl rfl ?_
    refine gR (q := 18) dX11_stops_15 gfX11_34 k0 r0_4 rfl rfl ?_
    refine gR (q := 21) dX11_stops_18 gfX11_146 k44 r44_2 rfl rfl ?_
    refine Ev.iload_n (q := 22) dX11_stops_21 rfl rfl ?_
    refine aI (q := 23) (k := ln) dX11_stops_22 k47 (by first | rfl | omega | (simp (disch := omega) only [w32_of]; omega)) (by omega) rfl ?_
    rw [a3ln]
    refine cS1i (q := 26) (d' := d + 0) dX11_stops_23 mlX11_214 moJ6_bitCount_0f7a4 msJ6_bitCount_0f7a4 rfl rfl (Nat.le_refl _) rfl rfl rfl (p_J6_bitCount_0f7a4 (litV g ln) hsln) (fun r3 m3 e3 => ?_)
    obtain ⟨rfl, e3⟩ := e3
    obtain rfl := e3.symm
    refine rI dX11_stops_26 rfl ?_
    exact ⟨by unfold q_stops; rw [if_pos (by omega)]; rfl, Fr.rf _ _⟩
  · skip
    have hLL : ¬ (0 ≤ l ∧ l < g 2) := by split at h2 <;> omega
    refine Ev.bipush (q := 13) dX11_stops_11 kb_m2 rfl ?_
    refine rI dX11_stops_13 rfl ?_
    exact ⟨by unfold q_stops; rw [if_neg (by omega)], Fr.rf _ _⟩
set_option maxRecDepth 4000 in
theorem lc_stopAt {Γ : Gm} {d : Nat} {m0 : Mem} (g : Row) (hI : HI g) (hH : HouR g m0 33) (hN : NowR g m0 44) (l k : Nat) (T : Int) (hl : (l : Int) < g 2) : ∀ (n i : Nat) (M : Mem) (h : Nat) (tt : Int) (s : Nat) (u : Bool) (cm : Int), i + n = 12 → i ≤ k → CT M 65 l (h, tt, s, u, cm) → tOk2 (g 1).toNat (h, tt, s, u, cm) → Fr (sA 65) m0 M → T = (if 12 ≤ k then -1 else rdK (g (22 + l)) (stopV g l) (k - i) (h, tt, s, u, cm)) → Em Γ (d + 3) MX11_stopAt (fun r m' => r = T ∧ Fr sC m0 m') 35 [rv 0, iv l, iv k, iv i] [] M := by
  have hF12 := hI.1
  have hP8 := hI.2.2.1
  have hL3 := hI.2.1

  intro n
  induction n with
  | zero =>
    intro i M h tt s u cm hi hik hC hok hF hT
    refine Ev.iload_n (q := 36) dX11_stopAt_35 rfl rfl ?_
    refine Ev.bipush (q := 38) dX11_stopAt_36 kb_12 rfl ?_
    refine Ev.icmp_ge (tgt := 70) (q := 41) dX11_stopAt_38 (by decide) rfl (fun h1 => ?_) (fun h1 => ?_)
    · skip
      refine Ev.iconst (q := 71) dX11_stopAt_70 ki_m1 rfl ?_
      refine rI dX11_stopAt_71 rfl ?_
      exact ⟨by rw [hT, if_pos (by omega)], hF.C65⟩
    · skip
      omega
  | succ n ih =>
    intro i M h tt s u cm hi hik hC hok hF hT

    refine Ev.iload_n (q := 36) dX11_stopAt_35 rfl rfl ?_
    refine Ev.bipush (q := 38) dX11_stopAt_36 kb_12 rfl ?_
    refine Ev.icmp_ge (tgt := 70) (q := 41) dX11_stopAt_38 (by decide) rfl (fun h1 => ?_) (fun h1 => ?_)
    · skip
      omega
    · skip
      refine Ev.aload_n (q := 42) dX11_stopAt_41 rfl rfl ?_
      refine gR (q := 45) dX11_stopAt_42 gfX11_73 k0 r0_13 rfl rfl ?_
      refine cV0i (q := 48) (d' := d + 2) dX11_stopAt_45 mlX11_271 moX10_rideOn mvX10_rideOn k65 rfl rfl rfl (Nat.le_refl _) rfl rfl rfl (p_X10_rideOn g 65 l h tt s u cm (by decide) hI hl (hH.c hF.C65) hC hok) (fun r2 m2 e2 => ?_)
      obtain ⟨M9, rfl⟩ : ∃ M9, M9 = m2 := ⟨_, rfl⟩
      obtain ⟨eN, eS⟩ := e2
      refine Ev.if_eq (tgt := 70) (q := 51) dX11_stopAt_48 (by decide) rfl (fun h3 => ?_) (fun h3 => ?_)
      · skip
        have hg : tgo (g (22 + l)) (stopV g l) (h, tt, s, u, cm) = none := by
          cases hg : tgo (g (22 + l)) (stopV g l) (h, tt, s, u, cm) with
          | none => rfl
          | some t' => have := (eS t' hg).1; omega
        obtain ⟨-, rfl⟩ := eN hg
        refine Ev.iconst (q := 71) dX11_stopAt_70 ki_m1 rfl ?_
        refine rI dX11_stopAt_71 rfl ?_
        refine ⟨?_, hF.C65⟩
        rw [hT]
        split
        · rfl
        · rw [rdK_none hg]
      · skip
        obtain ⟨t', hg⟩ : ∃ t', tgo (g (22 + l)) (stopV g l) (h, tt, s, u, cm) = some t' := by
          cases hg : tgo (g (22 + l)) (stopV g l) (h, tt, s, u, cm) with
          | none => have := (eN hg).1; omega
          | some t' => exact ⟨t', rfl⟩
        obtain ⟨-, hT', hF'⟩ := eS t' hg
        have hok' := tgo_ok2 hok hg
        have hF9 : Fr (sA 65) m0 M9 := hF.tr hF'
        refine Ev.iload_n (q := 52) dX11_stopAt_51 rfl rfl ?_
        refine Ev.iload_n (q := 53) dX11_stopAt_52 rfl rfl ?_
        refine Ev.icmp_ne (tgt := 64) (q := 56) dX11_stopAt_53 (by decide) rfl (fun h4 => ?_) (fun h4 => ?_)
        · skip
          refine iinc_3 (q := 67) dX11_stopAt_64 rfl rfl rfl ?_
          refine Ev.goto (q := 35) dX11_stopAt_67 (by decide) ?_
          rw [w32_of (by omega) (by omega)]
          refine ih (i + 1) M9 t'.1 t'.2.1 t'.2.2.1 t'.2.2.2.1 t'.2.2.2.2 (by omega) (by omega) hT'.1 hok' hF9 ?_
          rw [hT]
          split
          · rfl
          · rw [show k - i = (k - (i + 1)) + 1 by omega, rdK_s hg]
        · skip
          refine Ev.aload_n (q := 57) dX11_stopAt_56 rfl rfl ?_
          refine gR (q := 60) dX11_stopAt_57 gfX11_73 k0 r0_13 rfl rfl ?_
          refine gI (q := 63) dX11_stopAt_60 gfX11_274 k65 rfl rfl ?_
          rw [hT'.1.2.1]
          refine rI dX11_stopAt_63 rfl ?_
          exact ⟨by rw [hT, if_neg (by omega), show k - i = 0 by omega, rdK_0 hg], hF9.C65⟩
set_option maxRecDepth 4000 in
theorem p_X11_stopAt {Γ : Gm} {d : Nat} {m : Mem} (g : Row) (l k : Int) (hI : HI g) (hH : HouR g m 33) (hN : NowR g m 44) : Ci Γ (d + 3) MX11_stopAt [rv 0, iv l, iv k] m (fun r m' => r = q_stopAt g l k ∧ Fr sC m m') := by
  refine Ci.of moX11_stopAt rfl rfl (fun hA hM => ?_)
  show Em Γ (d + 3) MX11_stopAt _ 0 [rv 0, iv l, iv k, uv] [] m
  have hF12 := hI.1
  have hP8 := hI.2.2.1
  have hL3 := hI.2.1
  obtain ⟨n0, n1, n2, n3⟩ := hH.n0
  refine Ev.aload_n (q := 1) dX11_stopAt_0 rfl rfl ?_
  refine gR (q := 4) dX11_stopAt_1 gfX11_27 k0 r0_3 rfl rfl ?_
  refine Ev.iload_n (q := 5) dX11_stopAt_4 rfl rfl ?_
  refine cV1i (q := 8) (d' := d + 2) dX11_stopAt_5 mlX11_135 moX1_hasLift mvX1_hasLift k33 rfl rfl rfl (Nat.le_refl _) rfl rfl rfl (p_X1_hasLift l) (fun r1 m1 e1 => ?_)
  obtain ⟨rfl, e1⟩ := e1
  obtain rfl := e1.symm
  rw [n2]
  refine Ev.if_ne (tgt := 14) (q := 11) dX11_stopAt_8 (by decide) rfl (fun h2 => ?_) (fun h2 => ?_)
  · skip
    have hLLln : 0 ≤ l ∧ l < g 2 := by split at h2 <;> omega
    obtain ⟨ln, rfl⟩ : ∃ ln : Nat, l = ln := ⟨l.toNat, by omega⟩
    have hlln : (ln : Int) < g 2 := hLLln.2
    have qlln := hI.lift hlln
    have hlokln := hI.litOk hlln
    have hsln := hlokln.lt hI
    have a1ln : m 45 ln = g (60 + ln) := (hN.1 ln hlln).1
    have a2ln : m 46 ln = g (63 + ln) := (hN.1 ln hlln).2.1
    have a3ln : m 47 ln = ((litV g ln : Nat) : Int) := E47 hI hlln hN
    have a4ln : m 48 ln = g (69 + ln) := (hN.1 ln hlln).2.2.2
    refine Ev.iload_n (q := 15) dX11_stopAt_14 rfl rfl ?_
    refine Ev.if_ge (tgt := 21) (q := 18) dX11_stopAt_15 (by decide) rfl (fun h3 => ?_) (fun h3 => ?_)
    · skip
      obtain ⟨kn, rfl⟩ : ∃ kn : Nat, k = kn := ⟨k.toNat, by omega⟩
      refine Ev.aload_n (q := 22) dX11_stopAt_21 rfl rfl ?_
      refine gR (q := 25) dX11_stopAt_22 gfX11_73 k0 r0_13 rfl rfl ?_
      refine Ev.aload_n (q := 26) dX11_stopAt_25 rfl rfl ?_
      refine gR (q := 29) dX11_stopAt_26 gfX11_34 k0 r0_4 rfl rfl ?_
      refine Ev.iload_n (q := 30) dX11_stopAt_29 rfl rfl ?_
      refine cV2v (q := 33) (d' := d + 2) dX11_stopAt_30 mlX11_159 moX10_begin mvX10_begin k65 rfl rfl rfl (Nat.le_refl _) rfl rfl rfl (p_X10_begin g 65 44 ln (by decide) (by decide) hI hlln hN) (fun r4 m4 e4 => ?_)
      obtain ⟨M1, rfl⟩ : ∃ M1, M1 = m4 := ⟨_, rfl⟩
      obtain ⟨hT1, hF1⟩ := e4
      have hH1 := hH.c hF1.C65
      have hN1 := hN.c hF1.C65
      refine Ev.iconst (q := 34) dX11_stopAt_33 ki_0 rfl ?_
      refine istore_n_3 (q := 35) dX11_stopAt_34 rfl rfl rfl ?_
      refine lc_stopAt (m0 := m) g hI hH hN ln kn _ hlln 12 0 M1 _ _ _ _ _ (by omega) (by omega) hT1.1 (hI.liftC hlln) hF1 ?_
      unfold q_stopAt
      rw [if_pos (by omega), if_neg (by omega)]
      by_cases h12 : 12 ≤ kn
      · rw [if_pos (by omega), if_pos h12]
      · rw [if_neg (by omega), if_neg h12]
        exact rdK_came _ _
    · skip
      refine Ev.bipush (q := 20) dX11_stopAt_18 kb_m3 rfl ?_
      refine rI dX11_stopAt_20 rfl ?_
      exact ⟨by unfold q_stopAt; rw [if_pos (by omega), if_pos (by omega)], Fr.rf _ _⟩
  · skip
    have hLL : ¬ (0 ≤ l ∧ l < g 2) := by split at h2 <;> omega
    refine Ev.bipush (q := 13) dX11_stopAt_11 kb_m2 rfl ?_
    refine rI dX11_stopAt_13 rfl ?_
    exact ⟨by unfold q_stopAt; rw [if_neg (by omega)], Fr.rf _ _⟩
set_option maxRecDepth 4000 in
theorem p_X11_comes {Γ : Gm} {d : Nat} {m : Mem} (g : Row) (l f : Int) (hI : HI g) (hH : HouR g m 33) (hN : NowR g m 44) : Ci Γ (d + 4) MX11_comes [rv 0, iv l, iv f] m (fun r m' => r = q_comes g l f ∧ Fr sC m m') := by
  refine Ci.of moX11_comes rfl rfl (fun hA hM => ?_)
  show Em Γ (d + 4) MX11_comes _ 0 [rv 0, iv l, iv f] [] m
  have hF12 := hI.1
  have hP8 := hI.2.2.1
  have hL3 := hI.2.1
  obtain ⟨n0, n1, n2, n3⟩ := hH.n0
  refine Ev.aload_n (q := 1) dX11_comes_0 rfl rfl ?_
  refine gR (q := 4) dX11_comes_1 gfX11_27 k0 r0_3 rfl rfl ?_
  refine Ev.iload_n (q := 5) dX11_comes_4 rfl rfl ?_
  refine cV1i (q := 8) (d' := d + 3) dX11_comes_5 mlX11_135 moX1_hasLift mvX1_hasLift k33 rfl rfl rfl (Nat.le_refl _) rfl rfl rfl (p_X1_hasLift l) (fun r1 m1 e1 => ?_)
  obtain ⟨rfl, e1⟩ := e1
  obtain rfl := e1.symm
  rw [n2]
  refine Ev.if_eq (tgt := 22) (q := 11) dX11_comes_8 (by decide) rfl (fun h2 => ?_) (fun h2 => ?_)
  · skip
    have hLL : ¬ (0 ≤ l ∧ l < g 2) := by split at h2 <;> omega
    refine Ev.bipush (q := 24) dX11_comes_22 kb_m2 rfl ?_
    refine rI dX11_comes_24 rfl ?_
    exact ⟨by unfold q_comes; rw [if_neg (by omega)], Fr.rf _ _⟩
  · skip
    have hLLln : 0 ≤ l ∧ l < g 2 := by split at h2 <;> omega
    obtain ⟨ln, rfl⟩ : ∃ ln : Nat, l = ln := ⟨l.toNat, by omega⟩
    have hlln : (ln : Int) < g 2 := hLLln.2
    have qlln := hI.lift hlln
    have hlokln := hI.litOk hlln
    have hsln := hlokln.lt hI
    have a1ln : m 45 ln = g (60 + ln) := (hN.1 ln hlln).1
    have a2ln : m 46 ln = g (63 + ln) := (hN.1 ln hlln).2.1
    have a3ln : m 47 ln = ((litV g ln : Nat) : Int) := E47 hI hlln hN
    have a4ln : m 48 ln = g (69 + ln) := (hN.1 ln hlln).2.2.2
    refine Ev.aload_n (q := 12) dX11_comes_11 rfl rfl ?_
    refine gR (q := 15) dX11_comes_12 gfX11_27 k0 r0_3 rfl rfl ?_
    refine Ev.iload_n (q := 16) dX11_comes_15 rfl rfl ?_
    refine cV1i (q := 19) (d' := d + 3) dX11_comes_16 mlX11_191 moX1_hasFloor mvX1_hasFloor k33 rfl rfl rfl (Nat.le_refl _) rfl rfl rfl (p_X1_hasFloor f) (fun r3 m3 e3 => ?_)
    obtain ⟨rfl, e3⟩ := e3
    obtain rfl := e3.symm
    rw [n0]
    refine Ev.if_ne (tgt := 25) (q := 22) dX11_comes_19 (by decide) rfl (fun h4 => ?_) (fun h4 => ?_)
    · skip
      have hFFfn : 0 ≤ f ∧ f < g 1 := by split at h4 <;> omega
      obtain ⟨fn, rfl⟩ : ∃ fn : Nat, f = fn := ⟨f.toNat, by omega⟩
      have hffn : (fn : Int) < g 1 := hFFfn.2
      refine Ev.aload_n (q := 26) dX11_comes_25 rfl rfl ?_
      refine gR (q := 29) dX11_comes_26 gfX11_73 k0 r0_13 rfl rfl ?_
      refine Ev.aload_n (q := 30) dX11_comes_29 rfl rfl ?_
      refine gR (q := 33) dX11_comes_30 gfX11_34 k0 r0_4 rfl rfl ?_
      refine Ev.iload_n (q := 34) dX11_comes_33 rfl rfl ?_
      refine cV2v (q := 37) (d' := d + 3) dX11_comes_34 mlX11_159 moX10_begin mvX10_begin k65 rfl rfl rfl (Nat.le_refl _) rfl rfl rfl (p_X10_begin g 65 44 ln (by decide) (by decide) hI hlln hN) (fun r5 m5 e5 => ?_)
      obtain ⟨M1, rfl⟩ : ∃ M1, M1 = m5 := ⟨_, rfl⟩
      obtain ⟨hT1, hF1⟩ := e5
      have hH1 := hH.c hF1.C65
      have hN1 := hN.c hF1.C65
      refine Ev.aload_n (q := 38) dX11_comes_37 rfl rfl ?_
      refine gR (q := 41) dX11_comes_38 gfX11_73 k0 r0_13 rfl rfl ?_
      refine Ev.iload_n (q := 42) dX11_comes_41 rfl rfl ?_
      refine cV1i (q := 45) (d' := d + 3) dX11_comes_42 mlX11_277 moX10_comesTo mvX10_comesTo k65 rfl rfl rfl (Nat.le_refl _) rfl rfl rfl (p_X10_comesTo g 65 ln fn _ _ _ _ _ (by decide) hI hlln hH1 hT1.1 (hI.liftC hlln)) (fun r6 m6 e6 => ?_)
      obtain ⟨e6, -, hfr⟩ := e6
      have e9 : r6 = cmV g ln fn := e6
      clear e6
      subst e9
      refine rI dX11_comes_45 rfl ?_
      exact ⟨by unfold q_comes; rw [if_pos (by omega)]; rfl, hF1.C65.tr hfr.C65⟩
    · skip
      have hFF : ¬ (0 ≤ f ∧ f < g 1) := by split at h4 <;> omega
      refine Ev.bipush (q := 24) dX11_comes_22 kb_m2 rfl ?_
      refine rI dX11_comes_24 rfl ?_
      exact ⟨by unfold q_comes; rw [if_neg (by omega)], Fr.rf _ _⟩
set_option maxRecDepth 4000 in
theorem p_X11_restsBy {Γ : Gm} {d : Nat} {m : Mem} (g : Row) (l : Int) (hI : HI g) (hH : HouR g m 33) (hN : NowR g m 44) : Ci Γ (d + 4) MX11_restsBy [rv 0, iv l] m (fun r m' => r = q_restsBy g l ∧ Fr sC m m') := by
  refine Ci.of moX11_restsBy rfl rfl (fun hA hM => ?_)
  show Em Γ (d + 4) MX11_restsBy _ 0 [rv 0, iv l] [] m
  have hF12 := hI.1
  have hP8 := hI.2.2.1
  have hL3 := hI.2.1
  obtain ⟨n0, n1, n2, n3⟩ := hH.n0
  refine Ev.aload_n (q := 1) dX11_restsBy_0 rfl rfl ?_
  refine gR (q := 4) dX11_restsBy_1 gfX11_27 k0 r0_3 rfl rfl ?_
  refine Ev.iload_n (q := 5) dX11_restsBy_4 rfl rfl ?_
  refine cV1i (q := 8) (d' := d + 3) dX11_restsBy_5 mlX11_135 moX1_hasLift mvX1_hasLift k33 rfl rfl rfl (Nat.le_refl _) rfl rfl rfl (p_X1_hasLift l) (fun r1 m1 e1 => ?_)
  obtain ⟨rfl, e1⟩ := e1
  obtain rfl := e1.symm
  rw [n2]
  refine Ev.if_ne (tgt := 14) (q := 11) dX11_restsBy_8 (by decide) rfl (fun h2 => ?_) (fun h2 => ?_)
  · skip
    have hLLln : 0 ≤ l ∧ l < g 2 := by split at h2 <;> omega
    obtain ⟨ln, rfl⟩ : ∃ ln : Nat, l = ln := ⟨l.toNat, by omega⟩
    have hlln : (ln : Int) < g 2 := hLLln.2
    have qlln := hI.lift hlln
    have hlokln := hI.litOk hlln
    have hsln := hlokln.lt hI
    have a1ln : m 45 ln = g (60 + ln) := (hN.1 ln hlln).1
    have a2ln : m 46 ln = g (63 + ln) := (hN.1 ln hlln).2.1
    have a3ln : m 47 ln = ((litV g ln : Nat) : Int) := E47 hI hlln hN
    have a4ln : m 48 ln = g (69 + ln) := (hN.1 ln hlln).2.2.2
    refine Ev.aload_n (q := 15) dX11_restsBy_14 rfl rfl ?_
    refine gR (q := 18) dX11_restsBy_15 gfX11_73 k0 r0_13 rfl rfl ?_
    refine Ev.aload_n (q := 19) dX11_restsBy_18 rfl rfl ?_
    refine gR (q := 22) dX11_restsBy_19 gfX11_34 k0 r0_4 rfl rfl ?_
    refine Ev.iload_n (q := 23) dX11_restsBy_22 rfl rfl ?_
    refine cV2v (q := 26) (d' := d + 3) dX11_restsBy_23 mlX11_159 moX10_begin mvX10_begin k65 rfl rfl rfl (Nat.le_refl _) rfl rfl rfl (p_X10_begin g 65 44 ln (by decide) (by decide) hI hlln hN) (fun r3 m3 e3 => ?_)
    obtain ⟨M1, rfl⟩ : ∃ M1, M1 = m3 := ⟨_, rfl⟩
    obtain ⟨hT1, hF1⟩ := e3
    have hH1 := hH.c hF1.C65
    have hN1 := hN.c hF1.C65
    refine Ev.aload_n (q := 27) dX11_restsBy_26 rfl rfl ?_
    refine gR (q := 30) dX11_restsBy_27 gfX11_73 k0 r0_13 rfl rfl ?_
    refine cV0v (q := 33) (d' := d + 3) dX11_restsBy_30 mlX11_280 moX10_rideOut mvX10_rideOut k65 rfl rfl rfl (Nat.le_refl _) rfl rfl rfl (p_X10_rideOut g 65 ln _ _ _ _ _ (by decide) hI hlln hH1 hT1.1 (hI.liftC hlln)) (fun r4 m4 e4 => ?_)
    obtain ⟨eo, hfr⟩ := e4
    refine Ev.aload_n (q := 34) dX11_restsBy_33 rfl rfl ?_
    refine gR (q := 37) dX11_restsBy_34 gfX11_73 k0 r0_13 rfl rfl ?_
    refine gI (q := 40) dX11_restsBy_37 gfX11_283 k65 rfl rfl ?_
    rw [eo]
    refine rI dX11_restsBy_40 rfl ?_
    exact ⟨by unfold q_restsBy; rw [if_pos (by omega)]; exact (rOut_came (liftT g ln) (g (63 + ln))).symm, hF1.C65.tr hfr.C65⟩
  · skip
    have hLL : ¬ (0 ≤ l ∧ l < g 2) := by split at h2 <;> omega
    refine Ev.bipush (q := 13) dX11_restsBy_11 kb_m2 rfl ?_
    refine rI dX11_restsBy_13 rfl ?_
    exact ⟨by unfold q_restsBy; rw [if_neg (by omega)], Fr.rf _ _⟩
theorem bestN_out {g : Row} {p : Nat} (h : g (88 + p) = -1) : bestN g p = (w32 (g (80 + p) + footV g p (g (72 + p)).toNat (g (28 + p)).toNat), -1) := by
  unfold bestN
  rw [if_pos h]
  unfold bestV
  dsimp only
  rw [if_pos h]
theorem bestN_in {g : Row} {p l : Nat} (h : g (88 + p) = l) : bestN g p = bestV g p (litV g l) := by
  unfold bestN
  rw [if_neg (by omega), h, Int.toNat_natCast]
set_option maxRecDepth 4000 in
theorem p_X11_best {Γ : Gm} {d : Nat} {m : Mem} (g : Row) (p what : Int) (hI : HI g) (hH : HouR g m 33) (hN : NowR g m 44) : Ci Γ (d + 5) MX11_best [rv 0, iv p, iv what] m (fun r m' => r = q_best g p what ∧ Fr sC m m') := by
  refine Ci.of moX11_best rfl rfl (fun hA hM => ?_)
  show Em Γ (d + 5) MX11_best _ 0 [rv 0, iv p, iv what, uv] [] m
  have hF12 := hI.1
  have hP8 := hI.2.2.1
  have hL3 := hI.2.1
  obtain ⟨n0, n1, n2, n3⟩ := hH.n0
  refine Ev.aload_n (q := 1) dX11_best_0 rfl rfl ?_
  refine gR (q := 4) dX11_best_1 gfX11_27 k0 r0_3 rfl rfl ?_
  refine Ev.iload_n (q := 5) dX11_best_4 rfl rfl ?_
  refine cV1i (q := 8) (d' := d + 4) dX11_best_5 mlX11_167 moX1_hasPerson mvX1_hasPerson k33 rfl rfl rfl (Nat.le_refl _) rfl rfl rfl (p_X1_hasPerson p) (fun r1 m1 e1 => ?_)
  obtain ⟨rfl, e1⟩ := e1
  obtain rfl := e1.symm
  rw [n3]
  refine Ev.if_eq (tgt := 20) (q := 11) dX11_best_8 (by decide) rfl (fun h2 => ?_) (fun h2 => ?_)
  · skip
    have hPP : ¬ (0 ≤ p ∧ p < g 3) := by split at h2 <;> omega
    refine Ev.bipush (q := 22) dX11_best_20 kb_m2 rfl ?_
    refine rI dX11_best_22 rfl ?_
    exact ⟨by unfold q_best; rw [if_neg (by omega)], Fr.rf _ _⟩
  · skip
    have hPP : 0 ≤ p ∧ p < g 3 := by split at h2 <;> omega
    obtain ⟨pn, rfl⟩ : ∃ pn : Nat, p = pn := ⟨p.toNat, by omega⟩
    have hppn : (pn : Int) < g 3 := hPP.2
    have qppn := hI.pers hppn
    have a5pn : m 49 pn = g (72 + pn) := (hN.2 pn hppn).1
    have a6pn : m 50 pn = g (80 + pn) := (hN.2 pn hppn).2.1
    have a7pn : m 51 pn = g (88 + pn) := (hN.2 pn hppn).2.2
    obtain ⟨b0pn, b1pn, b2pn, b3pn⟩ := hH.ho hppn
    refine Ev.iload_n (q := 12) dX11_best_11 rfl rfl ?_
    refine Ev.if_lt (tgt := 20) (q := 15) dX11_best_12 (by decide) rfl (fun h3 => ?_) (fun h3 => ?_)
    · skip
      refine Ev.bipush (q := 22) dX11_best_20 kb_m2 rfl ?_
      refine rI dX11_best_22 rfl ?_
      exact ⟨by unfold q_best; rw [if_neg (by omega)], Fr.rf _ _⟩
    · skip
      refine Ev.iload_n (q := 16) dX11_best_15 rfl rfl ?_
      refine Ev.iconst (q := 17) dX11_best_16 ki_1 rfl ?_
      refine Ev.icmp_le (tgt := 23) (q := 20) dX11_best_17 (by decide) rfl (fun h4 => ?_) (fun h4 => ?_)
      · skip
        refine Ev.aload_n (q := 24) dX11_best_23 rfl rfl ?_
        refine gR (q := 27) dX11_best_24 gfX11_34 k0 r0_4 rfl rfl ?_
        refine gR (q := 30) dX11_best_27 gfX11_176 k44 r44_6 rfl rfl ?_
        refine Ev.iload_n (q := 31) dX11_best_30 rfl rfl ?_
        refine aI (q := 32) (k := pn) dX11_best_31 k51 (by first | rfl | omega | (simp (disch := omega) only [w32_of]; omega)) (by omega) rfl ?_
        rw [a7pn]
        refine istore_n_3 (q := 33) dX11_best_32 rfl rfl rfl ?_
        refine Ev.iload_n (q := 34) dX11_best_33 rfl rfl ?_
        refine Ev.iconst (q := 35) dX11_best_34 ki_m1 rfl ?_
        refine Ev.icmp_ne (tgt := 52) (q := 38) dX11_best_35 (by decide) rfl (fun h5 => ?_) (fun h5 => ?_)
        · skip
          have hin := qppn.2.2.2.2.2
          obtain ⟨ln, hln⟩ : ∃ ln : Nat, g (88 + pn) = ln := ⟨(g (88 + pn)).toNat, by omega⟩
          have hlln : (ln : Int) < g 2 := by omega
          have qlln := hI.lift hlln
          have hlokln := hI.litOk hlln
          have hsln := hlokln.lt hI
          have a3ln : m 47 ln = ((litV g ln : Nat) : Int) := E47 hI hlln hN
          rw [hln]
          refine Ev.aload_n (q := 53) dX11_best_52 rfl rfl ?_
          refine gR (q := 56) dX11_best_53 gfX11_89 k0 r0_15 rfl rfl ?_
          refine Ev.iload_n (q := 57) dX11_best_56 rfl rfl ?_
          refine Ev.aload_n (q := 58) dX11_best_57 rfl rfl ?_
          refine gR (q := 61) dX11_best_58 gfX11_34 k0 r0_4 rfl rfl ?_
          refine gR (q := 64) dX11_best_61 gfX11_146 k44 r44_2 rfl rfl ?_
          refine Ev.iload_n (q := 65) dX11_best_64 rfl rfl ?_
          refine aI (q := 66) (k := ln) dX11_best_65 k47 (by first | rfl | omega | (simp (disch := omega) only [w32_of]; omega)) (by omega) rfl ?_
          rw [a3ln]
          refine cV2v (q := 69) (d' := d + 4) dX11_best_66 mlX11_289 moX3_weigh mvX3_weigh k68 rfl rfl rfl (Nat.le_refl _) rfl rfl rfl (p_X3_weigh g ln (litV g ln) hI hlln hH hN hlokln) (fun r6 m6 e6 => ?_)
          obtain ⟨y1, y2, y3, y4⟩ := e6
          have hy := y3 pn hppn hln
          refine Ev.iload_n (q := 70) dX11_best_69 rfl rfl ?_
          refine Ev.if_ne (tgt := 85) (q := 73) dX11_best_70 (by decide) rfl (fun h7 => ?_) (fun h7 => ?_)
          · skip
            refine Ev.aload_n (q := 86) dX11_best_85 rfl rfl ?_
            refine gR (q := 89) dX11_best_86 gfX11_89 k0 r0_15 rfl rfl ?_
            refine gR (q := 92) dX11_best_89 gfX11_296 k68 r68_4 rfl rfl ?_
            refine Ev.iload_n (q := 93) dX11_best_92 rfl rfl ?_
            refine aI (q := 94) (k := pn) dX11_best_93 k70 (by first | rfl | omega | (simp (disch := omega) only [w32_of]; omega)) (by omega) rfl ?_
            refine rI dX11_best_94 rfl ?_
            have hy2 := congrArg Prod.snd hy
            exact ⟨by unfold q_best; rw [if_pos (by omega), if_neg (by omega), Int.toNat_natCast, bestN_in hln]; exact hy2, y4.CLi⟩
          · skip
            refine Ev.aload_n (q := 74) dX11_best_73 rfl rfl ?_
            refine gR (q := 77) dX11_best_74 gfX11_89 k0 r0_15 rfl rfl ?_
            refine gR (q := 80) dX11_best_77 gfX11_293 k68 r68_3 rfl rfl ?_
            refine Ev.iload_n (q := 81) dX11_best_80 rfl rfl ?_
            refine aI (q := 82) (k := pn) dX11_best_81 k69 (by first | rfl | omega | (simp (disch := omega) only [w32_of]; omega)) (by omega) rfl ?_
            refine Ev.goto (q := 94) dX11_best_82 (by decide) ?_
            refine rI dX11_best_94 rfl ?_
            have hy2 := congrArg Prod.fst hy
            exact ⟨by unfold q_best; rw [if_pos (by omega), if_pos (by omega), Int.toNat_natCast, bestN_in hln]; exact hy2, y4.CLi⟩
        · skip
          refine Ev.iload_n (q := 39) dX11_best_38 rfl rfl ?_
          refine Ev.if_ne (tgt := 50) (q := 42) dX11_best_39 (by decide) rfl (fun h8 => ?_) (fun h8 => ?_)
          · skip
            refine Ev.iconst (q := 51) dX11_best_50 ki_m1 rfl ?_
            refine rI dX11_best_51 rfl ?_
            exact ⟨by unfold q_best; rw [if_pos (by omega), if_neg (by omega), Int.toNat_natCast, bestN_out (by omega)], Fr.rf _ _⟩
          · skip
            refine Ev.aload_n (q := 43) dX11_best_42 rfl rfl ?_
            refine Ev.iload_n (q := 44) dX11_best_43 rfl rfl ?_
            refine cV1i (q := 47) (d' := d + 4) dX11_best_44 mlX11_286 moX11_walkingHome mvX11_walkingHome k0 rfl rfl rfl (Nat.le_refl _) rfl rfl rfl (p_X11_walkingHome g pn hI hH hN hppn) (fun r9 m9 e9 => ?_)
            obtain ⟨rfl, e9⟩ := e9
            obtain rfl := e9.symm
            refine Ev.goto (q := 51) dX11_best_47 (by decide) ?_
            refine rI dX11_best_51 rfl ?_
            exact ⟨by unfold q_best; rw [if_pos (by omega), if_pos (by omega), Int.toNat_natCast, bestN_out (by omega)], Fr.rf _ _⟩
      · skip
        refine Ev.bipush (q := 22) dX11_best_20 kb_m2 rfl ?_
        refine rI dX11_best_22 rfl ?_
        exact ⟨by unfold q_best; rw [if_neg (by omega)], Fr.rf _ _⟩
set_option maxRecDepth 4000 in
theorem p_X11_homeBy {Γ : Gm} {d : Nat} {m : Mem} (g : Row) (p f : Int) (hI : HI g) (hH : HouR g m 33) (hN : NowR g m 44) : Ci Γ (d + 4) MX11_homeBy [rv 0, iv p, iv f] m (fun r m' => r = q_homeBy g p f ∧ Fr sC m m') := by
  refine Ci.of moX11_homeBy rfl rfl (fun hA hM => ?_)
  show Em Γ (d + 4) MX11_homeBy _ 0 [rv 0, iv p, iv f, uv, uv] [] m
  have hF12 := hI.1
  have hP8 := hI.2.2.1
  have hL3 := hI.2.1
  obtain ⟨n0, n1, n2, n3⟩ := hH.n0
  refine Ev.aload_n (q := 1) dX11_homeBy_0 rfl rfl ?_
  refine gR (q := 4) dX11_homeBy_1 gfX11_27 k0 r0_3 rfl rfl ?_
  refine Ev.iload_n (q := 5) dX11_homeBy_4 rfl rfl ?_
  refine cV1i (q := 8) (d' := d + 3) dX11_homeBy_5 mlX11_167 moX1_hasPerson mvX1_hasPerson k33 rfl rfl rfl (Nat.le_refl _) rfl rfl rfl (p_X1_hasPerson p) (fun r1 m1 e1 => ?_)
  obtain ⟨rfl, e1⟩ := e1
  obtain rfl := e1.symm
  rw [n3]
  refine Ev.if_eq (tgt := 22) (q := 11) dX11_homeBy_8 (by decide) rfl (fun h2 => ?_) (fun h2 => ?_)
  · skip
    have hPP : ¬ (0 ≤ p ∧ p < g 3) := by split at h2 <;> omega
    refine Ev.bipush (q := 24) dX11_homeBy_22 kb_m2 rfl ?_
    refine rI dX11_homeBy_24 rfl ?_
    exact ⟨by unfold q_homeBy; rw [if_neg (by omega)], Fr.rf _ _⟩
  · skip
    have hPP : 0 ≤ p ∧ p < g 3 := by split at h2 <;> omega
    obtain ⟨pn, rfl⟩ : ∃ pn : Nat, p = pn := ⟨p.toNat, by omega⟩
    have hppn : (pn : Int) < g 3 := hPP.2
    have qppn := hI.pers hppn
    have a5pn : m 49 pn = g (72 + pn) := (hN.2 pn hppn).1
    have a6pn : m 50 pn = g (80 + pn) := (hN.2 pn hppn).2.1
    have a7pn : m 51 pn = g (88 + pn) := (hN.2 pn hppn).2.2
    obtain ⟨b0pn, b1pn, b2pn, b3pn⟩ := hH.ho hppn
    refine Ev.aload_n (q := 12) dX11_homeBy_11 rfl rfl ?_
    refine gR (q := 15) dX11_homeBy_12 gfX11_27 k0 r0_3 rfl rfl ?_
    refine Ev.iload_n (q := 16) dX11_homeBy_15 rfl rfl ?_
    refine cV1i (q := 19) (d' := d + 3) dX11_homeBy_16 mlX11_191 moX1_hasFloor mvX1_hasFloor k33 rfl rfl rfl (Nat.le_refl _) rfl rfl rfl (p_X1_hasFloor f) (fun r3 m3 e3 => ?_)
    obtain ⟨rfl, e3⟩ := e3
    obtain rfl := e3.symm
    rw [n0]
    refine Ev.if_ne (tgt := 25) (q := 22) dX11_homeBy_19 (by decide) rfl (fun h4 => ?_) (fun h4 => ?_)
    · skip
      have hFFfn : 0 ≤ f ∧ f < g 1 := by split at h4 <;> omega
      obtain ⟨fn, rfl⟩ : ∃ fn : Nat, f = fn := ⟨f.toNat, by omega⟩
      have hffn : (fn : Int) < g 1 := hFFfn.2
      refine Ev.aload_n (q := 26) dX11_homeBy_25 rfl rfl ?_
      refine gR (q := 29) dX11_homeBy_26 gfX11_34 k0 r0_4 rfl rfl ?_
      refine gR (q := 32) dX11_homeBy_29 gfX11_176 k44 r44_6 rfl rfl ?_
      refine Ev.iload_n (q := 33) dX11_homeBy_32 rfl rfl ?_
      refine aI (q := 34) (k := pn) dX11_homeBy_33 k51 (by first | rfl | omega | (simp (disch := omega) only [w32_of]; omega)) (by omega) rfl ?_
      rw [a7pn]
      refine istore_n_3 (q := 35) dX11_homeBy_34 rfl rfl rfl ?_
      refine Ev.iload_n (q := 36) dX11_homeBy_35 rfl rfl ?_
      refine Ev.iconst (q := 37) dX11_homeBy_36 ki_m1 rfl ?_
      refine Ev.icmp_ne (tgt := 43) (q := 40) dX11_homeBy_37 (by decide) rfl (fun h5 => ?_) (fun h5 => ?_)
      · skip
        have hin := qppn.2.2.2.2.2
        obtain ⟨ln, hln⟩ : ∃ ln : Nat, g (88 + pn) = ln := ⟨(g (88 + pn)).toNat, by omega⟩
        have hlln : (ln : Int) < g 2 := by omega
        have qlln := hI.lift hlln
        have hlokln := hI.litOk hlln
        have hsln := hlokln.lt hI
        have a3ln : m 47 ln = ((litV g ln : Nat) : Int) := E47 hI hlln hN
        rw [hln]
        refine Ev.iload_n (q := 44) dX11_homeBy_43 rfl rfl ?_
        refine Ev.aload_n (q := 45) dX11_homeBy_44 rfl rfl ?_
        refine gR (q := 48) dX11_homeBy_45 gfX11_34 k0 r0_4 rfl rfl ?_
        refine gR (q := 51) dX11_homeBy_48 gfX11_170 k44 r44_4 rfl rfl ?_
        refine Ev.iload_n (q := 52) dX11_homeBy_51 rfl rfl ?_
        refine aI (q := 53) (k := pn) dX11_homeBy_52 k49 (by first | rfl | omega | (simp (disch := omega) only [w32_of]; omega)) (by omega) rfl ?_
        rw [a5pn]
        refine Ev.icmp_ne (tgt := 62) (q := 56) dX11_homeBy_53 (by decide) rfl (fun h6 => ?_) (fun h6 => ?_)
        · skip
          refine Ev.aload_n (q := 63) dX11_homeBy_62 rfl rfl ?_
          refine gR (q := 66) dX11_homeBy_63 gfX11_73 k0 r0_13 rfl rfl ?_
          refine Ev.aload_n (q := 67) dX11_homeBy_66 rfl rfl ?_
          refine gR (q := 70) dX11_homeBy_67 gfX11_34 k0 r0_4 rfl rfl ?_
          refine Ev.iload_n (q := 71) dX11_homeBy_70 rfl rfl ?_
          refine cV2v (q := 74) (d' := d + 3) dX11_homeBy_71 mlX11_159 moX10_begin mvX10_begin k65 rfl rfl rfl (Nat.le_refl _) rfl rfl rfl (p_X10_begin g 65 44 ln (by decide) (by decide) hI hlln hN) (fun r7 m7 e7 => ?_)
          obtain ⟨M1, rfl⟩ : ∃ M1, M1 = m7 := ⟨_, rfl⟩
          obtain ⟨hT1, hF1⟩ := e7
          have hH1 := hH.c hF1.C65
          have hN1 := hN.c hF1.C65
          refine Ev.aload_n (q := 75) dX11_homeBy_74 rfl rfl ?_
          refine gR (q := 78) dX11_homeBy_75 gfX11_73 k0 r0_13 rfl rfl ?_
          refine Ev.iload_n (q := 79) dX11_homeBy_78 rfl rfl ?_
          refine cV1i (q := 82) (d' := d + 3) dX11_homeBy_79 mlX11_277 moX10_comesTo mvX10_comesTo k65 rfl rfl rfl (Nat.le_refl _) rfl rfl rfl (p_X10_comesTo g 65 ln fn _ _ _ _ _ (by decide) hI hlln hH1 hT1.1 (hI.liftC hlln)) (fun r8 m8 e8 => ?_)
          obtain ⟨e8, -, hfr⟩ := e8
          have e9 : r8 = cmV g ln fn := e8
          clear e8
          subst e9
          have hF2 := hF1.C65.tr hfr.C65
          refine istore_4 (q := 84) dX11_homeBy_82 rfl rfl rfl ?_
          refine Ev.iload (q := 86) dX11_homeBy_84 rfl rfl ?_
          refine Ev.iconst (q := 87) dX11_homeBy_86 ki_m1 rfl ?_
          refine Ev.icmp_ne (tgt := 94) (q := 90) dX11_homeBy_87 (by decide) rfl (fun h9 => ?_) (fun h9 => ?_)
          · skip
            refine Ev.iload (q := 96) dX11_homeBy_94 rfl rfl ?_
            refine Ev.aload_n (q := 97) dX11_homeBy_96 rfl rfl ?_
            refine gR (q := 100) dX11_homeBy_97 gfX11_27 k0 r0_3 rfl rfl ?_
            refine Ev.iload_n (q := 101) dX11_homeBy_100 rfl rfl ?_
            refine Ev.iload_n (q := 102) dX11_homeBy_101 rfl rfl ?_
            refine cV2i (q := 105) (d' := d + 3) dX11_homeBy_102 mlX11_299 moX1_onFootHome mvX1_onFootHome k33 rfl rfl rfl (Nat.le_refl _) rfl rfl rfl (p_X1_onFootHome 33 pn fn (by decide) (by omega) (by omega)) (fun r10 m10 e10 => ?_)
            obtain ⟨rfl, e10⟩ := e10
            obtain rfl := e10.symm
            rw [show (33 : Nat) + 9 = 42 from rfl, (hH.c hF2).fh hppn (by omega)]
            refine Ev.iadd (q := 106) dX11_homeBy_105 rfl ?_
            refine rI dX11_homeBy_106 rfl ?_
            exact ⟨by unfold q_homeBy; simp only [Int.toNat_natCast]; rw [if_pos (by omega), if_neg (by omega), if_neg (by omega), hln, Int.toNat_natCast, if_neg (by assumption)], hF2⟩
          · skip
            refine Ev.iconst (q := 91) dX11_homeBy_90 ki_m1 rfl ?_
            refine Ev.goto (q := 106) dX11_homeBy_91 (by decide) ?_
            refine rI dX11_homeBy_106 rfl ?_
            exact ⟨by unfold q_homeBy; simp only [Int.toNat_natCast]; rw [if_pos (by omega), if_neg (by omega), if_neg (by omega), hln, Int.toNat_natCast, if_pos (by assumption)], hF2⟩
        · skip
          refine Ev.aload_n (q := 57) dX11_homeBy_56 rfl rfl ?_
          refine Ev.iload_n (q := 58) dX11_homeBy_57 rfl rfl ?_
          refine cV1i (q := 61) (d' := d + 3) dX11_homeBy_58 mlX11_286 moX11_walkingHome mvX11_walkingHome k0 rfl rfl rfl (Nat.le_refl _) rfl rfl rfl (p_X11_walkingHome g pn hI hH hN hppn) (fun r11 m11 e11 => ?_)
          obtain ⟨rfl, e11⟩ := e11
          obtain rfl := e11.symm
          refine rI dX11_homeBy_61 rfl ?_
          have e72 : (g (72 + pn)).toNat = fn := by omega
          rw [e72]
          exact ⟨by unfold q_homeBy; simp only [Int.toNat_natCast]; rw [if_pos (by omega), if_neg (by omega), if_pos (by omega)], Fr.rf _ _⟩
      · skip
        refine Ev.bipush (q := 42) dX11_homeBy_40 kb_m5 rfl ?_
        refine rI dX11_homeBy_42 rfl ?_
        exact ⟨by unfold q_homeBy; rw [if_pos (by omega), Int.toNat_natCast, if_pos (by omega)], Fr.rf _ _⟩
    · skip
      have hFF : ¬ (0 ≤ f ∧ f < g 1) := by split at h4 <;> omega
      refine Ev.bipush (q := 24) dX11_homeBy_22 kb_m2 rfl ?_
      refine rI dX11_homeBy_24 rfl ?_
      exact ⟨by unfold q_homeBy; rw [if_neg (by omega)], Fr.rf _ _⟩
set_option maxRecDepth 4000 in
theorem p_X11_all {Γ : Gm} {d : Nat} {m : Mem} (g : Row) (l : Int) (hI : HI g) (hH : HouR g m 33) (hN : NowR g m 44) : Ci Γ (d + 6) MX11_all [rv 0, iv l] m (fun r m' => r = q_all g l ∧ Fr sC m m') := by
  refine Ci.of moX11_all rfl rfl (fun hA hM => ?_)
  show Em Γ (d + 6) MX11_all _ 0 [rv 0, iv l] [] m
  have hF12 := hI.1
  have hP8 := hI.2.2.1
  have hL3 := hI.2.1
  obtain ⟨n0, n1, n2, n3⟩ := hH.n0
  refine Ev.aload_n (q := 1) dX11_all_0 rfl rfl ?_
  refine gR (q := 4) dX11_all_1 gfX11_27 k0 r0_3 rfl rfl ?_
  refine Ev.iload_n (q := 5) dX11_all_4 rfl rfl ?_
  refine cV1i (q := 8) (d' := d + 5) dX11_all_5 mlX11_135 moX1_hasLift mvX1_hasLift k33 rfl rfl rfl (Nat.le_refl _) rfl rfl rfl (p_X1_hasLift l) (fun r1 m1 e1 => ?_)
  obtain ⟨rfl, e1⟩ := e1
  obtain rfl := e1.symm
  rw [n2]
  refine Ev.if_eq (tgt := 31) (q := 11) dX11_all_8 (by decide) rfl (fun h2 => ?_) (fun h2 => ?_)
  · skip
    have hLL : ¬ (0 ≤ l ∧ l < g 2) := by split at h2 <;> omega
    refine Ev.ldc2 (q := 34) dX11_all_31 klX11_306 klvX11_306 rfl ?_
    refine rJ dX11_all_34 rfl ?_
    exact ⟨by unfold q_all; rw [if_neg (by omega)], Fr.rf _ _⟩
  · skip
    have hLLln : 0 ≤ l ∧ l < g 2 := by split at h2 <;> omega
    obtain ⟨ln, rfl⟩ : ∃ ln : Nat, l = ln := ⟨l.toNat, by omega⟩
    have hlln : (ln : Int) < g 2 := hLLln.2
    have qlln := hI.lift hlln
    have hlokln := hI.litOk hlln
    have hsln := hlokln.lt hI
    have a1ln : m 45 ln = g (60 + ln) := (hN.1 ln hlln).1
    have a2ln : m 46 ln = g (63 + ln) := (hN.1 ln hlln).2.1
    have a3ln : m 47 ln = ((litV g ln : Nat) : Int) := E47 hI hlln hN
    have a4ln : m 48 ln = g (69 + ln) := (hN.1 ln hlln).2.2.2
    refine Ev.aload_n (q := 12) dX11_all_11 rfl rfl ?_
    refine gR (q := 15) dX11_all_12 gfX11_89 k0 r0_15 rfl rfl ?_
    refine Ev.iload_n (q := 16) dX11_all_15 rfl rfl ?_
    refine Ev.aload_n (q := 17) dX11_all_16 rfl rfl ?_
    refine gR (q := 20) dX11_all_17 gfX11_34 k0 r0_4 rfl rfl ?_
    refine gR (q := 23) dX11_all_20 gfX11_146 k44 r44_2 rfl rfl ?_
    refine Ev.iload_n (q := 24) dX11_all_23 rfl rfl ?_
    refine aI (q := 25) (k := ln) dX11_all_24 k47 (by first | rfl | omega | (simp (disch := omega) only [w32_of]; omega)) (by omega) rfl ?_
    rw [a3ln]
    refine cV2j (q := 28) (d' := d + 5) dX11_all_25 mlX11_302 moX3_sumWith mvX3_sumWith k68 rfl rfl rfl (Nat.le_refl _) rfl rfl rfl (p_X3_sumWith g ln (litV g ln) hI hlln hH hN hlokln) (fun r3 m3 e3 => ?_)
    obtain ⟨y1, y8, y9⟩ := e3
    subst y1
    refine Ev.goto (q := 34) dX11_all_28 (by decide) ?_
    refine rJ dX11_all_34 rfl ?_
    exact ⟨by unfold q_all; rw [if_pos (by omega)]; rfl, y9.CLi⟩
set_option maxRecDepth 4000 in
theorem p_X11_latest {Γ : Gm} {d : Nat} {m : Mem} (g : Row) (l : Int) (hI : HI g) (hH : HouR g m 33) (hN : NowR g m 44) : Ci Γ (d + 6) MX11_latest [rv 0, iv l] m (fun r m' => r = q_latest g l ∧ Fr sC m m') := by
  refine Ci.of moX11_latest rfl rfl (fun hA hM => ?_)
  show Em Γ (d + 6) MX11_latest _ 0 [rv 0, iv l] [] m
  have hF12 := hI.1
  have hP8 := hI.2.2.1
  have hL3 := hI.2.1
  obtain ⟨n0, n1, n2, n3⟩ := hH.n0
  refine Ev.aload_n (q := 1) dX11_latest_0 rfl rfl ?_
  refine gR (q := 4) dX11_latest_1 gfX11_27 k0 r0_3 rfl rfl ?_
  refine Ev.iload_n (q := 5) dX11_latest_4 rfl rfl ?_
  refine cV1i (q := 8) (d' := d + 5) dX11_latest_5 mlX11_135 moX1_hasLift mvX1_hasLift k33 rfl rfl rfl (Nat.le_refl _) rfl rfl rfl (p_X1_hasLift l) (fun r1 m1 e1 => ?_)
  obtain ⟨rfl, e1⟩ := e1
  obtain rfl := e1.symm
  rw [n2]
  refine Ev.if_eq (tgt := 31) (q := 11) dX11_latest_8 (by decide) rfl (fun h2 => ?_) (fun h2 => ?_)
  · skip
    have hLL : ¬ (0 ≤ l ∧ l < g 2) := by split at h2 <;> omega
    refine Ev.bipush (q := 33) dX11_latest_31 kb_m2 rfl ?_
    refine rI dX11_latest_33 rfl ?_
    exact ⟨by unfold q_latest; rw [if_neg (by omega)], Fr.rf _ _⟩
  · skip
    have hLLln : 0 ≤ l ∧ l < g 2 := by split at h2 <;> omega
    obtain ⟨ln, rfl⟩ : ∃ ln : Nat, l = ln := ⟨l.toNat, by omega⟩
    have hlln : (ln : Int) < g 2 := hLLln.2
    have qlln := hI.lift hlln
    have hlokln := hI.litOk hlln
    have hsln := hlokln.lt hI
    have a1ln : m 45 ln = g (60 + ln) := (hN.1 ln hlln).1
    have a2ln : m 46 ln = g (63 + ln) := (hN.1 ln hlln).2.1
    have a3ln : m 47 ln = ((litV g ln : Nat) : Int) := E47 hI hlln hN
    have a4ln : m 48 ln = g (69 + ln) := (hN.1 ln hlln).2.2.2
    refine Ev.aload_n (q := 12) dX11_latest_11 rfl rfl ?_
    refine gR (q := 15) dX11_latest_12 gfX11_89 k0 r0_15 rfl rfl ?_
    refine Ev.iload_n (q := 16) dX11_latest_15 rfl rfl ?_
    refine Ev.aload_n (q := 17) dX11_latest_16 rfl rfl ?_
    refine gR (q := 20) dX11_latest_17 gfX11_34 k0 r0_4 rfl rfl ?_
    refine gR (q := 23) dX11_latest_20 gfX11_146 k44 r44_2 rfl rfl ?_
    refine Ev.iload_n (q := 24) dX11_latest_23 rfl rfl ?_
    refine aI (q := 25) (k := ln) dX11_latest_24 k47 (by first | rfl | omega | (simp (disch := omega) only [w32_of]; omega)) (by omega) rfl ?_
    rw [a3ln]
    refine cV2i (q := 28) (d' := d + 5) dX11_latest_25 mlX11_308 moX3_lastWith mvX3_lastWith k68 rfl rfl rfl (Nat.le_refl _) rfl rfl rfl (p_X3_lastWith g ln (litV g ln) hI hlln hH hN hlokln) (fun r3 m3 e3 => ?_)
    obtain ⟨y1, y8, y9⟩ := e3
    subst y1
    refine Ev.goto (q := 33) dX11_latest_28 (by decide) ?_
    refine rI dX11_latest_33 rfl ?_
    exact ⟨by unfold q_latest; rw [if_pos (by omega)]; rfl, y9.CLi⟩
