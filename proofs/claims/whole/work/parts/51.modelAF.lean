set_option maxRecDepth 4000 in
theorem p_X12_image {Γ : Gm} {d : Nat} {m : Mem} (i : Int) : Ci Γ (d + 1) MX12_image [rv 211, iv i] m (fun r m' => ((0 ≤ i ∧ i ≤ 1) → r = 0 ∧ m' 212 = imgG (m 212) i.toNat ∧ m' 213 = upg (m 213) i.toNat 1 ∧ Fr sIm m m') ∧ (¬ (0 ≤ i ∧ i ≤ 1) → r = -2 ∧ Fr sQ m m')) := by
  refine Ci.of moX12_image rfl rfl (fun hA hM => ?_)
  show Em Γ (d + 1) MX12_image _ 0 [rv 211, iv i, uv] [] m
  refine Ev.aload_n (q := 1) dX12_image_0 rfl rfl ?_
  refine Ev.iconst (q := 2) dX12_image_1 ki_0 rfl ?_
  refine pI (q := 5) dX12_image_2 gfX12_1 k211 rfl rfl ?_
  obtain ⟨M0, hM0⟩ : ∃ M0, M0 = up m 211 0 0 := ⟨_, rfl⟩
  rw [← hM0]
  have hF0 : Fr sQ m M0 := by rw [hM0]; exact (Fr.rf _ _).up rfl
  have g0 : M0 212 = m 212 := hF0.row 212 (fun _ => rfl)
  clear hM0
  refine Ev.iload_n (q := 6) dX12_image_5 rfl rfl ?_
  refine Ev.i2l (q := 7) dX12_image_6 rfl ?_
  refine Ev.lconst (q := 8) dX12_image_7 kj_0 rfl ?_
  refine Ev.lconst (q := 9) dX12_image_8 kj_1 rfl ?_
  refine cS3i (q := 12) (d' := d + 0) dX12_image_9 mlX12_118 moX12_within msX12_within rfl rfl (Nat.le_refl _) rfl rfl rfl (p_X12_within _ _ _) (fun r1 m1 e1 => ?_)
  obtain ⟨rfl, e1⟩ := e1
  obtain rfl := e1.symm
  refine Ev.if_ne (tgt := 18) (q := 15) dX12_image_12 (by decide) rfl (fun h2 => ?_) (fun h2 => ?_)
  · skip
    have hi : 0 ≤ i ∧ i ≤ 1 := by split at h2 <;> omega
    obtain ⟨iN, rfl⟩ : ∃ iN : Nat, i = iN := ⟨i.toNat, by omega⟩
    refine Ev.iconst (q := 19) dX12_image_18 ki_0 rfl ?_
    refine istore_n_2 (q := 20) dX12_image_19 rfl rfl rfl ?_
    refine Em.imp ?_ (l_image (Γ := Γ) (d := d) (m := m) iN (M0 212) (by omega) 1358 0 M0 (by omega) (fun j => by rw [if_neg (by omega)]) (hF0.mono (fun a k q => sD_Q q)))
    intro r m' h9
    refine ⟨fun _ => ?_, fun z => absurd hi z⟩
    rw [Int.toNat_natCast, ← g0]
    exact h9
  · skip
    have hi : ¬ (0 ≤ i ∧ i ≤ 1) := by split at h2 <;> omega
    refine Ev.bipush (q := 17) dX12_image_15 kb_m2 rfl ?_
    refine rI dX12_image_17 rfl ?_
    exact ⟨fun z => absurd z hi, fun _ => ⟨rfl, hF0⟩⟩
set_option maxRecDepth 4000 in
theorem p_X12_restore {Γ : Gm} {d : Nat} {m : Mem} (i : Int) : Ci Γ (d + 1) MX12_restore [rv 211, iv i] m (fun r m' => (((0 ≤ i ∧ i ≤ 1) ∧ ¬ m 213 i.toNat = 0) → r = 0 ∧ m' 212 = resG (m 212) i.toNat ∧ Fr sIm m m') ∧ (¬ ((0 ≤ i ∧ i ≤ 1) ∧ ¬ m 213 i.toNat = 0) → r = (if 0 ≤ i ∧ i ≤ 1 then -5 else -2) ∧ Fr sQ m m')) := by
  refine Ci.of moX12_restore rfl rfl (fun hA hM => ?_)
  show Em Γ (d + 1) MX12_restore _ 0 [rv 211, iv i, uv] [] m
  refine Ev.aload_n (q := 1) dX12_restore_0 rfl rfl ?_
  refine Ev.iconst (q := 2) dX12_restore_1 ki_0 rfl ?_
  refine pI (q := 5) dX12_restore_2 gfX12_1 k211 rfl rfl ?_
  obtain ⟨M0, hM0⟩ : ∃ M0, M0 = up m 211 0 0 := ⟨_, rfl⟩
  rw [← hM0]
  have hF0 : Fr sQ m M0 := by rw [hM0]; exact (Fr.rf _ _).up rfl
  have g0 : M0 212 = m 212 := hF0.row 212 (fun _ => rfl)
  clear hM0
  have g13 : M0 213 = m 213 := hF0.row 213 (fun _ => rfl)
  rw [← g13]
  refine Ev.iload_n (q := 6) dX12_restore_5 rfl rfl ?_
  refine Ev.i2l (q := 7) dX12_restore_6 rfl ?_
  refine Ev.lconst (q := 8) dX12_restore_7 kj_0 rfl ?_
  refine Ev.lconst (q := 9) dX12_restore_8 kj_1 rfl ?_
  refine cS3i (q := 12) (d' := d + 0) dX12_restore_9 mlX12_118 moX12_within msX12_within rfl rfl (Nat.le_refl _) rfl rfl rfl (p_X12_within _ _ _) (fun r1 m1 e1 => ?_)
  obtain ⟨rfl, e1⟩ := e1
  obtain rfl := e1.symm
  refine Ev.if_ne (tgt := 18) (q := 15) dX12_restore_12 (by decide) rfl (fun h2 => ?_) (fun h2 => ?_)
  · skip
    have hi : 0 ≤ i ∧ i ≤ 1 := by split at h2 <;> omega
    obtain ⟨iN, rfl⟩ : ∃ iN : Nat, i = iN := ⟨i.toNat, by omega⟩
    refine Ev.aload_n (q := 19) dX12_restore_18 rfl rfl ?_
    refine gR (q := 22) dX12_restore_19 gfX12_17 k211 r211_2 rfl rfl ?_
    refine Ev.iload_n (q := 23) dX12_restore_22 rfl rfl ?_
    refine aZ (q := 24) (k := iN) dX12_restore_23 k213 (by first | rfl | omega | (simp (disch := omega) only [w32_of]; omega)) (by omega) rfl ?_
    refine Ev.if_ne (tgt := 30) (q := 27) dX12_restore_24 (by decide) rfl (fun h3 => ?_) (fun h3 => ?_)
    · skip
      refine Ev.iconst (q := 31) dX12_restore_30 ki_0 rfl ?_
      refine istore_n_2 (q := 32) dX12_restore_31 rfl rfl rfl ?_
      refine Em.imp ?_ (l_restore (Γ := Γ) (d := d) (m := m) iN (M0 212) (by omega) 1358 0 M0 (by omega) (fun j => by rw [if_neg (by omega)]) (hF0.mono (fun a k q => sD_Q q)))
      intro r m' h9
      refine ⟨fun _ => ?_, fun z => absurd ⟨hi, by simpa only [Int.toNat_natCast] using (by assumption)⟩ z⟩
      rw [Int.toNat_natCast, ← g0]
      exact h9
    · skip
      refine Ev.bipush (q := 29) dX12_restore_27 kb_m5 rfl ?_
      refine rI dX12_restore_29 rfl ?_
      refine ⟨fun z => absurd (show M0 213 iN = 0 by assumption) (by simpa only [Int.toNat_natCast] using z.2), fun _ => ⟨by rw [if_pos hi], hF0⟩⟩
  · skip
    have hi : ¬ (0 ≤ i ∧ i ≤ 1) := by split at h2 <;> omega
    refine Ev.bipush (q := 17) dX12_restore_15 kb_m2 rfl ?_
    refine rI dX12_restore_17 rfl ?_
    exact ⟨fun z => absurd z.1 hi, fun _ => ⟨by rw [if_neg hi], hF0⟩⟩
set_option maxRecDepth 4000 in
theorem p_X12_count {Γ : Gm} {d : Nat} {m : Mem} (what : Int) (hI : HI (m 212)) : Ci Γ (d + 2) MX12_count [rv 211, iv what] m (fun r m' => r = q_count (m 212) (m 211 5) what ∧ Fr sQ m m') := by
  refine Ci.of moX12_count rfl rfl (fun hA hM => ?_)
  show Em Γ (d + 2) MX12_count _ 0 [rv 211, iv what] [] m
  refine Ev.aload_n (q := 1) dX12_count_0 rfl rfl ?_
  refine Ev.iconst (q := 2) dX12_count_1 ki_0 rfl ?_
  refine pI (q := 5) dX12_count_2 gfX12_1 k211 rfl rfl ?_
  obtain ⟨M0, hM0⟩ : ∃ M0, M0 = up m 211 0 0 := ⟨_, rfl⟩
  rw [← hM0]
  have hF0 : Fr sQ m M0 := by rw [hM0]; exact (Fr.rf _ _).up rfl
  have g0 : M0 212 = m 212 := hF0.row 212 (fun _ => rfl)
  rw [← g0] at hI ⊢
  have hF12 := hI.1
  have hL3 := hI.2.1
  have hP8 := hI.2.2.1
  have g5 : M0 211 5 = m 211 5 := hF0 211 5 rfl
  rw [← g5]
  clear hM0
  refine Ev.iload_n (q := 6) dX12_count_5 rfl rfl ?_
  by_cases w0 : what = 0
  · subst w0
    refine Ev.tabIn (q := 56) dX12_count_6 (by decide) (by decide) rfl rfl ?_
    refine Ev.aload_n (q := 57) dX12_count_56 rfl rfl ?_
    refine gR (q := 60) dX12_count_57 gfX12_13 k211 r211_1 rfl rfl ?_
    refine Ev.iconst (q := 61) dX12_count_60 ki_1 rfl ?_
    refine aI (q := 62) (k := 1) dX12_count_61 k212 (by rfl) (by decide) rfl ?_
    refine rI dX12_count_62 rfl ?_
    refine ⟨?_, hF0⟩
    unfold q_count
    rw [if_pos rfl]
  by_cases w1 : what = 1
  · subst w1
    refine Ev.tabIn (q := 63) dX12_count_6 (by decide) (by decide) rfl rfl ?_
    refine Ev.aload_n (q := 64) dX12_count_63 rfl rfl ?_
    refine gR (q := 67) dX12_count_64 gfX12_13 k211 r211_1 rfl rfl ?_
    refine Ev.iconst (q := 68) dX12_count_67 ki_2 rfl ?_
    refine aI (q := 69) (k := 2) dX12_count_68 k212 (by rfl) (by decide) rfl ?_
    refine rI dX12_count_69 rfl ?_
    refine ⟨?_, hF0⟩
    unfold q_count
    rw [if_neg (show ¬ (1 : Int) = 0 by decide), if_pos rfl]
  by_cases w2 : what = 2
  · subst w2
    refine Ev.tabIn (q := 70) dX12_count_6 (by decide) (by decide) rfl rfl ?_
    refine Ev.aload_n (q := 71) dX12_count_70 rfl rfl ?_
    refine gR (q := 74) dX12_count_71 gfX12_13 k211 r211_1 rfl rfl ?_
    refine Ev.iconst (q := 75) dX12_count_74 ki_3 rfl ?_
    refine aI (q := 76) (k := 3) dX12_count_75 k212 (by rfl) (by decide) rfl ?_
    refine rI dX12_count_76 rfl ?_
    refine ⟨?_, hF0⟩
    unfold q_count
    rw [if_neg (show ¬ (2 : Int) = 0 by decide), if_neg (show ¬ (2 : Int) = 1 by decide), if_pos rfl]
  by_cases w3 : what = 3
  · subst w3
    refine Ev.tabIn (q := 77) dX12_count_6 (by decide) (by decide) rfl rfl ?_
    refine Ev.aload_n (q := 78) dX12_count_77 rfl rfl ?_
    refine cV0i (q := 81) (d' := d + 1) dX12_count_78 mlX12_441 moX12_inLifts mvX12_inLifts k211 rfl rfl rfl (Nat.le_refl _) rfl rfl rfl (p_X12_inLifts (by omega)) (fun r1 m1 e1 => ?_)
    obtain ⟨rfl, e1⟩ := e1
    obtain rfl := e1.symm
    refine rI dX12_count_81 rfl ?_
    refine ⟨?_, hF0⟩
    unfold q_count
    rw [if_neg (show ¬ (3 : Int) = 0 by decide), if_neg (show ¬ (3 : Int) = 1 by decide), if_neg (show ¬ (3 : Int) = 2 by decide), if_pos rfl]
  by_cases w4 : what = 4
  · subst w4
    refine Ev.tabIn (q := 82) dX12_count_6 (by decide) (by decide) rfl rfl ?_
    refine Ev.aload_n (q := 83) dX12_count_82 rfl rfl ?_
    refine cV0i (q := 86) (d' := d + 1) dX12_count_83 mlX12_331 moX12_atHome mvX12_atHome k211 rfl rfl rfl (Nat.le_refl _) rfl rfl rfl (p_X12_atHome (by omega)) (fun r2 m2 e2 => ?_)
    obtain ⟨rfl, e2⟩ := e2
    obtain rfl := e2.symm
    refine cS1i (q := 89) (d' := d + 1) dX12_count_86 mlX12_224 moX12_bitsOf msX12_bitsOf rfl rfl (Nat.le_refl _) rfl rfl rfl (p_X12_bitsOf (homS (M0 212)) (setN_12 _ (by omega))) (fun r3 m3 e3 => ?_)
    obtain ⟨rfl, e3⟩ := e3
    obtain rfl := e3.symm
    refine rI dX12_count_89 rfl ?_
    refine ⟨?_, hF0⟩
    unfold q_count
    rw [if_neg (show ¬ (4 : Int) = 0 by decide), if_neg (show ¬ (4 : Int) = 1 by decide), if_neg (show ¬ (4 : Int) = 2 by decide), if_neg (show ¬ (4 : Int) = 3 by decide), if_pos rfl]
  by_cases w5 : what = 5
  · subst w5
    refine Ev.tabIn (q := 90) dX12_count_6 (by decide) (by decide) rfl rfl ?_
    refine Ev.aload_n (q := 91) dX12_count_90 rfl rfl ?_
    refine cV0i (q := 94) (d' := d + 1) dX12_count_91 mlX12_334 moX12_lightsMany mvX12_lightsMany k211 rfl rfl rfl (Nat.le_refl _) rfl rfl rfl (p_X12_lightsMany hI) (fun r4 m4 e4 => ?_)
    obtain ⟨rfl, e4⟩ := e4
    obtain rfl := e4.symm
    refine rI dX12_count_94 rfl ?_
    refine ⟨?_, hF0⟩
    unfold q_count
    rw [if_neg (show ¬ (5 : Int) = 0 by decide), if_neg (show ¬ (5 : Int) = 1 by decide), if_neg (show ¬ (5 : Int) = 2 by decide), if_neg (show ¬ (5 : Int) = 3 by decide), if_neg (show ¬ (5 : Int) = 4 by decide), if_pos rfl]
  by_cases w6 : what = 6
  · subst w6
    refine Ev.tabIn (q := 95) dX12_count_6 (by decide) (by decide) rfl rfl ?_
    refine Ev.aload_n (q := 96) dX12_count_95 rfl rfl ?_
    refine gR (q := 99) dX12_count_96 gfX12_13 k211 r211_1 rfl rfl ?_
    refine Ev.bipush (q := 101) dX12_count_99 kb_96 rfl ?_
    refine aI (q := 102) (k := 96) dX12_count_101 k212 (by rfl) (by decide) rfl ?_
    refine rI dX12_count_102 rfl ?_
    refine ⟨?_, hF0⟩
    unfold q_count
    rw [if_neg (show ¬ (6 : Int) = 0 by decide), if_neg (show ¬ (6 : Int) = 1 by decide), if_neg (show ¬ (6 : Int) = 2 by decide), if_neg (show ¬ (6 : Int) = 3 by decide), if_neg (show ¬ (6 : Int) = 4 by decide), if_neg (show ¬ (6 : Int) = 5 by decide), if_pos rfl]
  by_cases w7 : what = 7
  · subst w7
    refine Ev.tabIn (q := 103) dX12_count_6 (by decide) (by decide) rfl rfl ?_
    refine Ev.aload_n (q := 104) dX12_count_103 rfl rfl ?_
    refine gI (q := 107) dX12_count_104 gfX12_56 k211 rfl rfl ?_
    refine rI dX12_count_107 rfl ?_
    refine ⟨?_, hF0⟩
    unfold q_count
    rw [if_neg (show ¬ (7 : Int) = 0 by decide), if_neg (show ¬ (7 : Int) = 1 by decide), if_neg (show ¬ (7 : Int) = 2 by decide), if_neg (show ¬ (7 : Int) = 3 by decide), if_neg (show ¬ (7 : Int) = 4 by decide), if_neg (show ¬ (7 : Int) = 5 by decide), if_neg (show ¬ (7 : Int) = 6 by decide), if_pos rfl]
  by_cases w8 : what = 8
  · subst w8
    refine Ev.tabIn (q := 108) dX12_count_6 (by decide) (by decide) rfl rfl ?_
    refine Ev.aload_n (q := 109) dX12_count_108 rfl rfl ?_
    refine gR (q := 112) dX12_count_109 gfX12_13 k211 r211_1 rfl rfl ?_
    refine Ev.iconst (q := 113) dX12_count_112 ki_0 rfl ?_
    refine aI (q := 114) (k := 0) dX12_count_113 k212 (by rfl) (by decide) rfl ?_
    refine rI dX12_count_114 rfl ?_
    refine ⟨?_, hF0⟩
    unfold q_count
    rw [if_neg (show ¬ (8 : Int) = 0 by decide), if_neg (show ¬ (8 : Int) = 1 by decide), if_neg (show ¬ (8 : Int) = 2 by decide), if_neg (show ¬ (8 : Int) = 3 by decide), if_neg (show ¬ (8 : Int) = 4 by decide), if_neg (show ¬ (8 : Int) = 5 by decide), if_neg (show ¬ (8 : Int) = 6 by decide), if_neg (show ¬ (8 : Int) = 7 by decide), if_pos rfl]
  refine Ev.tabOut (q := 115) dX12_count_6 (by omega) rfl ?_
  refine Ev.iconst (q := 116) dX12_count_115 ki_m1 rfl ?_
  refine rI dX12_count_116 rfl ?_
  refine ⟨?_, hF0⟩
  unfold q_count
  rw [if_neg w0, if_neg w1, if_neg w2, if_neg w3, if_neg w4, if_neg w5, if_neg w6, if_neg w7, if_neg w8]
set_option maxRecDepth 4000 in
theorem p_X12_fault {Γ : Gm} {d : Nat} {m : Mem} (what : Int) : Ci Γ (d + 0) MX12_fault [rv 211, iv what] m (fun r m' => r = (if what = 0 then m 211 13 else if what = 1 then m 211 14 else -1) ∧ Fr sQ m m') := by
  refine Ci.of moX12_fault rfl rfl (fun hA hM => ?_)
  show Em Γ (d + 0) MX12_fault _ 0 [rv 211, iv what] [] m
  refine Ev.aload_n (q := 1) dX12_fault_0 rfl rfl ?_
  refine Ev.iconst (q := 2) dX12_fault_1 ki_0 rfl ?_
  refine pI (q := 5) dX12_fault_2 gfX12_1 k211 rfl rfl ?_
  obtain ⟨M0, hM0⟩ : ∃ M0, M0 = up m 211 0 0 := ⟨_, rfl⟩
  rw [← hM0]
  have hF0 : Fr sQ m M0 := by rw [hM0]; exact (Fr.rf _ _).up rfl
  have g0 : M0 212 = m 212 := hF0.row 212 (fun _ => rfl)
  clear hM0
  have g13 : M0 211 13 = m 211 13 := hF0 211 13 rfl
  have g14 : M0 211 14 = m 211 14 := hF0 211 14 rfl
  rw [← g13, ← g14]
  refine Ev.iload_n (q := 6) dX12_fault_5 rfl rfl ?_
  refine Ev.if_ne (tgt := 16) (q := 9) dX12_fault_6 (by decide) rfl (fun h1 => ?_) (fun h1 => ?_)
  · skip
    refine Ev.iload_n (q := 17) dX12_fault_16 rfl rfl ?_
    refine Ev.iconst (q := 18) dX12_fault_17 ki_1 rfl ?_
    refine Ev.icmp_ne (tgt := 28) (q := 21) dX12_fault_18 (by decide) rfl (fun h2 => ?_) (fun h2 => ?_)
    · skip
      refine Ev.iconst (q := 29) dX12_fault_28 ki_m1 rfl ?_
      refine rI dX12_fault_29 rfl ?_
      exact ⟨by rw [if_neg (by assumption), if_neg (by assumption)], hF0⟩
    · skip
      refine Ev.aload_n (q := 22) dX12_fault_21 rfl rfl ?_
      refine gI (q := 25) dX12_fault_22 gfX12_27 k211 rfl rfl ?_
      refine Ev.goto (q := 29) dX12_fault_25 (by decide) ?_
      refine rI dX12_fault_29 rfl ?_
      exact ⟨by rw [if_neg (by assumption), if_pos (by assumption)], hF0⟩
  · skip
    refine Ev.aload_n (q := 10) dX12_fault_9 rfl rfl ?_
    refine gI (q := 13) dX12_fault_10 gfX12_177 k211 rfl rfl ?_
    refine Ev.goto (q := 29) dX12_fault_13 (by decide) ?_
    refine rI dX12_fault_29 rfl ?_
    exact ⟨by rw [if_pos (by assumption)], hF0⟩
