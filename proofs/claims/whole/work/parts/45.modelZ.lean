/-! ===== the reference: answers of rides ===== -/
set_option maxRecDepth 4000 in
theorem p_X12_homeBy {Γ : Gm} {d : Nat} {m : Mem} (p f : Int) (hI : HI (m 212)) : Ci Γ (d + 5) MX12_homeBy [rv 211, iv p, iv f] m (fun r m' => r = q_homeBy (m 212) p f ∧ Fr sQ m m') := by
  refine Ci.of moX12_homeBy rfl rfl (fun hA hM => ?_)
  show Em Γ (d + 5) MX12_homeBy _ 0 [rv 211, iv p, iv f, uv] [] m
  refine Ev.aload_n (q := 1) dX12_homeBy_0 rfl rfl ?_
  refine Ev.iconst (q := 2) dX12_homeBy_1 ki_0 rfl ?_
  refine pI (q := 5) dX12_homeBy_2 gfX12_1 k211 rfl rfl ?_
  obtain ⟨M0, hM0⟩ : ∃ M0, M0 = up m 211 0 0 := ⟨_, rfl⟩
  rw [← hM0]
  have hF0 : Fr sQ m M0 := by rw [hM0]; exact (Fr.rf _ _).up rfl
  have g0 : M0 212 = m 212 := hF0.row 212 (fun _ => rfl)
  rw [← g0] at hI ⊢
  have hF12 := hI.1
  have hL3 := hI.2.1
  have hP8 := hI.2.2.1
  refine Ev.aload_n (q := 6) dX12_homeBy_5 rfl rfl ?_
  refine Ev.iload_n (q := 7) dX12_homeBy_6 rfl rfl ?_
  refine Ev.i2l (q := 8) dX12_homeBy_7 rfl ?_
  refine cV1i (q := 11) (d' := d + 4) dX12_homeBy_8 mlX12_240 moX12_isPerson mvX12_isPerson k211 rfl rfl rfl (Nat.le_refl _) rfl rfl rfl (p_X12_isPerson p (by omega)) (fun r1 m1 e1 => ?_)
  obtain ⟨rfl, e1⟩ := e1
  obtain rfl := e1.symm
  refine Ev.if_eq (tgt := 23) (q := 14) dX12_homeBy_11 (by decide) rfl (fun h2 => ?_) (fun h2 => ?_)
  · skip
    have hPP : ¬ (0 ≤ p ∧ p < M0 212 3) := by split at h2 <;> omega
    refine Ev.bipush (q := 25) dX12_homeBy_23 kb_m2 rfl ?_
    refine rI dX12_homeBy_25 rfl ?_
    refine ⟨?_, hF0⟩
    unfold q_homeBy
    rw [if_neg (fun z => hPP z.1)]
  · skip
    have hPP : 0 ≤ p ∧ p < M0 212 3 := by split at h2 <;> omega
    obtain ⟨pn, rfl⟩ : ∃ pn : Nat, p = pn := ⟨p.toNat, by omega⟩
    have hperspn := hI.pers (p := pn) (by omega)
    refine Ev.aload_n (q := 15) dX12_homeBy_14 rfl rfl ?_
    refine Ev.iload_n (q := 16) dX12_homeBy_15 rfl rfl ?_
    refine Ev.i2l (q := 17) dX12_homeBy_16 rfl ?_
    refine cV1i (q := 20) (d' := d + 4) dX12_homeBy_17 mlX12_243 moX12_isFloor mvX12_isFloor k211 rfl rfl rfl (Nat.le_refl _) rfl rfl rfl (p_X12_isFloor f (by omega)) (fun r3 m3 e3 => ?_)
    obtain ⟨rfl, e3⟩ := e3
    obtain rfl := e3.symm
    refine Ev.if_ne (tgt := 26) (q := 23) dX12_homeBy_20 (by decide) rfl (fun h4 => ?_) (fun h4 => ?_)
    · skip
      have hFF : 0 ≤ f ∧ f < M0 212 1 := by split at h4 <;> omega
      obtain ⟨fn, rfl⟩ : ∃ fn : Nat, f = fn := ⟨f.toNat, by omega⟩
      refine Ev.aload_n (q := 27) dX12_homeBy_26 rfl rfl ?_
      refine gR (q := 30) dX12_homeBy_27 gfX12_13 k211 r211_1 rfl rfl ?_
      refine Ev.bipush (q := 32) dX12_homeBy_30 kb_88 rfl ?_
      refine Ev.iload_n (q := 33) dX12_homeBy_32 rfl rfl ?_
      refine Ev.iadd (q := 34) dX12_homeBy_33 rfl ?_
      refine aI (q := 35) (k := 88 + pn) dX12_homeBy_34 k212 (by first | rfl | omega | (simp (disch := omega) only [w32_of]; omega)) (by omega) rfl ?_
      refine Ev.iconst (q := 36) dX12_homeBy_35 ki_m1 rfl ?_
      refine Ev.icmp_ne (tgt := 42) (q := 39) dX12_homeBy_36 (by decide) rfl (fun h5 => ?_) (fun h5 => ?_)
      · skip
        have hin : ¬ M0 212 (88 + pn) = -1 := h5
        have hq := hperspn.2.2.2.2.2.resolve_left hin
        obtain ⟨ln, hln⟩ : ∃ ln : Nat, M0 212 (88 + pn) = ln := ⟨(M0 212 (88 + pn)).toNat, by omega⟩
        obtain ⟨hm, hhm⟩ : ∃ hm : Nat, M0 212 (28 + pn) = hm := ⟨(M0 212 (28 + pn)).toNat, by omega⟩
        have hliftln := hI.lift (l := ln) (by omega)
        have hlokln := hI.litOk (l := ln) (by omega)
        refine Ev.iload_n (q := 43) dX12_homeBy_42 rfl rfl ?_
        refine Ev.aload_n (q := 44) dX12_homeBy_43 rfl rfl ?_
        refine gR (q := 47) dX12_homeBy_44 gfX12_13 k211 r211_1 rfl rfl ?_
        refine Ev.bipush (q := 49) dX12_homeBy_47 kb_72 rfl ?_
        refine Ev.iload_n (q := 50) dX12_homeBy_49 rfl rfl ?_
        refine Ev.iadd (q := 51) dX12_homeBy_50 rfl ?_
        refine aI (q := 52) (k := 72 + pn) dX12_homeBy_51 k212 (by first | rfl | omega | (simp (disch := omega) only [w32_of]; omega)) (by omega) rfl ?_
        refine Ev.icmp_ne (tgt := 81) (q := 55) dX12_homeBy_52 (by decide) rfl (fun h6 => ?_) (fun h6 => ?_)
        · skip
          refine Ev.aload_n (q := 82) dX12_homeBy_81 rfl rfl ?_
          refine Ev.aload_n (q := 83) dX12_homeBy_82 rfl rfl ?_
          refine gR (q := 86) dX12_homeBy_83 gfX12_13 k211 r211_1 rfl rfl ?_
          refine Ev.bipush (q := 88) dX12_homeBy_86 kb_88 rfl ?_
          refine Ev.iload_n (q := 89) dX12_homeBy_88 rfl rfl ?_
          refine Ev.iadd (q := 90) dX12_homeBy_89 rfl ?_
          refine aI (q := 91) (k := 88 + pn) dX12_homeBy_90 k212 (by first | rfl | omega | (simp (disch := omega) only [w32_of]; omega)) (by omega) rfl ?_
          rw [hln]
          refine cV1v (q := 94) (d' := d + 4) dX12_homeBy_91 mlX12_234 moX12_loads mvX12_loads k211 rfl rfl rfl (Nat.le_refl _) rfl rfl rfl (p_X12_loads ln (by omega) hliftln.1.1 hliftln.2.1.1) (fun r7 m7 e7 => ?_)
          obtain ⟨hT0, hfr7⟩ := e7
          have hF1 := hF0.tr (hfr7.mono (fun a k q => sQ_T q))
          have g1 : m7 212 = M0 212 := hfr7.row 212 (fun _ => rfl)
          generalize m7 = M1 at *
          refine Ev.aload_n (q := 95) dX12_homeBy_94 rfl rfl ?_
          refine Ev.iload_n (q := 96) dX12_homeBy_95 rfl rfl ?_
          have hTc : TMc M1 ln ((M0 212 (60 + ln)).toNat, M0 212 (63 + ln), (M0 212 (66 + ln)).toNat, decide (M0 212 (69 + ln) = 1), M1 211 22) := ⟨hT0, rfl⟩
          refine cV1i (q := 99) (d' := d + 4) dX12_homeBy_96 mlX12_352 moX12_ridesTo mvX12_ridesTo k211 rfl rfl rfl (Nat.le_refl _) rfl rfl rfl (p_X12_ridesTo ln (M0 212 1).toNat fn _ _ _ _ _ (by rw [g1]; omega) (by omega) (by rw [g1]; exact hI.law1) (by omega) hTc (hI.liftOk (by omega) hlokln.1 hlokln.2)) (fun r8 m8 e8 => ?_)
          obtain ⟨hr9, -, hfr⟩ := e8
          have hF2 := hF1.tr (hfr.mono (fun a k q => sQ_T q))
          have hcm : r8 = cmV (M0 212) ln fn := by
            rw [hr9, g1]
            unfold cmV
            rw [rto_came _ _ _ _ (liftT (M0 212) ln) (M1 211 22)]
            rfl
          rw [hcm]
          have g2 : m8 212 = M0 212 := by rw [hfr.row 212 (fun _ => rfl)]; exact g1
          generalize m8 = M2 at *
          refine istore_n_3 (q := 100) dX12_homeBy_99 rfl rfl rfl ?_
          refine Ev.iload_n (q := 101) dX12_homeBy_100 rfl rfl ?_
          refine Ev.iconst (q := 102) dX12_homeBy_101 ki_m1 rfl ?_
          refine Ev.icmp_ne (tgt := 109) (q := 105) dX12_homeBy_102 (by decide) rfl (fun h9 => ?_) (fun h9 => ?_)
          · skip
            refine Ev.iload_n (q := 110) dX12_homeBy_109 rfl rfl ?_
            refine Ev.aload_n (q := 111) dX12_homeBy_110 rfl rfl ?_
            refine Ev.iload_n (q := 112) dX12_homeBy_111 rfl rfl ?_
            refine Ev.iload_n (q := 113) dX12_homeBy_112 rfl rfl ?_
            refine Ev.aload_n (q := 114) dX12_homeBy_113 rfl rfl ?_
            refine gR (q := 117) dX12_homeBy_114 gfX12_13 k211 r211_1 rfl rfl ?_
            refine Ev.bipush (q := 119) dX12_homeBy_117 kb_28 rfl ?_
            refine Ev.iload_n (q := 120) dX12_homeBy_119 rfl rfl ?_
            refine Ev.iadd (q := 121) dX12_homeBy_120 rfl ?_
            refine aI (q := 122) (k := 28 + pn) dX12_homeBy_121 k212 (by first | rfl | omega | (simp (disch := omega) only [w32_of]; omega)) (by omega) rfl ?_
            rw [g2, hhm]
            refine cV3i (q := 125) (d' := d + 4) dX12_homeBy_122 mlX12_246 moX12_footOf mvX12_footOf k211 rfl rfl rfl (Nat.le_refl _) rfl rfl rfl (p_X12_footOf pn fn hm (by omega) (by omega) (by omega) (by rw [g2]; exact hI.law0) (by rw [g2]; exact hperspn.2.1) (by rw [g2]; exact hperspn.2.2.1)) (fun r10 m10 e10 => ?_)
            obtain ⟨rfl, hfr3⟩ := e10
            have hF3 := hF2.tr (hfr3.mono (fun a k q => sQ_16 q))
            rw [g2]
            refine Ev.iadd (q := 126) dX12_homeBy_125 rfl ?_
            refine rI dX12_homeBy_126 rfl ?_
            refine ⟨?_, hF3⟩
            unfold q_homeBy
            rw [if_pos ⟨hPP, hFF⟩]
            simp only [Int.toNat_natCast]
            rw [if_neg hin, if_neg (by assumption), hln, hhm, Int.toNat_natCast, Int.toNat_natCast, if_neg (by assumption)]
          · skip
            refine Ev.iconst (q := 106) dX12_homeBy_105 ki_m1 rfl ?_
            refine Ev.goto (q := 126) dX12_homeBy_106 (by decide) ?_
            refine rI dX12_homeBy_126 rfl ?_
            refine ⟨?_, hF2⟩
            unfold q_homeBy
            rw [if_pos ⟨hPP, hFF⟩]
            simp only [Int.toNat_natCast]
            rw [if_neg hin, if_neg (by assumption), hln, Int.toNat_natCast, if_pos (by assumption)]
        · skip
          refine Ev.aload_n (q := 56) dX12_homeBy_55 rfl rfl ?_
          refine gR (q := 59) dX12_homeBy_56 gfX12_13 k211 r211_1 rfl rfl ?_
          refine Ev.bipush (q := 61) dX12_homeBy_59 kb_80 rfl ?_
          refine Ev.iload_n (q := 62) dX12_homeBy_61 rfl rfl ?_
          refine Ev.iadd (q := 63) dX12_homeBy_62 rfl ?_
          refine aI (q := 64) (k := 80 + pn) dX12_homeBy_63 k212 (by first | rfl | omega | (simp (disch := omega) only [w32_of]; omega)) (by omega) rfl ?_
          refine Ev.aload_n (q := 65) dX12_homeBy_64 rfl rfl ?_
          refine Ev.iload_n (q := 66) dX12_homeBy_65 rfl rfl ?_
          refine Ev.iload_n (q := 67) dX12_homeBy_66 rfl rfl ?_
          refine Ev.aload_n (q := 68) dX12_homeBy_67 rfl rfl ?_
          refine gR (q := 71) dX12_homeBy_68 gfX12_13 k211 r211_1 rfl rfl ?_
          refine Ev.bipush (q := 73) dX12_homeBy_71 kb_28 rfl ?_
          refine Ev.iload_n (q := 74) dX12_homeBy_73 rfl rfl ?_
          refine Ev.iadd (q := 75) dX12_homeBy_74 rfl ?_
          refine aI (q := 76) (k := 28 + pn) dX12_homeBy_75 k212 (by first | rfl | omega | (simp (disch := omega) only [w32_of]; omega)) (by omega) rfl ?_
          rw [hhm]
          refine cV3i (q := 79) (d' := d + 4) dX12_homeBy_76 mlX12_246 moX12_footOf mvX12_footOf k211 rfl rfl rfl (Nat.le_refl _) rfl rfl rfl (p_X12_footOf pn fn hm (by omega) (by omega) (by omega) (by exact hI.law0) (by exact hperspn.2.1) (by exact hperspn.2.2.1)) (fun r11 m11 e11 => ?_)
          obtain ⟨rfl, hfr⟩ := e11
          have hF1 := hF0.tr (hfr.mono (fun a k q => sQ_16 q))
          refine Ev.iadd (q := 80) dX12_homeBy_79 rfl ?_
          refine rI dX12_homeBy_80 rfl ?_
          refine ⟨?_, hF1⟩
          unfold q_homeBy
          rw [if_pos ⟨hPP, hFF⟩]
          simp only [Int.toNat_natCast]
          rw [if_neg hin, if_pos (by assumption), hhm, Int.toNat_natCast]
      · skip
        refine Ev.bipush (q := 41) dX12_homeBy_39 kb_m5 rfl ?_
        refine rI dX12_homeBy_41 rfl ?_
        refine ⟨?_, hF0⟩
        unfold q_homeBy
        rw [if_pos ⟨hPP, hFF⟩]
        simp only [Int.toNat_natCast]
        rw [if_pos (by assumption)]
    · skip
      have hFF : ¬ (0 ≤ f ∧ f < M0 212 1) := by split at h4 <;> omega
      refine Ev.bipush (q := 25) dX12_homeBy_23 kb_m2 rfl ?_
      refine rI dX12_homeBy_25 rfl ?_
      refine ⟨?_, hF0⟩
      unfold q_homeBy
      rw [if_neg (fun z => hFF z.2)]
set_option maxRecDepth 4000 in
theorem l_stopAt {Γ : Gm} {d : Nat} {m M0 : Mem} (l k F : Nat) (R : Int) (hF : M0 212 1 = F) (hl3 : l < 3) (hk : k < 12) (hI : HI (M0 212)) : ∀ (n i h : Nat) (tt : Int) (s : Nat) (uu : Bool) (c : Int) (x : Int) (M : Mem), i + n = k + 1 → Fr sQ m M → M 212 = M0 212 → TM M l (h, tt, s, uu, c) → tOk F (h, tt, s, uu, c) → (n = 0 → x = R) → (0 < n → rdK (M0 212 (22 + l)) (stopV (M0 212) l) (n - 1) (h, tt, s, uu, c) = R) → Em Γ (d + 4) MX12_stopAt (fun r m' => r = R ∧ Fr sQ m m') 42 [rv 211, iv l, iv k, iv x, iv i] [] M := by
  intro n
  induction n with
  | zero =>
    intro i h tt s uu c x M hi hFr g12 hT hok hx hR
    obtain rfl : i = k + 1 := by omega
    refine Ev.iload (q := 44) dX12_stopAt_42 rfl rfl ?_
    refine Ev.iload_n (q := 45) dX12_stopAt_44 rfl rfl ?_
    refine Ev.icmp_gt (tgt := 59) (q := 48) dX12_stopAt_45 (by decide) rfl (fun h1 => ?_) (fun h1 => ?_)
    · skip
      refine Ev.iload_n (q := 60) dX12_stopAt_59 rfl rfl ?_
      refine rI dX12_stopAt_60 rfl ?_
      exact ⟨hx (by omega), hFr⟩
    · skip
      omega
  | succ n ih =>
    intro i h tt s uu c x M hi hFr g12 hT hok hx hR
    refine Ev.iload (q := 44) dX12_stopAt_42 rfl rfl ?_
    refine Ev.iload_n (q := 45) dX12_stopAt_44 rfl rfl ?_
    refine Ev.icmp_gt (tgt := 59) (q := 48) dX12_stopAt_45 (by decide) rfl (fun h1 => ?_) (fun h1 => ?_)
    · skip
      omega
    · skip
      refine Ev.aload_n (q := 49) dX12_stopAt_48 rfl rfl ?_
      refine cV0i (q := 52) (d' := d + 3) dX12_stopAt_49 mlX12_251 moX12_goes mvX12_goes k211 rfl rfl rfl (Nat.le_refl _) rfl rfl rfl (p_X12_goes l F h tt s uu c hT hok (by rw [g12]; exact hF) hl3 (by rw [g12]; exact hI.law1)) (fun r2 m2 e2 => ?_)
      obtain ⟨eN, eS⟩ := e2
      rw [g12] at eN eS
      cases hq : tgo (M0 212 (22 + l)) (stopV (M0 212) l) (h, tt, s, uu, c) with
      | none =>
        obtain ⟨rfl, rfl⟩ := eN hq
        refine istore_n_3 (q := 53) dX12_stopAt_52 rfl rfl rfl ?_
        refine iinc_4 (q := 56) dX12_stopAt_53 rfl rfl rfl ?_
        refine Ev.goto (q := 42) dX12_stopAt_56 (by decide) ?_
        rw [w32_of (by omega) (by omega)]
        refine ih (i + 1) h tt s uu c _ _ (by omega) hFr g12 hT hok (fun _ => ?_) (fun hn => ?_)
        · rw [← hR (by omega)]
          obtain rfl : n = 0 := by omega
          show _ = rdK (M0 212 (22 + l)) (stopV (M0 212) l) 0 (h, tt, s, uu, c)
          unfold rdK
          rw [hq]
        · rw [← hR (by omega)]
          obtain ⟨n', rfl⟩ : ∃ n', n = n' + 1 := ⟨n - 1, by omega⟩
          show rdK _ _ n' _ = rdK _ _ (n' + 1) _
          conv => rhs; unfold rdK; rw [hq]
          cases n' <;> unfold rdK <;> rw [hq]
      | some t' =>
        obtain ⟨rfl, hT', hfr⟩ := eS t' hq
        have hok' := (tgo_ok hok hq).1
        have hF1 := hFr.tr (hfr.mono (fun a k q => sQ_T q))
        have g1 : m2 212 = M0 212 := by rw [hfr.row 212 (fun _ => rfl)]; exact g12
        refine istore_n_3 (q := 53) dX12_stopAt_52 rfl rfl rfl ?_
        refine iinc_4 (q := 56) dX12_stopAt_53 rfl rfl rfl ?_
        refine Ev.goto (q := 42) dX12_stopAt_56 (by decide) ?_
        rw [w32_of (by omega) (by omega)]
        obtain ⟨h9, tt9, s9, u9, c9⟩ := t'
        refine ih (i + 1) h9 tt9 s9 u9 c9 _ _ (by omega) hF1 g1 hT'.1 hok' (fun _ => ?_) (fun hn => ?_)
        · rw [← hR (by omega)]
          obtain rfl : n = 0 := by omega
          show _ = rdK (M0 212 (22 + l)) (stopV (M0 212) l) 0 (h, tt, s, uu, c)
          unfold rdK
          rw [hq]
        · rw [← hR (by omega)]
          obtain ⟨n', rfl⟩ : ∃ n', n = n' + 1 := ⟨n - 1, by omega⟩
          show rdK _ _ n' _ = rdK _ _ (n' + 1) _
          conv => rhs; unfold rdK; rw [hq]
set_option maxRecDepth 4000 in
theorem p_X12_stopAt {Γ : Gm} {d : Nat} {m : Mem} (l k : Int) (hI : HI (m 212)) : Ci Γ (d + 4) MX12_stopAt [rv 211, iv l, iv k] m (fun r m' => r = q_stopAt (m 212) l k ∧ Fr sQ m m') := by
  refine Ci.of moX12_stopAt rfl rfl (fun hA hM => ?_)
  show Em Γ (d + 4) MX12_stopAt _ 0 [rv 211, iv l, iv k, uv, uv] [] m
  refine Ev.aload_n (q := 1) dX12_stopAt_0 rfl rfl ?_
  refine Ev.iconst (q := 2) dX12_stopAt_1 ki_0 rfl ?_
  refine pI (q := 5) dX12_stopAt_2 gfX12_1 k211 rfl rfl ?_
  obtain ⟨M0, hM0⟩ : ∃ M0, M0 = up m 211 0 0 := ⟨_, rfl⟩
  rw [← hM0]
  have hF0 : Fr sQ m M0 := by rw [hM0]; exact (Fr.rf _ _).up rfl
  have g0 : M0 212 = m 212 := hF0.row 212 (fun _ => rfl)
  rw [← g0] at hI ⊢
  have hF12 := hI.1
  have hL3 := hI.2.1
  have hP8 := hI.2.2.1
  refine Ev.aload_n (q := 6) dX12_stopAt_5 rfl rfl ?_
  refine Ev.iload_n (q := 7) dX12_stopAt_6 rfl rfl ?_
  refine Ev.i2l (q := 8) dX12_stopAt_7 rfl ?_
  refine cV1i (q := 11) (d' := d + 3) dX12_stopAt_8 mlX12_230 moX12_isLift mvX12_isLift k211 rfl rfl rfl (Nat.le_refl _) rfl rfl rfl (p_X12_isLift l (by omega)) (fun r1 m1 e1 => ?_)
  obtain ⟨rfl, e1⟩ := e1
  obtain rfl := e1.symm
  refine Ev.if_ne (tgt := 17) (q := 14) dX12_stopAt_11 (by decide) rfl (fun h2 => ?_) (fun h2 => ?_)
  · skip
    have hLL : 0 ≤ l ∧ l < M0 212 2 := by split at h2 <;> omega
    obtain ⟨ln, rfl⟩ : ∃ ln : Nat, l = ln := ⟨l.toNat, by omega⟩
    have hliftln := hI.lift (l := ln) (by omega)
    have e66ln : M0 212 (66 + ln) = ((litV (M0 212) ln : Nat) : Int) := by unfold litV; have := hliftln.2.1.1; omega
    have hlokln := hI.litOk (l := ln) (by omega)
    refine Ev.iload_n (q := 18) dX12_stopAt_17 rfl rfl ?_
    refine Ev.if_ge (tgt := 24) (q := 21) dX12_stopAt_18 (by decide) rfl (fun h3 => ?_) (fun h3 => ?_)
    · skip
      refine Ev.iload_n (q := 25) dX12_stopAt_24 rfl rfl ?_
      refine Ev.bipush (q := 27) dX12_stopAt_25 kb_12 rfl ?_
      refine Ev.icmp_lt (tgt := 32) (q := 30) dX12_stopAt_27 (by decide) rfl (fun h4 => ?_) (fun h4 => ?_)
      · skip
        refine Ev.aload_n (q := 33) dX12_stopAt_32 rfl rfl ?_
        refine Ev.iload_n (q := 34) dX12_stopAt_33 rfl rfl ?_
        refine cV1v (q := 37) (d' := d + 3) dX12_stopAt_34 mlX12_234 moX12_loads mvX12_loads k211 rfl rfl rfl (Nat.le_refl _) rfl rfl rfl (p_X12_loads ln (by omega) hliftln.1.1 hliftln.2.1.1) (fun r5 m5 e5 => ?_)
        obtain ⟨hT0, hfr5⟩ := e5
        have hF1 := hF0.tr (hfr5.mono (fun a k q => sQ_T q))
        have g1 : m5 212 = M0 212 := hfr5.row 212 (fun _ => rfl)
        generalize m5 = M1 at *
        refine Ev.iconst (q := 38) dX12_stopAt_37 ki_m1 rfl ?_
        refine istore_n_3 (q := 39) dX12_stopAt_38 rfl rfl rfl ?_
        refine Ev.iconst (q := 40) dX12_stopAt_39 ki_0 rfl ?_
        refine istore_4 (q := 42) dX12_stopAt_40 rfl rfl rfl ?_
        obtain ⟨kn, rfl⟩ : ∃ kn : Nat, k = kn := ⟨k.toNat, by omega⟩
        unfold q_stopAt
        rw [if_pos hLL, if_neg (by omega), if_neg (by omega)]
        simp only [Int.toNat_natCast]
        exact l_stopAt (Γ := Γ) (d := d) (m := m) (M0 := M0) ln kn (M0 212 1).toNat _ (by omega) (by omega) (by omega) hI (kn + 1) 0 _ _ _ _ _ _ M1 (by omega) hF1 g1 hT0 (hI.liftOk (by omega) hlokln.1 hlokln.2).1 (fun z => by omega) (fun _ => rfl)
      · skip
        refine Ev.iconst (q := 31) dX12_stopAt_30 ki_m1 rfl ?_
        refine rI dX12_stopAt_31 rfl ?_
        refine ⟨?_, hF0⟩
        unfold q_stopAt
        rw [if_pos hLL, if_neg (by omega), if_pos (by omega)]
    · skip
      refine Ev.bipush (q := 23) dX12_stopAt_21 kb_m3 rfl ?_
      refine rI dX12_stopAt_23 rfl ?_
      refine ⟨?_, hF0⟩
      unfold q_stopAt
      rw [if_pos hLL, if_pos (by omega)]
  · skip
    have hLL : ¬ (0 ≤ l ∧ l < M0 212 2) := by split at h2 <;> omega
    refine Ev.bipush (q := 16) dX12_stopAt_14 kb_m2 rfl ?_
    refine rI dX12_stopAt_16 rfl ?_
    refine ⟨?_, hF0⟩
    unfold q_stopAt
    rw [if_neg hLL]
set_option maxRecDepth 4000 in
theorem l_restsBy {Γ : Gm} {d : Nat} {m M0 : Mem} (l F : Nat) (hF : M0 212 1 = F) (hl3 : l < 3) (hI : HI (M0 212)) : ∀ (n h : Nat) (tt : Int) (s : Nat) (uu : Bool) (c : Int) (M : Mem), pop s < n → Fr sQ m M → M 212 = M0 212 → TM M l (h, tt, s, uu, c) → tOk2 F (h, tt, s, uu, c) → Em Γ (d + 4) MX12_restsBy (fun r m' => r = rOut (M0 212 (22 + l)) (stopV (M0 212) l) n (h, tt, s, uu, c) ∧ Fr sQ m m') 22 [rv 211, iv l] [] M := by
  intro n
  induction n with
  | zero => intro h tt s uu c M hp; omega
  | succ n ih =>
    intro h tt s uu c M hp hFr g12 hT hok
    refine Ev.aload_n (q := 23) dX12_restsBy_22 rfl rfl ?_
    refine gI (q := 26) dX12_restsBy_23 gfX12_200 k211 rfl rfl ?_
    rw [hT.2.2.2.1]
    refine Ev.if_eq (tgt := 37) (q := 29) dX12_restsBy_26 (by decide) rfl (fun h1 => ?_) (fun h1 => ?_)
    · skip
      dsimp only at h1
      refine Ev.aload_n (q := 38) dX12_restsBy_37 rfl rfl ?_
      refine gI (q := 41) dX12_restsBy_38 gfX12_197 k211 rfl rfl ?_
      refine rI dX12_restsBy_41 rfl ?_
      refine ⟨?_, hFr⟩
      rw [hT.2.2.1]
      unfold rOut
      rw [tgo_zero (show s = 0 by omega)]
    · skip
      dsimp only at h1
      refine Ev.aload_n (q := 30) dX12_restsBy_29 rfl rfl ?_
      refine cV0i (q := 33) (d' := d + 3) dX12_restsBy_30 mlX12_251 moX12_goes mvX12_goes k211 rfl rfl rfl (Nat.le_refl _) rfl rfl rfl (p_X12_goes l F h tt s uu c hT hok.1 (by rw [g12]; exact hF) hl3 (by rw [g12]; exact hI.law1)) (fun r2 m2 e2 => ?_)
      obtain ⟨eN, eS⟩ := e2
      rw [g12] at eN eS
      obtain ⟨t', hq⟩ : ∃ t', tgo (M0 212 (22 + l)) (stopV (M0 212) l) (h, tt, s, uu, c) = some t' := by
        cases hq : tgo (M0 212 (22 + l)) (stopV (M0 212) l) (h, tt, s, uu, c) with
        | none =>
          have hz := tgo_none hok hq
          dsimp only at hz
          omega
        | some t' => exact ⟨t', rfl⟩
      obtain ⟨hr9, hT', hfr⟩ := eS t' hq
      have hok' := tgo_ok2 hok hq
      have hpop := tgo_pop hok hq
      dsimp only at hpop
      have hF1 := hFr.tr (hfr.mono (fun a k q => sQ_T q))
      have g1 : m2 212 = M0 212 := by rw [hfr.row 212 (fun _ => rfl)]; exact g12
      generalize m2 = M1 at *
      obtain ⟨h9, tt9, s9, u9, c9⟩ := t'
      dsimp only at hpop
      refine Ev.pop (q := 34) dX12_restsBy_33 (fun z => by cases z) rfl ?_
      refine Ev.goto (q := 22) dX12_restsBy_34 (by decide) ?_
      have hk9 := ih h9 tt9 s9 u9 c9 _ (by omega) hF1 g1 hT'.1 hok'
      rw [show rOut (M0 212 (22 + l)) (stopV (M0 212) l) (n + 1) (h, tt, s, uu, c) = rOut (M0 212 (22 + l)) (stopV (M0 212) l) n (h9, tt9, s9, u9, c9) by conv => lhs; unfold rOut; rw [hq]]
      exact hk9
set_option maxRecDepth 4000 in
theorem p_X12_restsBy {Γ : Gm} {d : Nat} {m : Mem} (l : Int) (hI : HI (m 212)) : Ci Γ (d + 4) MX12_restsBy [rv 211, iv l] m (fun r m' => r = q_restsBy (m 212) l ∧ Fr sQ m m') := by
  refine Ci.of moX12_restsBy rfl rfl (fun hA hM => ?_)
  show Em Γ (d + 4) MX12_restsBy _ 0 [rv 211, iv l] [] m
  refine Ev.aload_n (q := 1) dX12_restsBy_0 rfl rfl ?_
  refine Ev.iconst (q := 2) dX12_restsBy_1 ki_0 rfl ?_
  refine pI (q := 5) dX12_restsBy_2 gfX12_1 k211 rfl rfl ?_
  obtain ⟨M0, hM0⟩ : ∃ M0, M0 = up m 211 0 0 := ⟨_, rfl⟩
  rw [← hM0]
  have hF0 : Fr sQ m M0 := by rw [hM0]; exact (Fr.rf _ _).up rfl
  have g0 : M0 212 = m 212 := hF0.row 212 (fun _ => rfl)
  rw [← g0] at hI ⊢
  have hF12 := hI.1
  have hL3 := hI.2.1
  have hP8 := hI.2.2.1
  refine Ev.aload_n (q := 6) dX12_restsBy_5 rfl rfl ?_
  refine Ev.iload_n (q := 7) dX12_restsBy_6 rfl rfl ?_
  refine Ev.i2l (q := 8) dX12_restsBy_7 rfl ?_
  refine cV1i (q := 11) (d' := d + 3) dX12_restsBy_8 mlX12_230 moX12_isLift mvX12_isLift k211 rfl rfl rfl (Nat.le_refl _) rfl rfl rfl (p_X12_isLift l (by omega)) (fun r1 m1 e1 => ?_)
  obtain ⟨rfl, e1⟩ := e1
  obtain rfl := e1.symm
  refine Ev.if_ne (tgt := 17) (q := 14) dX12_restsBy_11 (by decide) rfl (fun h2 => ?_) (fun h2 => ?_)
  · skip
    have hLL : 0 ≤ l ∧ l < M0 212 2 := by split at h2 <;> omega
    obtain ⟨ln, rfl⟩ : ∃ ln : Nat, l = ln := ⟨l.toNat, by omega⟩
    have hliftln := hI.lift (l := ln) (by omega)
    have e66ln : M0 212 (66 + ln) = ((litV (M0 212) ln : Nat) : Int) := by unfold litV; have := hliftln.2.1.1; omega
    have hlokln := hI.litOk (l := ln) (by omega)
    refine Ev.aload_n (q := 18) dX12_restsBy_17 rfl rfl ?_
    refine Ev.iload_n (q := 19) dX12_restsBy_18 rfl rfl ?_
    refine cV1v (q := 22) (d' := d + 3) dX12_restsBy_19 mlX12_234 moX12_loads mvX12_loads k211 rfl rfl rfl (Nat.le_refl _) rfl rfl rfl (p_X12_loads ln (by omega) hliftln.1.1 hliftln.2.1.1) (fun r3 m3 e3 => ?_)
    obtain ⟨hT0, hfr3⟩ := e3
    have hF1 := hF0.tr (hfr3.mono (fun a k q => sQ_T q))
    have g1 : m3 212 = M0 212 := hfr3.row 212 (fun _ => rfl)
    generalize m3 = M1 at *
    unfold q_restsBy
    rw [if_pos hLL]
    simp only [Int.toNat_natCast]
    exact l_restsBy (Γ := Γ) (d := d) (m := m) (M0 := M0) ln (M0 212 1).toNat (by omega) (by omega) hI 13 _ _ _ _ _ M1 (by have := pop_le (litV (M0 212) ln); unfold litV at this; omega) hF1 g1 hT0 (hI.liftOk (by omega) hlokln.1 hlokln.2)
  · skip
    have hLL : ¬ (0 ≤ l ∧ l < M0 212 2) := by split at h2 <;> omega
    refine Ev.bipush (q := 16) dX12_restsBy_14 kb_m2 rfl ?_
    refine rI dX12_restsBy_16 rfl ?_
    refine ⟨?_, hF0⟩
    unfold q_restsBy
    rw [if_neg hLL]
set_option maxRecDepth 4000 in
theorem l_walkers {Γ : Gm} {d : Nat} {m M0 : Mem} (l P : Nat) (hP : M0 212 3 = P) (hP8 : P ≤ 8) (hI : HI (M0 212)) : ∀ (n p : Nat) (M : Mem), p + n = P → Fr sQ m M → M 212 = M0 212 → Em Γ (d + 6) MX12_walkers (fun r m' => r = (setN (wkQ (M0 212) l) P : Int) ∧ Fr sQ m m') 21 [rv 211, iv l, iv (setN (wkQ (M0 212) l) p : Nat), iv p] [] M := by
  intro n
  induction n with
  | zero =>
    intro p M hp hFr g12
    obtain rfl : P = p := by omega
    refine Ev.iload_n (q := 22) dX12_walkers_21 rfl rfl ?_
    refine Ev.aload_n (q := 23) dX12_walkers_22 rfl rfl ?_
    refine gR (q := 26) dX12_walkers_23 gfX12_13 k211 r211_1 rfl rfl ?_
    refine Ev.iconst (q := 27) dX12_walkers_26 ki_3 rfl ?_
    refine aI (q := 28) (k := 3) dX12_walkers_27 k212 (by rfl) (by decide) rfl ?_
    rw [g12, hP]
    refine Ev.icmp_ge (tgt := 85) (q := 31) dX12_walkers_28 (by decide) rfl (fun h1 => ?_) (fun h1 => ?_)
    · skip
      refine Ev.iload_n (q := 86) dX12_walkers_85 rfl rfl ?_
      refine rI dX12_walkers_86 rfl ?_
      exact ⟨rfl, hFr⟩
    · skip
      omega
  | succ n ih =>
    intro p M hp hFr g12
    have h12 := setN_12 (wkQ (M0 212) l) (show p ≤ 8 by omega)
    refine Ev.iload_n (q := 22) dX12_walkers_21 rfl rfl ?_
    refine Ev.aload_n (q := 23) dX12_walkers_22 rfl rfl ?_
    refine gR (q := 26) dX12_walkers_23 gfX12_13 k211 r211_1 rfl rfl ?_
    refine Ev.iconst (q := 27) dX12_walkers_26 ki_3 rfl ?_
    refine aI (q := 28) (k := 3) dX12_walkers_27 k212 (by rfl) (by decide) rfl ?_
    rw [g12, hP]
    refine Ev.icmp_ge (tgt := 85) (q := 31) dX12_walkers_28 (by decide) rfl (fun h1 => ?_) (fun h1 => ?_)
    · skip
      omega
    · skip
      refine Ev.aload_n (q := 32) dX12_walkers_31 rfl rfl ?_
      refine gR (q := 35) dX12_walkers_32 gfX12_13 k211 r211_1 rfl rfl ?_
      refine Ev.bipush (q := 37) dX12_walkers_35 kb_88 rfl ?_
      refine Ev.iload_n (q := 38) dX12_walkers_37 rfl rfl ?_
      refine Ev.iadd (q := 39) dX12_walkers_38 rfl ?_
      refine aI (q := 40) (k := 88 + p) dX12_walkers_39 k212 (by first | rfl | omega | (simp (disch := omega) only [w32_of]; omega)) (by omega) rfl ?_
      refine Ev.iload_n (q := 41) dX12_walkers_40 rfl rfl ?_
      rw [g12]
      refine Ev.icmp_eq (tgt := 47) (q := 44) dX12_walkers_41 (by decide) rfl (fun h2 => ?_) (fun h2 => ?_)
      · skip
        refine Ev.aload_n (q := 48) dX12_walkers_47 rfl rfl ?_
        refine Ev.iload_n (q := 49) dX12_walkers_48 rfl rfl ?_
        refine cV1i (q := 52) (d' := d + 5) dX12_walkers_49 mlX12_361 moX12_bestNow mvX12_bestNow k211 rfl rfl rfl (Nat.le_refl _) rfl rfl rfl (p_X12_bestNow p (by rw [g12]; exact hI) (by rw [g12]; omega)) (fun r3 m3 e3 => ?_)
        obtain ⟨hr9, e27, hfr⟩ := e3
        rw [g12] at e27
        have hF1 := hFr.tr (hfr.mono (fun a k q => sQ_Be q))
        have g1 : m3 212 = M0 212 := by rw [hfr.row 212 (fun _ => rfl)]; exact g12
        generalize m3 = M1 at *
        refine Ev.pop (q := 53) dX12_walkers_52 (fun z => by cases z) rfl ?_
        refine Ev.iload_n (q := 54) dX12_walkers_53 rfl rfl ?_
        refine Ev.aload_n (q := 55) dX12_walkers_54 rfl rfl ?_
        refine gI (q := 58) dX12_walkers_55 gfX12_355 k211 rfl rfl ?_
        refine Ev.aload_n (q := 59) dX12_walkers_58 rfl rfl ?_
        refine gR (q := 62) dX12_walkers_59 gfX12_13 k211 r211_1 rfl rfl ?_
        refine Ev.bipush (q := 64) dX12_walkers_62 kb_28 rfl ?_
        refine Ev.iload_n (q := 65) dX12_walkers_64 rfl rfl ?_
        refine Ev.iadd (q := 66) dX12_walkers_65 rfl ?_
        refine aI (q := 67) (k := 28 + p) dX12_walkers_66 k212 (by first | rfl | omega | (simp (disch := omega) only [w32_of]; omega)) (by omega) rfl ?_
        rw [g1, e27]
        refine Ev.icmp_ne (tgt := 74) (q := 70) dX12_walkers_67 (by decide) rfl (fun h4 => ?_) (fun h4 => ?_)
        · skip
          have hq : wkQ (M0 212) l p = true := by unfold wkQ; exact decide_eq_true ⟨by assumption, h4⟩
          refine Ev.iconst (q := 75) dX12_walkers_74 ki_1 rfl ?_
          refine Ev.iload_n (q := 76) dX12_walkers_75 rfl rfl ?_
          refine Ev.ishl (q := 77) dX12_walkers_76 rfl ?_
          refine Ev.ior (q := 78) dX12_walkers_77 rfl ?_
          refine istore_n_2 (q := 79) dX12_walkers_78 rfl rfl rfl ?_
          refine iinc_3 (q := 82) dX12_walkers_79 rfl rfl rfl ?_
          refine Ev.goto (q := 21) dX12_walkers_82 (by decide) ?_
          rw [ishl_1 p (by omega), ior_n (k := 12) h12 (two_lt (by omega)) (by decide)]
          rw [w32_of (by omega) (by omega)]
          have hk9 := ih (p + 1) _ (by omega) hF1 g1
          rw [show setN (wkQ (M0 212) l) (p + 1) = setN (wkQ (M0 212) l) p ||| 2 ^ p by conv => lhs; unfold setN; rw [if_pos hq]] at hk9
          exact hk9
        · skip
          have hq : ¬ wkQ (M0 212) l p = true := by unfold wkQ; intro z; exact (of_decide_eq_true z).2 h4
          refine Ev.iconst (q := 71) dX12_walkers_70 ki_0 rfl ?_
          refine Ev.goto (q := 77) dX12_walkers_71 (by decide) ?_
          refine Ev.ior (q := 78) dX12_walkers_77 rfl ?_
          refine istore_n_2 (q := 79) dX12_walkers_78 rfl rfl rfl ?_
          refine iinc_3 (q := 82) dX12_walkers_79 rfl rfl rfl ?_
          refine Ev.goto (q := 21) dX12_walkers_82 (by decide) ?_
          have hz : setN (wkQ (M0 212) l) p ||| 0 = setN (wkQ (M0 212) l) p := Nat.or_zero _
          rw [show (0 : Int) = ((0 : Nat) : Int) from rfl, ior_n (k := 12) h12 (by decide) (by decide), hz]
          rw [w32_of (by omega) (by omega)]
          have hk9 := ih (p + 1) _ (by omega) hF1 g1
          rw [show setN (wkQ (M0 212) l) (p + 1) = setN (wkQ (M0 212) l) p by conv => lhs; unfold setN; rw [if_neg hq]] at hk9
          exact hk9
      · skip
        have hq : ¬ wkQ (M0 212) l p = true := by unfold wkQ; intro z; exact h2 (of_decide_eq_true z).1
        refine Ev.goto (q := 79) dX12_walkers_44 (by decide) ?_
        refine iinc_3 (q := 82) dX12_walkers_79 rfl rfl rfl ?_
        refine Ev.goto (q := 21) dX12_walkers_82 (by decide) ?_
        rw [w32_of (by omega) (by omega)]
        have hk9 := ih (p + 1) _ (by omega) hFr g12
        rw [show setN (wkQ (M0 212) l) (p + 1) = setN (wkQ (M0 212) l) p by conv => lhs; unfold setN; rw [if_neg hq]] at hk9
        exact hk9
set_option maxRecDepth 4000 in
theorem p_X12_walkers {Γ : Gm} {d : Nat} {m : Mem} (l : Int) (hI : HI (m 212)) : Ci Γ (d + 6) MX12_walkers [rv 211, iv l] m (fun r m' => r = q_walkers (m 212) l ∧ Fr sQ m m') := by
  refine Ci.of moX12_walkers rfl rfl (fun hA hM => ?_)
  show Em Γ (d + 6) MX12_walkers _ 0 [rv 211, iv l, uv, uv] [] m
  refine Ev.aload_n (q := 1) dX12_walkers_0 rfl rfl ?_
  refine Ev.iconst (q := 2) dX12_walkers_1 ki_0 rfl ?_
  refine pI (q := 5) dX12_walkers_2 gfX12_1 k211 rfl rfl ?_
  obtain ⟨M0, hM0⟩ : ∃ M0, M0 = up m 211 0 0 := ⟨_, rfl⟩
  rw [← hM0]
  have hF0 : Fr sQ m M0 := by rw [hM0]; exact (Fr.rf _ _).up rfl
  have g0 : M0 212 = m 212 := hF0.row 212 (fun _ => rfl)
  rw [← g0] at hI ⊢
  have hF12 := hI.1
  have hL3 := hI.2.1
  have hP8 := hI.2.2.1
  refine Ev.aload_n (q := 6) dX12_walkers_5 rfl rfl ?_
  refine Ev.iload_n (q := 7) dX12_walkers_6 rfl rfl ?_
  refine Ev.i2l (q := 8) dX12_walkers_7 rfl ?_
  refine cV1i (q := 11) (d' := d + 5) dX12_walkers_8 mlX12_230 moX12_isLift mvX12_isLift k211 rfl rfl rfl (Nat.le_refl _) rfl rfl rfl (p_X12_isLift l (by omega)) (fun r1 m1 e1 => ?_)
  obtain ⟨rfl, e1⟩ := e1
  obtain rfl := e1.symm
  refine Ev.if_ne (tgt := 17) (q := 14) dX12_walkers_11 (by decide) rfl (fun h2 => ?_) (fun h2 => ?_)
  · skip
    have hLL : 0 ≤ l ∧ l < M0 212 2 := by split at h2 <;> omega
    obtain ⟨ln, rfl⟩ : ∃ ln : Nat, l = ln := ⟨l.toNat, by omega⟩
    have hliftln := hI.lift (l := ln) (by omega)
    have e66ln : M0 212 (66 + ln) = ((litV (M0 212) ln : Nat) : Int) := by unfold litV; have := hliftln.2.1.1; omega
    have hlokln := hI.litOk (l := ln) (by omega)
    refine Ev.iconst (q := 18) dX12_walkers_17 ki_0 rfl ?_
    refine istore_n_2 (q := 19) dX12_walkers_18 rfl rfl rfl ?_
    refine Ev.iconst (q := 20) dX12_walkers_19 ki_0 rfl ?_
    refine istore_n_3 (q := 21) dX12_walkers_20 rfl rfl rfl ?_
    unfold q_walkers
    rw [if_pos hLL]
    simp only [Int.toNat_natCast]
    exact l_walkers (Γ := Γ) (d := d) (m := m) (M0 := M0) ln (M0 212 3).toNat (by omega) (by omega) hI (M0 212 3).toNat 0 M0 (by omega) hF0 rfl
  · skip
    have hLL : ¬ (0 ≤ l ∧ l < M0 212 2) := by split at h2 <;> omega
    refine Ev.bipush (q := 16) dX12_walkers_14 kb_m2 rfl ?_
    refine rI dX12_walkers_16 rfl ?_
    refine ⟨?_, hF0⟩
    unfold q_walkers
    rw [if_neg hLL]
set_option maxRecDepth 4000 in
theorem l_choice {Γ : Gm} {d : Nat} {m M0 : Mem} (p L : Nat) (hL : M0 212 2 = L) (hL3 : L ≤ 3) (hp : (p : Int) < M0 212 3) (hI : HI (M0 212)) : ∀ (n l : Nat) (b s : Int) (v5 : Vl) (M : Mem), l + n = L → Fr sQ m M → M 212 = M0 212 → Em Γ (d + 6) MX12_choice (fun r m' => r = chN (waitV (M0 212) p) n l b s ∧ Fr sQ m m') 44 [rv 211, iv p, iv b, iv s, iv l, v5] [] M := by
  intro n
  induction n with
  | zero =>
    intro l b s v5 M hl hFr g12
    obtain rfl : L = l := by omega
    refine Ev.iload (q := 46) dX12_choice_44 rfl rfl ?_
    refine Ev.aload_n (q := 47) dX12_choice_46 rfl rfl ?_
    refine gR (q := 50) dX12_choice_47 gfX12_13 k211 r211_1 rfl rfl ?_
    refine Ev.iconst (q := 51) dX12_choice_50 ki_2 rfl ?_
    refine aI (q := 52) (k := 2) dX12_choice_51 k212 (by rfl) (by decide) rfl ?_
    rw [g12, hL]
    refine Ev.icmp_ge (tgt := 85) (q := 55) dX12_choice_52 (by decide) rfl (fun h1 => ?_) (fun h1 => ?_)
    · skip
      refine Ev.iload_n (q := 86) dX12_choice_85 rfl rfl ?_
      refine rI dX12_choice_86 rfl ?_
      exact ⟨rfl, hFr⟩
    · skip
      omega
  | succ n ih =>
    intro l b s v5 M hl hFr g12
    refine Ev.iload (q := 46) dX12_choice_44 rfl rfl ?_
    refine Ev.aload_n (q := 47) dX12_choice_46 rfl rfl ?_
    refine gR (q := 50) dX12_choice_47 gfX12_13 k211 r211_1 rfl rfl ?_
    refine Ev.iconst (q := 51) dX12_choice_50 ki_2 rfl ?_
    refine aI (q := 52) (k := 2) dX12_choice_51 k212 (by rfl) (by decide) rfl ?_
    rw [g12, hL]
    refine Ev.icmp_ge (tgt := 85) (q := 55) dX12_choice_52 (by decide) rfl (fun h1 => ?_) (fun h1 => ?_)
    · skip
      omega
    · skip
      refine Ev.aload_n (q := 56) dX12_choice_55 rfl rfl ?_
      refine Ev.iload_n (q := 57) dX12_choice_56 rfl rfl ?_
      refine Ev.iload (q := 59) dX12_choice_57 rfl rfl ?_
      refine cV2i (q := 62) (d' := d + 5) dX12_choice_59 mlX12_373 moX12_waitsFor mvX12_waitsFor k211 rfl rfl rfl (Nat.le_refl _) rfl rfl rfl (p_X12_waitsFor p l (by rw [g12]; exact hI) (by rw [g12]; exact hp) (by rw [g12]; omega)) (fun r2 m2 e2 => ?_)
      obtain ⟨rfl, hfr⟩ := e2
      rw [g12]
      have hF1 := hFr.tr (hfr.mono (fun a k q => sQ_T q))
      have g1 : m2 212 = M0 212 := by rw [hfr.row 212 (fun _ => rfl)]; exact g12
      generalize m2 = M1 at *
      refine istore_5 (q := 64) dX12_choice_62 rfl rfl rfl ?_
      refine Ev.iload (q := 66) dX12_choice_64 rfl rfl ?_
      refine Ev.iload_n (q := 67) dX12_choice_66 rfl rfl ?_
      refine Ev.icmp_lt (tgt := 73) (q := 70) dX12_choice_67 (by decide) rfl (fun h3 => ?_) (fun h3 => ?_)
      · skip
        refine Ev.iload (q := 75) dX12_choice_73 rfl rfl ?_
        refine istore_n_2 (q := 76) dX12_choice_75 rfl rfl rfl ?_
        refine Ev.iload (q := 78) dX12_choice_76 rfl rfl ?_
        refine istore_n_3 (q := 79) dX12_choice_78 rfl rfl rfl ?_
        refine iinc_4 (q := 82) dX12_choice_79 rfl rfl rfl ?_
        refine Ev.goto (q := 44) dX12_choice_82 (by decide) ?_
        rw [w32_of (by omega) (by omega)]
        have hk9 := ih (l + 1) l (waitV (M0 212) p l) (iv (waitV (M0 212) p l)) _ (by omega) hF1 g1
        rw [show chN (waitV (M0 212) p) (n + 1) l b s = chN (waitV (M0 212) p) n (l + 1) l (waitV (M0 212) p l) by conv => lhs; unfold chN; rw [if_pos (by omega)]]
        exact hk9
      · skip
        refine Ev.goto (q := 79) dX12_choice_70 (by decide) ?_
        refine iinc_4 (q := 82) dX12_choice_79 rfl rfl rfl ?_
        refine Ev.goto (q := 44) dX12_choice_82 (by decide) ?_
        rw [w32_of (by omega) (by omega)]
        have hk9 := ih (l + 1) b s (iv (waitV (M0 212) p l)) _ (by omega) hF1 g1
        rw [show chN (waitV (M0 212) p) (n + 1) l b s = chN (waitV (M0 212) p) n (l + 1) b s by conv => lhs; unfold chN; rw [if_neg (by omega)]]
        exact hk9
set_option maxRecDepth 4000 in
theorem p_X12_choice {Γ : Gm} {d : Nat} {m : Mem} (p : Int) (hI : HI (m 212)) : Ci Γ (d + 6) MX12_choice [rv 211, iv p] m (fun r m' => r = q_choice (m 212) p ∧ Fr sQ m m') := by
  refine Ci.of moX12_choice rfl rfl (fun hA hM => ?_)
  show Em Γ (d + 6) MX12_choice _ 0 [rv 211, iv p, uv, uv, uv, uv] [] m
  refine Ev.aload_n (q := 1) dX12_choice_0 rfl rfl ?_
  refine Ev.iconst (q := 2) dX12_choice_1 ki_0 rfl ?_
  refine pI (q := 5) dX12_choice_2 gfX12_1 k211 rfl rfl ?_
  obtain ⟨M0, hM0⟩ : ∃ M0, M0 = up m 211 0 0 := ⟨_, rfl⟩
  rw [← hM0]
  have hF0 : Fr sQ m M0 := by rw [hM0]; exact (Fr.rf _ _).up rfl
  have g0 : M0 212 = m 212 := hF0.row 212 (fun _ => rfl)
  rw [← g0] at hI ⊢
  have hF12 := hI.1
  have hL3 := hI.2.1
  have hP8 := hI.2.2.1
  refine Ev.aload_n (q := 6) dX12_choice_5 rfl rfl ?_
  refine Ev.iload_n (q := 7) dX12_choice_6 rfl rfl ?_
  refine Ev.i2l (q := 8) dX12_choice_7 rfl ?_
  refine cV1i (q := 11) (d' := d + 5) dX12_choice_8 mlX12_240 moX12_isPerson mvX12_isPerson k211 rfl rfl rfl (Nat.le_refl _) rfl rfl rfl (p_X12_isPerson p (by omega)) (fun r1 m1 e1 => ?_)
  obtain ⟨rfl, e1⟩ := e1
  obtain rfl := e1.symm
  refine Ev.if_ne (tgt := 17) (q := 14) dX12_choice_11 (by decide) rfl (fun h2 => ?_) (fun h2 => ?_)
  · skip
    have hPP : 0 ≤ p ∧ p < M0 212 3 := by split at h2 <;> omega
    obtain ⟨pn, rfl⟩ : ∃ pn : Nat, p = pn := ⟨p.toNat, by omega⟩
    have hperspn := hI.pers (p := pn) (by omega)
    refine Ev.aload_n (q := 18) dX12_choice_17 rfl rfl ?_
    refine gR (q := 21) dX12_choice_18 gfX12_13 k211 r211_1 rfl rfl ?_
    refine Ev.bipush (q := 23) dX12_choice_21 kb_88 rfl ?_
    refine Ev.iload_n (q := 24) dX12_choice_23 rfl rfl ?_
    refine Ev.iadd (q := 25) dX12_choice_24 rfl ?_
    refine aI (q := 26) (k := 88 + pn) dX12_choice_25 k212 (by first | rfl | omega | (simp (disch := omega) only [w32_of]; omega)) (by omega) rfl ?_
    refine Ev.iconst (q := 27) dX12_choice_26 ki_m1 rfl ?_
    refine Ev.icmp_eq (tgt := 33) (q := 30) dX12_choice_27 (by decide) rfl (fun h3 => ?_) (fun h3 => ?_)
    · skip
      have hin : M0 212 (88 + pn) = -1 := h3
      refine Ev.iconst (q := 34) dX12_choice_33 ki_m1 rfl ?_
      refine istore_n_2 (q := 35) dX12_choice_34 rfl rfl rfl ?_
      refine Ev.aload_n (q := 36) dX12_choice_35 rfl rfl ?_
      refine Ev.iload_n (q := 37) dX12_choice_36 rfl rfl ?_
      refine cV1i (q := 40) (d' := d + 5) dX12_choice_37 mlX12_361 moX12_bestNow mvX12_bestNow k211 rfl rfl rfl (Nat.le_refl _) rfl rfl rfl (p_X12_bestNow pn hI (by omega)) (fun r4 m4 e4 => ?_)
      obtain ⟨rfl, -, hfr⟩ := e4
      have hF1 := hF0.tr (hfr.mono (fun a k q => sQ_Be q))
      have g1 : m4 212 = M0 212 := hfr.row 212 (fun _ => rfl)
      generalize m4 = M1 at *
      refine istore_n_3 (q := 41) dX12_choice_40 rfl rfl rfl ?_
      refine Ev.iconst (q := 42) dX12_choice_41 ki_0 rfl ?_
      refine istore_4 (q := 44) dX12_choice_42 rfl rfl rfl ?_
      unfold q_choice
      rw [if_pos hPP]
      simp only [Int.toNat_natCast]
      rw [if_pos hin]
      exact l_choice (Γ := Γ) (d := d) (m := m) (M0 := M0) pn (M0 212 2).toNat (by omega) (by omega) (by omega) hI (M0 212 2).toNat 0 _ _ _ M1 (by omega) hF1 g1
    · skip
      refine Ev.bipush (q := 32) dX12_choice_30 kb_m5 rfl ?_
      refine rI dX12_choice_32 rfl ?_
      refine ⟨?_, hF0⟩
      unfold q_choice
      rw [if_pos hPP]
      simp only [Int.toNat_natCast]
      rw [if_neg (by assumption)]
  · skip
    have hPP : ¬ (0 ≤ p ∧ p < M0 212 3) := by split at h2 <;> omega
    refine Ev.bipush (q := 16) dX12_choice_14 kb_m2 rfl ?_
    refine rI dX12_choice_16 rfl ?_
    refine ⟨?_, hF0⟩
    unfold q_choice
    rw [if_neg hPP]
